/-! the word that is worked on is relaxed -/
theorem zha_t {L : List Int32} {t : Nat} (h : t ≤ L.length) (x : Int32) : zha (L.take t) x = zbh (wv L) (zix x) x t := by
  have e1 : L.take t = zP (wv L) t := by
    have := zP_take (wv L) (n := L.length) (a := t) h
    rw [zP_wL] at this; exact this
  rw [e1, zha_P]
theorem zRn_pre (r : Nat) (L : List Int32) : ∀ t, t ≤ L.length → (∀ e, e < t → zhb (wv L) e = -1) → zRn r [] L = zRn r (L.take t) (L.drop t)
  | 0, _, _ => rfl
  | t + 1, h, he => by
    rw [zRn_pre r L t (by omega) (fun e h1 => he e (by omega)), List.drop_eq_getElem_cons (by omega)]
    have e1 : wv L t = L[t] := by unfold wv; rw [List.getD_eq_getElem?_getD, List.getElem?_eq_getElem (by omega)]; rfl
    have e2 : zha (L.take t) L[t] = -1 := by rw [zha_t (by omega), ← e1]; exact he t (by omega)
    rw [zRn_take e2, List.take_append_getElem]
theorem zfe_pre {f : Nat → Int32} {b : Nat} : ∀ k e : Nat, e + k < 2 ^ 31 → zfe f e k = nI b → b < 2 ^ 31 → ∀ t, e ≤ t → t < b → zhb f t = -1
  | 0, e, _, h, hb, t, h1, h2 => absurd h.symm (nI_ne b hb)
  | k + 1, e, hk, h, hb, t, h1, h2 => by
    simp only [zfe] at h
    by_cases q : zhb f e = -1
    · rw [if_pos q] at h
      by_cases e1 : t = e
      · rw [e1]; exact q
      · exact zfe_pre k (e + 1) (by omega) h hb t (by omega) h2
    · rw [if_neg q] at h
      have := (nI_eq (by omega) hb).mp h
      omega
theorem zfe_no {f : Nat → Int32} : ∀ k e : Nat, e + k < 2 ^ 31 → zfe f e k = -1 → ∀ t, e ≤ t → t < e + k → zhb f t = -1
  | 0, e, _, h, t, h1, h2 => by omega
  | k + 1, e, hk, h, t, h1, h2 => by
    simp only [zfe] at h
    by_cases q : zhb f e = -1
    · rw [if_pos q] at h
      by_cases e1 : t = e
      · rw [e1]; exact q
      · exact zfe_no k (e + 1) (by omega) h t (by omega) (by omega)
    · rw [if_neg q] at h
      exact absurd h (nI_ne e (by omega))
/-- no handle: it is relaxed -/
theorem zRn_done {L : List Int32} (hlen : L.length ≤ 400) (h : zfe (wv L) 0 L.length = -1) (r : Nat) : zRn r [] L = some (r, L) := by
  rw [zRn_pre r L L.length (Nat.le_refl _) (fun e he => zfe_no L.length 0 (by omega) h e (by omega) (by omega)), List.take_length, List.drop_length, zRn_nil]
theorem zRn_at {L : List Int32} {a b : Nat} (hlen : L.length ≤ 400) (hb : b < L.length) (h : zfe (wv L) 0 L.length = nI b) (r : Nat) : zRn r [] L = zRn r (L.take b) (wv L b :: L.drop (b + 1)) ∧ zha (L.take b) (wv L b) = zhb (wv L) b := by
  have e1 : wv L b = L[b] := by unfold wv; rw [List.getD_eq_getElem?_getD, List.getElem?_eq_getElem hb]; rfl
  refine ⟨?_, zha_t (by omega) _⟩
  rw [zRn_pre r L b (by omega) (fun e he => zfe_pre L.length 0 (by omega) h (by omega) e (by omega) he), List.drop_eq_getElem_cons hb, e1]
theorem zRn_r0 {L : List Int32} {a b : Nat} (hlen : L.length ≤ 400) (hb : b < L.length) (h : zfe (wv L) 0 L.length = nI b) (ha : zhb (wv L) b = nI a) (hab : a < b) : zRn 0 [] L = none := by
  obtain ⟨e1, e2⟩ := zRn_at (a := a) hlen hb h 0
  rw [e1]
  exact zRn_0 (by rw [e2, ha]; exact nI_ne a (by omega))
theorem zRn_r1 {L : List Int32} {a b : Nat} (hlen : L.length ≤ 400) (hb : b < L.length) (h : zfe (wv L) 0 L.length = nI b) (ha : zhb (wv L) b = nI a) (hab : a < b) (r : Nat) : zRn (r + 1) [] L = if 400 < (zrD (wv L) a b L.length).length then none else zRn r [] (zrD (wv L) a b L.length) := by
  obtain ⟨e1, e2⟩ := zRn_at (a := a) hlen hb h (r + 1)
  have lt : (L.take b).length = b := by rw [List.length_take]; exact Nat.min_eq_left (by omega)
  have eD := zrD_L hab hb
  have tt : (L.take b).take a = L.take a := by rw [List.take_take, Nat.min_eq_left (by omega)]
  have la : (L.take a).length = a := by rw [List.length_take]; exact Nat.min_eq_left (by omega)
  have lD : (zrD (wv L) a b L.length).length = a + ((zinn (L.take b) a).length + (L.drop (b + 1)).length) := by
    rw [eD, List.length_append, List.length_append, tt, la]
  rw [e1, zRn_s (by rw [e2, ha]) (by omega) (by omega), ← lD]
  by_cases e4 : 400 < (zrD (wv L) a b L.length).length
  · rw [if_pos e4, if_pos e4]
  · rw [if_neg e4, if_neg e4]
    have e5 := zRn_pre r (zrD (wv L) a b L.length) a (by omega) (fun e he => by
      have hcg : ∀ k, k ≤ e → wv (zrD (wv L) a b L.length) k = wv L k := fun k hk => by
        rw [eD, tt]
        unfold wv
        rw [List.getD_eq_getElem?_getD, List.getD_eq_getElem?_getD, List.getElem?_append_left (by omega), List.getElem?_take_of_lt (by omega)]
      rw [zhb_congr hcg]
      exact zfe_pre L.length 0 (by omega) h (by omega) e (by omega) (by omega))
    rw [e5]
    congr 1
    · rw [eD, tt, List.take_left' la]
    · rw [eD, tt, List.drop_left' la]
set_option maxHeartbeats 400000 in
set_option maxRecDepth 100000 in
theorem l_mrx {X : zX} (hX : X.1.stackTraces = false) {σ : zS} {y : Nat} {F : Nat → Int32} {L : List Int32} : ∀ (r c : Nat) (M : List Int32) (s : zS) (u v : Int32), (c + r = 2000) → (zAll M) → (M.length ≤ 400) → (zFr σ s (fun q => q = y ∨ q = y + 7 ∨ q = y + 8)) → (s.1 y = zmO y (upd (upd (upd (upd F 19 (nI M.length)) 20 (nI c)) 21 u) 22 v)) → (zWk y M s) → (zCy y s) → (zRn 2000 [] L = zRn r [] M) → zW X mX10_relaxes 2 0 0 (zI (fun y_ s => ∃ (m c u v : Int32) (W : List Int32), zFr σ s (fun q => q = y ∨ q = y + 7 ∨ q = y + 8) ∧ s.1 y = zmO y (upd (upd (upd (upd F 19 m) 20 c) 21 u) 22 v) ∧ zCy y s ∧ zWk y W s ∧ ((y_ = 0 ∧ zRn 2000 [] L = none) ∨ ∃ q, y_ = 1 ∧ zRn 2000 [] L = some (q, W) ∧ m = nI W.length ∧ c = nI (2000 - q) ∧ W.length ≤ 400 ∧ q ≤ 2000))) 5 [some (.ref y)] [] s := by
  intro r
  induction r with
  | zero =>
    intro c M s u v hc hM hl4 hFr k0 kW kC hR
    refine zr_aload_n dX10_relaxes_5 rfl ?_
    refine zr_callVi [] dX10_relaxes_6 vX10_107 (qX10_finds hX k0 rfl kW hM (by omega)) k0 (by decide) (by decide) (by decide) rfl rfl (Nat.le_of_ble_eq_true rfl) (by decide) rfl (fun r1 s1 h1 => ?_)
    obtain ⟨u1, v1, F1, g0, h2⟩ := h1
    have G0 : s1.1 y = zmO y (upd (upd (upd (upd F 19 (nI M.length)) 20 (nI c)) 21 u1) 22 v1) := g0
    have kF1 := zFr.tr hFr F1 (by intro q hq; omega)
    have kW1 := zWk.fr kW F1 (by intro q a b c; omega)
    have kC1 := zCy.fr kC F1 (by intro q a b c; omega)
    rcases h2 with ⟨rfl, hz⟩ | ⟨a, b, rfl, hab, hb, hz, hzb, hx, rfl, rfl⟩
    · refine zr_if_eq (tgt := 50) dX10_relaxes_9 (by decide) (fun c_9 => ?_) (fun c_9 => absurd (by decide) c_9)
      refine zr_iconst (v := 1) dX10_relaxes_50 (by decide) ?_
      exact zr_ireturn dX10_relaxes_51 rfl (rfl) (⟨_, rfl, _, _, _, _, M, kF1, G0, kC1, kW1, Or.inr ⟨0, rfl, by rw [hR]; exact zRn_done hl4 hz _, rfl, congrArg nI (by omega), hl4, by omega⟩⟩)
    · refine zr_if_eq (tgt := 50) dX10_relaxes_9 (by decide) (fun c_9 => absurd c_9 (by decide)) (fun c_9 => ?_)
      refine zr_aload_n dX10_relaxes_12 rfl ?_
      refine zr_getM (v := .int (nI c)) dX10_relaxes_13 fX10_104 G0 rfl ?_
      refine zr_sipush (v := 2000) dX10_relaxes_16 (by decide) ?_
      refine zr_icmp_ne (tgt := 24) dX10_relaxes_19 (by decide) (fun c_19 => absurd (by have e1 : c = 2000 := (by omega); rw [e1]; rfl) c_19) (fun c_19 => ?_)
      refine zr_iconst (v := 0) dX10_relaxes_22 (by decide) ?_
      exact zr_ireturn dX10_relaxes_23 rfl (rfl) (⟨_, rfl, _, _, _, _, M, kF1, G0, kC1, kW1, Or.inl ⟨rfl, by rw [hR]; exact zRn_r0 hl4 hb hz hzb hab⟩⟩)
  | succ r ih =>
    intro c M s u v hc hM hl4 hFr k0 kW kC hR
    refine zr_aload_n dX10_relaxes_5 rfl ?_
    refine zr_callVi [] dX10_relaxes_6 vX10_107 (qX10_finds hX k0 rfl kW hM (by omega)) k0 (by decide) (by decide) (by decide) rfl rfl (Nat.le_of_ble_eq_true rfl) (by decide) rfl (fun r1 s1 h1 => ?_)
    obtain ⟨u1, v1, F1, g0, h2⟩ := h1
    have G0 : s1.1 y = zmO y (upd (upd (upd (upd F 19 (nI M.length)) 20 (nI c)) 21 u1) 22 v1) := g0
    have kF1 := zFr.tr hFr F1 (by intro q hq; omega)
    have kW1 := zWk.fr kW F1 (by intro q a b c; omega)
    have kC1 := zCy.fr kC F1 (by intro q a b c; omega)
    rcases h2 with ⟨rfl, hz⟩ | ⟨a, b, rfl, hab, hb, hz, hzb, hx, rfl, rfl⟩
    · refine zr_if_eq (tgt := 50) dX10_relaxes_9 (by decide) (fun c_9 => ?_) (fun c_9 => absurd (by decide) c_9)
      refine zr_iconst (v := 1) dX10_relaxes_50 (by decide) ?_
      exact zr_ireturn dX10_relaxes_51 rfl (rfl) (⟨_, rfl, _, _, _, _, M, kF1, G0, kC1, kW1, Or.inr ⟨r + 1, rfl, by rw [hR]; exact zRn_done hl4 hz _, rfl, congrArg nI (by omega), hl4, by omega⟩⟩)
    · refine zr_if_eq (tgt := 50) dX10_relaxes_9 (by decide) (fun c_9 => absurd c_9 (by decide)) (fun c_9 => ?_)
      refine zr_aload_n dX10_relaxes_12 rfl ?_
      refine zr_getM (v := .int (nI c)) dX10_relaxes_13 fX10_104 G0 rfl ?_
      refine zr_sipush (v := 2000) dX10_relaxes_16 (by decide) ?_
      refine zr_icmp_ne (tgt := 24) dX10_relaxes_19 (by decide) (fun c_19 => ?_) (fun c_19 => absurd c_19 (fun h => absurd ((nI_eq (a := c) (b := 2000) (by omega) (by omega)).mp h) (by omega)))
      refine zr_aload_n dX10_relaxes_24 rfl ?_
      refine zr_callVv [] dX10_relaxes_25 vX10_111 (qX10_reduces hX G0 rfl rfl rfl kW1 hM hl4 hab hb hx kC1) G0 (by decide) (by decide) (by decide) rfl rfl (Nat.le_of_ble_eq_true rfl) (by decide) rfl (fun s2 h3 => ?_)
      obtain ⟨F2, g2, kW2, kC2⟩ := h3
      generalize eD : zrD (wv M) a b M.length = D at g2 kW2
      have G2 : s2.1 y = zmO y (upd (upd (upd (upd F 19 (nI D.length)) 20 (nI c)) 21 (nI a)) 22 (nI b)) := g2
      have d3 : D.length ≤ 1200 := by have := zrD_3 (wv M) a b M.length; rw [eD] at this; omega
      have kF2 := zFr.tr kF1 F2 (fun q hq => hq)
      refine zr_aload_n dX10_relaxes_28 rfl ?_
      refine zr_dup dX10_relaxes_29 rfl ?_
      refine zr_getM (v := .int (nI c)) dX10_relaxes_30 fX10_104 G2 rfl ?_
      refine zr_iconst (v := 1) dX10_relaxes_33 (by decide) ?_
      refine zr_iadd dX10_relaxes_34 ?_
      refine zr_eqi (x' := nI (c + 1)) (nI_add c 1) ?_
      refine zr_putM (v := nI (c + 1)) dX10_relaxes_35 pX10_104 G2 (rfl) (rfl) (Nat.le_of_ble_eq_true rfl) (zms_20 _ _ _) ?_
      refine zr_sig (fun ks1 e_ks1 => ?_)
      have kh2 : ks1.1 y = zmO y (upd (upd (upd (upd F 19 (nI D.length)) 20 (nI (c + 1))) 21 (nI a)) 22 (nI b)) := by rw [e_ks1]; exact zup_at _ _ _
      have kF3 := zFr.put kF2 e_ks1 (by first | omega | simp)
      have kR4 : zWk y D ks1 := zWk.fr kW2 (zFr.put (P := fun q => q = y) zFr.rf e_ks1 rfl) (by intro q h1 h2 h3; (try simp only [zIn, zJf] at h3); omega)
      have kR5 : zCy y ks1 := zCy.fr kC2 (zFr.put (P := fun q => q = y) zFr.rf e_ks1 rfl) (by intro q h1 h2 h3; (try simp only [zIn, zJf] at h3); omega)
      refine zr_aload_n dX10_relaxes_38 rfl ?_
      refine zr_getM (v := .int (nI D.length)) dX10_relaxes_39 fX10_79 kh2 rfl ?_
      refine zr_sipush (v := 400) dX10_relaxes_42 (by decide) ?_
      refine zr_icmp_le (tgt := 5) dX10_relaxes_45 (by decide) (fun c_45 => ?_) (fun c_45 => ?_)
      · exact ih (c + 1) D _ _ _ (by omega) (by rw [← eD]; exact zrD_lt hM (by omega) _ (Nat.le_refl _)) ((nI_leI (b := 400) (by omega) (by omega)).mp c_45) kF3 kh2 kR4 kR5 (by rw [hR, zRn_r1 hl4 hb hz hzb hab, eD, if_neg (fun q => by have := (nI_leI (b := 400) (by omega) (by omega)).mp c_45; omega)])
      · refine zr_iconst (v := 0) dX10_relaxes_48 (by decide) ?_
        exact zr_ireturn dX10_relaxes_49 rfl (rfl) (⟨_, rfl, _, _, _, _, D, kF3, kh2, kR5, kR4, Or.inl ⟨rfl, by rw [hR, zRn_r1 hl4 hb hz hzb hab, eD, if_pos (Nat.lt_of_not_le (fun q => c_45 ((nI_leI (b := 400) (by omega) (by omega)).mpr q)))]⟩⟩)

set_option maxHeartbeats 400000 in
set_option maxRecDepth 100000 in
theorem qX10_relaxes {X : zX} (hX : X.1.stackTraces = false) {σ : zS} {y : Nat} {F : Nat → Int32} {L : List Int32} (h0 : σ.1 y = zmO y F) (hF : F 19 = nI L.length) (hL : zWk y L σ) (hl : zAll L) (hlen : L.length ≤ 400) (hC : zCy y σ) : zMet X mX10_relaxes yX10_relaxes 2 0 0 [.ref y] σ (zI (fun y_ s => ∃ (m c u v : Int32) (W : List Int32), zFr σ s (fun q => q = y ∨ q = y + 7 ∨ q = y + 8) ∧ s.1 y = zmO y (upd (upd (upd (upd F 19 m) 20 c) 21 u) 22 v) ∧ zCy y s ∧ zWk y W s ∧ ((y_ = 0 ∧ zRn 2000 [] L = none) ∨ ∃ q, y_ = 1 ∧ zRn 2000 [] L = some (q, W) ∧ m = nI W.length ∧ c = nI (2000 - q) ∧ W.length ≤ 400 ∧ q ≤ 2000))) := by
  refine zMet_of (ls := [some (.ref y)]) rfl (by decide +kernel) rfl (fun h => by cases h) hX (Nat.le_of_ble_eq_true rfl) rfl ?_
  refine zr_aload_n dX10_relaxes_0 rfl ?_
  refine zr_iconst (v := 0) dX10_relaxes_1 (by decide) ?_
  refine zr_putM (v := 0) dX10_relaxes_2 pX10_104 h0 (rfl) (rfl) (Nat.le_of_ble_eq_true rfl) (zms_20 _ _ _) ?_
  refine zr_sig (fun ks1 e_ks1 => ?_)
  have kh2 : ks1.1 y = zmO y (upd F 20 0) := by rw [e_ks1]; exact zup_at _ _ _
  have kF3 := zFr.put zFr.rf (P := (fun q => q = y ∨ q = y + 7 ∨ q = y + 8)) e_ks1 (by first | omega | simp)
  have kR4 : zWk y L ks1 := zWk.fr hL (zFr.put (P := fun q => q = y) zFr.rf e_ks1 rfl) (by intro q h1 h2 h3; (try simp only [zIn, zJf] at h3); omega)
  have kR5 : zCy y ks1 := zCy.fr hC (zFr.put (P := fun q => q = y) zFr.rf e_ks1 rfl) (by intro q h1 h2 h3; (try simp only [zIn, zJf] at h3); omega)
  exact l_mrx hX 2000 0 L _ (F 21) (F 22) rfl hl hlen kF3 (by rw [kh2]; exact zmO_cg (fun k _ => by simp only [upd]; by_cases e1 : k = 22; (rw [if_pos e1, if_neg (by omega), e1]); rw [if_neg e1]; by_cases e2 : k = 21; (rw [if_pos e2, if_neg (by omega), e2]); rw [if_neg e2]; by_cases e3 : k = 20; (rw [if_pos e3, if_pos e3]; rfl); rw [if_neg e3, if_neg e3]; by_cases e4 : k = 19; (rw [if_pos e4, e4]; exact hF); rw [if_neg e4])) kR4 kR5 rfl

theorem zlm_0 (f : Nat → Int32) {n : Nat} (h : ∀ k, k < n → zLt (f k)) : ∀ i, i ≤ n → (zlm f i = 0 ∧ i = 0) ∨ zLt (zlm f i)
  | 0, _ => Or.inl ⟨rfl, rfl⟩
  | i + 1, hi => by
    simp only [zlm]
    split
    · exact Or.inr (h i (by omega))
    · rename_i q
      rcases zlm_0 f h i (by omega) with a | a
      · exact absurd (Or.inl a.1) q
      · exact Or.inr a
/-- the least index so far, 9 at the start -/
def zls (f : Nat → Int32) (i : Nat) : Int32 := if zlm f i = 0 then 9 else zix (zlm f i)
theorem zls_s {f : Nat → Int32} {n i : Nat} (h : ∀ k, k < n → zLt (f k)) (hi : i < n) : (zls f i ≤ zix (f i) → zls f (i + 1) = zls f i ∧ zlm f (i + 1) = zlm f i) ∧ (¬ zls f i ≤ zix (f i) → zls f (i + 1) = zix (f i) ∧ zlm f (i + 1) = f i) := by
  have hf := h i hi
  have f0 : ¬ f i = 0 := by rcases hf with e | e | e | e | e | e | e | e <;> rw [e] <;> decide
  have f9 : zix (f i) < 9 := by rcases hf with e | e | e | e | e | e | e | e <;> rw [e] <;> decide +kernel
  constructor
  · intro q
    have e : ¬ (zlm f i = 0 ∨ zix (f i) < zix (zlm f i)) := by
      rintro (e | e)
      · unfold zls at q; rw [if_pos e] at q; exact Int32.not_lt.mpr q f9
      · unfold zls at q
        by_cases e0 : zlm f i = 0
        · rw [if_pos e0] at q; exact Int32.not_lt.mpr q f9
        · rw [if_neg e0] at q; exact Int32.not_lt.mpr q e
    have e2 : zlm f (i + 1) = zlm f i := by simp only [zlm]; rw [if_neg e]
    exact ⟨by unfold zls; rw [e2], e2⟩
  · intro q
    have e : zlm f i = 0 ∨ zix (f i) < zix (zlm f i) := by
      by_cases e0 : zlm f i = 0
      · exact Or.inl e0
      · unfold zls at q; rw [if_neg e0] at q; exact Or.inr (Int32.not_le.mp q)
    have e2 : zlm f (i + 1) = f i := by simp only [zlm]; rw [if_pos e]
    exact ⟨by unfold zls; rw [e2, if_neg f0], e2⟩
set_option maxHeartbeats 400000 in
set_option maxRecDepth 100000 in
theorem l_msr {X : zX} (hX : X.1.stackTraces = false) {σ : zS} {y : Nat} {F : Nat → Int32} {L : List Int32} (h0 : σ.1 y = zmO y F) (hF : F 19 = nI L.length) (hL : zWk y L σ) (hl : zAll L) (hlen : L.length ≤ 400) : ∀ (j i : Nat) (b : Int32) (g : Int32), i + j = L.length → (b = zls (wv L) i) → (g = zsg (zlm (wv L) i).toInt64) → zW X mX10_signRelaxed 1 0 0 ((zI (fun y_ s_ => y_ = zsW L ∧ s_ = σ))) 7 [some (.ref y), some (.int b), some (.int g), some (.int (nI i))] [] σ := by
  intro j
  induction j with
  | zero =>
    intro i b g hi hb hg
    obtain ⟨wk, w1, w2⟩ := id hL
    have hv := zwv_lt hl
    refine zr_iload_n dX10_signRelaxed_7 rfl ?_
    refine zr_aload_n dX10_signRelaxed_8 rfl ?_
    refine zr_getM (v := .int (F 19)) dX10_signRelaxed_9 fX10_79 h0 rfl ?_
    refine zr_eqi (x' := nI L.length) (hF) ?_
    refine zr_icmp_ge (tgt := 62) dX10_signRelaxed_12 (by decide) (fun c_12 => ?_) (fun c_12 => absurd ((nI_leI (a := L.length) (b := i) (by omega) (by omega)).mpr (by omega)) c_12)
    refine zr_iload_n dX10_signRelaxed_62 rfl ?_
    exact zr_ireturn dX10_signRelaxed_63 rfl (rfl) (by have e1 : i = L.length := (by omega); subst e1; exact ⟨_, rfl, hg, rfl⟩)
  | succ j ih =>
    intro i b g hi hb hg
    obtain ⟨wk, w1, w2⟩ := id hL
    have hv := zwv_lt hl
    refine zr_iload_n dX10_signRelaxed_7 rfl ?_
    refine zr_aload_n dX10_signRelaxed_8 rfl ?_
    refine zr_getM (v := .int (F 19)) dX10_signRelaxed_9 fX10_79 h0 rfl ?_
    refine zr_eqi (x' := nI L.length) (hF) ?_
    refine zr_icmp_ge (tgt := 62) dX10_signRelaxed_12 (by decide) (fun c_12 => absurd c_12 (fun h => absurd ((nI_leI (a := L.length) (b := i) (by omega) (by omega)).mp h) (by omega))) (fun c_12 => ?_)
    refine zr_aload_n dX10_signRelaxed_15 rfl ?_
    refine zr_getM (v := .ref (y + 7)) dX10_signRelaxed_16 fX10_33 h0 rfl ?_
    refine zr_iload_n dX10_signRelaxed_19 rfl ?_
    refine zr_iaload dX10_signRelaxed_20 w1 (vp_in_nI (n := i) (by omega) (by omega)) ?_
    rw [nI_clamp (n := i) (by omega)]
    refine zr_eqi (x' := (wv L i)) (zWk_at w2 (by omega)) ?_
    refine zr_pSi [] dX10_signRelaxed_21 vX10_97 (qX10_size hX (v := (wv L i))) (by decide) (by decide) (by decide) rfl rfl (Nat.le_of_ble_eq_true rfl) rfl ?_
    refine zr_iload_n dX10_signRelaxed_24 rfl ?_
    refine zr_icmp_lt (tgt := 31) dX10_signRelaxed_25 (by decide) (fun c_25 => ?_) (fun c_25 => ?_)
    · refine zr_aload_n dX10_signRelaxed_31 rfl ?_
      refine zr_getM (v := .ref (y + 7)) dX10_signRelaxed_32 fX10_33 h0 rfl ?_
      refine zr_iload_n dX10_signRelaxed_35 rfl ?_
      refine zr_iaload dX10_signRelaxed_36 w1 (vp_in_nI (n := i) (by omega) (by omega)) ?_
      rw [nI_clamp (n := i) (by omega)]
      refine zr_eqi (x' := (wv L i)) (zWk_at w2 (by omega)) ?_
      refine zr_pSi [] dX10_signRelaxed_37 vX10_97 (qX10_size hX (v := (wv L i))) (by decide) (by decide) (by decide) rfl rfl (Nat.le_of_ble_eq_true rfl) rfl ?_
      refine zr_istore_n (ls' := [some (.ref y), some (.int ((zix (wv L i)))), some (.int g), some (.int (nI i))]) dX10_signRelaxed_40 rfl (by decide) rfl ?_
      refine zr_aload_n dX10_signRelaxed_41 rfl ?_
      refine zr_getM (v := .ref (y + 7)) dX10_signRelaxed_42 fX10_33 h0 rfl ?_
      refine zr_iload_n dX10_signRelaxed_45 rfl ?_
      refine zr_iaload dX10_signRelaxed_46 w1 (vp_in_nI (n := i) (by omega) (by omega)) ?_
      rw [nI_clamp (n := i) (by omega)]
      refine zr_eqi (x' := (wv L i)) (zWk_at w2 (by omega)) ?_
      refine zr_if_le (tgt := 54) dX10_signRelaxed_47 (by decide) (fun c_47 => ?_) (fun c_47 => ?_)
      · refine zr_iconst (v := -1) dX10_signRelaxed_54 (by decide) ?_
        refine zr_istore_n (ls' := [some (.ref y), some (.int ((zix (wv L i)))), some (.int ((-1))), some (.int (nI i))]) dX10_signRelaxed_55 rfl (by decide) rfl ?_
        refine zr_iinc (v := nI (i + 1)) (ls' := [some (.ref y), some (.int ((zix (wv L i)))), some (.int ((-1))), some (.int (nI (i + 1)))]) dX10_signRelaxed_56 rfl (nI_1 _) (by decide) rfl ?_
        refine zr_goto (tgt := 7) dX10_signRelaxed_59 (by decide) ?_
        exact ih (i + 1) _ _ (by omega) (((zls_s hv (i := i) (by omega)).2 (fun q => Int32.not_lt.mpr (hb ▸ q) c_25)).1.symm) (by rw [((zls_s hv (i := i) (by omega)).2 (fun q => Int32.not_lt.mpr (hb ▸ q) c_25)).2]; exact (zr_sg0 (hv i (by omega)) c_47).symm)
      · refine zr_iconst (v := 1) dX10_signRelaxed_50 (by decide) ?_
        refine zr_goto (tgt := 55) dX10_signRelaxed_51 (by decide) ?_
        refine zr_istore_n (ls' := [some (.ref y), some (.int ((zix (wv L i)))), some (.int 1), some (.int (nI i))]) dX10_signRelaxed_55 rfl (by decide) rfl ?_
        refine zr_iinc (v := nI (i + 1)) (ls' := [some (.ref y), some (.int ((zix (wv L i)))), some (.int 1), some (.int (nI (i + 1)))]) dX10_signRelaxed_56 rfl (nI_1 _) (by decide) rfl ?_
        refine zr_goto (tgt := 7) dX10_signRelaxed_59 (by decide) ?_
        exact ih (i + 1) _ _ (by omega) (((zls_s hv (i := i) (by omega)).2 (fun q => Int32.not_lt.mpr (hb ▸ q) c_25)).1.symm) (by rw [((zls_s hv (i := i) (by omega)).2 (fun q => Int32.not_lt.mpr (hb ▸ q) c_25)).2]; exact (zr_sg1 (hv i (by omega)) c_47).symm)
    · refine zr_goto (tgt := 56) dX10_signRelaxed_28 (by decide) ?_
      refine zr_iinc (v := nI (i + 1)) (ls' := [some (.ref y), some (.int b), some (.int g), some (.int (nI (i + 1)))]) dX10_signRelaxed_56 rfl (nI_1 _) (by decide) rfl ?_
      refine zr_goto (tgt := 7) dX10_signRelaxed_59 (by decide) ?_
      exact ih (i + 1) _ _ (by omega) (hb.trans ((zls_s hv (i := i) (by omega)).1 (hb ▸ Int32.not_lt.mp c_25)).1.symm) (hg.trans (by rw [((zls_s hv (i := i) (by omega)).1 (hb ▸ Int32.not_lt.mp c_25)).2]))

set_option maxHeartbeats 400000 in
set_option maxRecDepth 100000 in
theorem qX10_signRelaxed {X : zX} (hX : X.1.stackTraces = false) {σ : zS} {y : Nat} {F : Nat → Int32} {L : List Int32} (h0 : σ.1 y = zmO y F) (hF : F 19 = nI L.length) (hL : zWk y L σ) (hl : zAll L) (hlen : L.length ≤ 400) : zMet X mX10_signRelaxed yX10_signRelaxed 1 0 0 [.ref y] σ (zI (fun y_ s_ => y_ = zsW L ∧ s_ = σ)) := by
  refine zMet_of (ls := [some (.ref y), none, none, none]) rfl (by decide +kernel) rfl (fun h => by cases h) hX (Nat.le_of_ble_eq_true rfl) rfl ?_
  refine zr_bipush (v := 9) dX10_signRelaxed_0 (by decide) ?_
  refine zr_istore_n (ls' := [some (.ref y), some (.int 9), none, none]) dX10_signRelaxed_2 rfl (by decide) rfl ?_
  refine zr_iconst (v := 0) dX10_signRelaxed_3 (by decide) ?_
  refine zr_istore_n (ls' := [some (.ref y), some (.int 9), some (.int 0), none]) dX10_signRelaxed_4 rfl (by decide) rfl ?_
  refine zr_iconst (v := 0) dX10_signRelaxed_5 (by decide) ?_
  refine zr_istore_n (ls' := [some (.ref y), some (.int 9), some (.int 0), some (.int 0)]) dX10_signRelaxed_6 rfl (by decide) rfl ?_
  exact l_msr hX h0 hF hL hl hlen L.length 0 _ _ (by omega) rfl rfl

