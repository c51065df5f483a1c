theorem nI_max {a b : Nat} (ha : a < 2 ^ 31) (hb : b < 2 ^ 31) : (if nI a < nI b then nI b else nI a) = nI (max a b) := by
  by_cases h : a < b
  · rw [if_pos ((nI_ltI ha hb).mpr h), Nat.max_eq_right (by omega)]
  · rw [if_neg (fun q => h ((nI_ltI ha hb).mp q)), Nat.max_eq_left (by omega)]
set_option maxHeartbeats 400000 in
set_option maxRecDepth 100000 in
theorem l_rc {X : zX} (hX : X.1.stackTraces = false) {σ : zS} {y n cnt a : Nat} {f nf lf : Nat → Int32} {cf : Nat → Option Nat} (h0 : σ.1 y = .inr (5, [.ref (y + 1), .int (nI n), .ref (y + 2), .ref (y + 3), .ref (y + 4), .int (nI cnt), .int (nI a)])) (h1 : σ.1 (y + 1) = .inl (1, 60, .inl f)) (h2 : σ.1 (y + 2) = .inl (7, 12, .inr (.inr (.inr (.inr cf))))) (h3 : σ.1 (y + 3) = .inl (0, 12, .inl nf)) (h4 : σ.1 (y + 4) = .inl (0, 12, .inl lf)) (hn : n ≤ 60) (ha : a ≤ n) (hcnt : 5 * cnt ≤ a) (hQ : ∀ i j : Nat, i < 7 → j < 7 → zQ X i = zQ X j → i = j) : ∀ (j i : Nat) (far : Nat) (x3 x4 : Option Value), i + j = 7 → (far ≤ 7) → (zrc f n a = zrcF f n a i far j) → zW X mX7_readCommand 6 0 0 (zI (fun y_ s => zFr σ s (fun q => q = y ∨ q = y + 2 ∨ q = y + 3 ∨ q = y + 4) ∧ (((zrc f n a).1 = true ∧ y_ = 1 ∧ s.1 y = .inr (5, [.ref (y + 1), .int (nI n), .ref (y + 2), .ref (y + 3), .ref (y + 4), .int (nI (cnt + 1)), .int (nI ((zrc f n a).2.1))]) ∧ zStp X y cf nf lf cnt (zrc f n a).2.2 s) ∨ ((zrc f n a).1 = false ∧ y_ = 0 ∧ s.1 y = .inr (5, [.ref (y + 1), .int (nI n), .ref (y + 2), .ref (y + 3), .ref (y + 4), .int (nI cnt), .int (nI ((zrc f n a).2.1))]) ∧ s.1 (y + 2) = .inl (7, 12, .inr (.inr (.inr (.inr cf)))) ∧ s.1 (y + 3) = .inl (0, 12, .inl nf) ∧ s.1 (y + 4) = .inl (0, 12, .inl lf))))) 4 [some (.ref y), some (.int (nI far)), some (.int (nI i)), x3, x4] [] σ := by
  intro j
  induction j with
  | zero =>
    intro i far x3 x4 hi hfar hz
    refine zr_iload_n dX7_readCommand_4 rfl ?_
    refine zr_ALL dX7_readCommand_5 fX7_50 ?_
    refine zr_ALLlen dX7_readCommand_8 ?_
    refine zr_icmp_ge (tgt := 70) dX7_readCommand_9 (by decide) (fun c_9 => ?_) (fun c_9 => absurd ((nI_leI (a := 7) (b := i) (by omega) (by omega)).mpr (by omega)) c_9)
    refine zr_aload_n dX7_readCommand_70 rfl ?_
    refine zr_dup dX7_readCommand_71 rfl ?_
    refine zr_getfield dX7_readCommand_72 fX7_35 h0 rfl (by decide) ?_
    refine zr_iload_n dX7_readCommand_75 rfl ?_
    refine zr_iadd dX7_readCommand_76 ?_
    refine zr_eqi (x' := nI (a + far)) (nI_add a far) ?_
    refine zr_putfield (fs' := [.ref ((y + 1)), .int (nI n), .ref ((y + 2)), .ref ((y + 3)), .ref ((y + 4)), .int (nI cnt), .int (nI (a + far))]) dX7_readCommand_77 pX7_35 h0 (by decide) (rfl) (rfl) (Nat.le_of_ble_eq_true rfl) rfl ?_
    refine zr_sig (fun ks1 e_ks1 => ?_)
    have kh2 : ks1.1 y = .inr (5, [.ref ((y + 1)), .int (nI n), .ref ((y + 2)), .ref ((y + 3)), .ref ((y + 4)), .int (nI cnt), .int (nI (a + far))]) := by rw [e_ks1]; exact zup_at _ _ _
    have kh3 : ks1.1 (y + 1) = .inl (1, 60, .inl f) := by rw [e_ks1, zup_ne _ _ (by omega)]; exact h1
    have kh4 : ks1.1 (y + 2) = .inl (7, 12, .inr (.inr (.inr (.inr cf)))) := by rw [e_ks1, zup_ne _ _ (by omega)]; exact h2
    have kh5 : ks1.1 (y + 3) = .inl (0, 12, .inl nf) := by rw [e_ks1, zup_ne _ _ (by omega)]; exact h3
    have kh6 : ks1.1 (y + 4) = .inl (0, 12, .inl lf) := by rw [e_ks1, zup_ne _ _ (by omega)]; exact h4
    have kF7 := zFr.put zFr.rf (P := (fun q => q = y ∨ q = y + 2 ∨ q = y + 3 ∨ q = y + 4)) e_ks1 (by first | omega | simp)
    refine zr_iconst (v := 0) dX7_readCommand_80 (by decide) ?_
    refine zr_ireturn dX7_readCommand_81 rfl (rfl) ?_
    have ez : zrc f n a = (false, a + far, 0, 0, 0) := hz
    refine ⟨_, rfl, kF7, Or.inr ?_⟩
    rw [ez]
    exact ⟨rfl, rfl, kh2, kh4, kh5, kh6⟩
  | succ j ih =>
    intro i far x3 x4 hi hfar hz
    refine zr_iload_n dX7_readCommand_4 rfl ?_
    refine zr_ALL dX7_readCommand_5 fX7_50 ?_
    refine zr_ALLlen dX7_readCommand_8 ?_
    refine zr_icmp_ge (tgt := 70) dX7_readCommand_9 (by decide) (fun c_9 => absurd c_9 (fun h => absurd ((nI_leI (a := 7) (b := i) (by omega) (by omega)).mp h) (by omega))) (fun c_9 => ?_)
    refine zr_ALL dX7_readCommand_12 fX7_50 ?_
    refine zr_iload_n dX7_readCommand_15 rfl ?_
    refine zr_ALLat dX7_readCommand_16 (vp_in_nI (n := i) (by omega) (by omega)) ?_
    rw [nI_clamp (n := i) (by omega)]
    refine zr_astore_n (ls' := [some (.ref y), some (.int (nI far)), some (.int (nI i)), some (.ref ((zQ X i))), x4]) dX7_readCommand_17 rfl (by decide) rfl ?_
    refine zr_aload_n dX7_readCommand_18 rfl ?_
    refine zr_aload_n dX7_readCommand_19 rfl ?_
    refine zr_spelling dX7_readCommand_20 (by omega) fX7_53 ?_
    refine zr_pVi [] dX7_readCommand_23 vX7_57 (qX7_countMatching hX (w := i) h0 h1 (by omega) (by omega) (by omega)) h0 (by decide) (by decide) (by decide) rfl rfl (Nat.le_of_ble_eq_true rfl) (by decide) rfl ?_
    refine zr_istore (ls' := [some (.ref y), some (.int (nI far)), some (.int (nI i)), some (.ref ((zQ X i))), some (.int (nI (zcm f n a (zLw i))))]) dX7_readCommand_26 (by decide) rfl ?_
    have m7 := zcm_le f n (zLw i) a
    have w7 := zLw_small i (by omega)
    rw [zLw_len] at m7
    refine zr_iload dX7_readCommand_28 rfl ?_
    refine zr_aload_n dX7_readCommand_30 rfl ?_
    refine zr_spelling dX7_readCommand_31 (by omega) fX7_53 ?_
    refine zr_callT (vs := []) [.int (nI (zcm f n a (zLw i)))] dX7_readCommand_34 kJ0_length_8abf5 tx_l61 iJ0_length_8abf5 sJ0_length_8abf5 rfl (by omega) (qJ0_length_8abf5 hX _ (i := i) (by omega)) (by decide) rfl rfl (Nat.le_of_ble_eq_true rfl) rfl (fun r_ s_ h_ => ?_)
    rw [h_.1, h_.2]; clear h_
    refine zr_icmp_ne (tgt := 57) dX7_readCommand_37 (by decide) (fun c_37 => ?_) (fun c_37 => ?_)
    · refine zr_iload_n dX7_readCommand_57 rfl ?_
      refine zr_iload dX7_readCommand_58 rfl ?_
      refine zr_mmax dX7_readCommand_60 mlX7_70 (by omega) (Nat.le_of_ble_eq_true rfl) ?_
      refine zr_eqi (x' := nI (max far (zcm f n a (zLw i)))) (nI_max (by omega) (by omega)) ?_
      refine zr_istore_n (ls' := [some (.ref y), some (.int (nI (max far (zcm f n a (zLw i))))), some (.int (nI i)), some (.ref ((zQ X i))), some (.int (nI (zcm f n a (zLw i))))]) dX7_readCommand_63 rfl (by decide) rfl ?_
      refine zr_iinc (v := nI (i + 1)) (ls' := [some (.ref y), some (.int (nI (max far (zcm f n a (zLw i))))), some (.int (nI (i + 1))), some (.ref ((zQ X i))), some (.int (nI (zcm f n a (zLw i))))]) dX7_readCommand_64 rfl (nI_1 _) (by decide) rfl ?_
      refine zr_goto (tgt := 4) dX7_readCommand_67 (by decide) ?_
      exact ih (i + 1) _ _ _ (by omega) (by omega) (by rw [hz]; simp only [zrcF]; rw [if_neg (fun q => c_37 (by rw [q]))])
    · have em : zcm f n a (zLw i) = zTXn i := (nI_eq (by omega) (by omega)).mp c_37
      have mn := zcm_n f n (zLw i) a ha
      rw [em] at mn
      rw [em]
      refine zr_aload_n dX7_readCommand_40 rfl ?_
      refine zr_dup dX7_readCommand_41 rfl ?_
      refine zr_getfield dX7_readCommand_42 fX7_35 h0 rfl (by decide) ?_
      refine zr_iload dX7_readCommand_45 rfl ?_
      refine zr_iadd dX7_readCommand_47 ?_
      refine zr_eqi (x' := nI (a + (zTXn i))) (nI_add a (zTXn i)) ?_
      refine zr_putfield (fs' := [.ref ((y + 1)), .int (nI n), .ref ((y + 2)), .ref ((y + 3)), .ref ((y + 4)), .int (nI cnt), .int (nI (a + (zTXn i)))]) dX7_readCommand_48 pX7_35 h0 (by decide) (rfl) (rfl) (Nat.le_of_ble_eq_true rfl) rfl ?_
      refine zr_sig (fun ks1 e_ks1 => ?_)
      have kh2 : ks1.1 y = .inr (5, [.ref ((y + 1)), .int (nI n), .ref ((y + 2)), .ref ((y + 3)), .ref ((y + 4)), .int (nI cnt), .int (nI (a + (zTXn i)))]) := by rw [e_ks1]; exact zup_at _ _ _
      have kh3 : ks1.1 (y + 1) = .inl (1, 60, .inl f) := by rw [e_ks1, zup_ne _ _ (by omega)]; exact h1
      have kh4 : ks1.1 (y + 2) = .inl (7, 12, .inr (.inr (.inr (.inr cf)))) := by rw [e_ks1, zup_ne _ _ (by omega)]; exact h2
      have kh5 : ks1.1 (y + 3) = .inl (0, 12, .inl nf) := by rw [e_ks1, zup_ne _ _ (by omega)]; exact h3
      have kh6 : ks1.1 (y + 4) = .inl (0, 12, .inl lf) := by rw [e_ks1, zup_ne _ _ (by omega)]; exact h4
      have kF7 := zFr.put zFr.rf (P := (fun q => q = y ∨ q = y + 2 ∨ q = y + 3 ∨ q = y + 4)) e_ks1 (by first | omega | simp)
      refine zr_aload_n dX7_readCommand_51 rfl ?_
      refine zr_aload_n dX7_readCommand_52 rfl ?_
      have ez : zrc f n a = ((zpar f n i (a + zTXn i)).1, (zpar f n i (a + zTXn i)).2.1, i, (zpar f n i (a + zTXn i)).2.2.1, (zpar f n i (a + zTXn i)).2.2.2) := by rw [hz]; simp only [zrcF]; rw [if_pos em]
      refine zr_callVi [] dX7_readCommand_53 vX7_66 (qX7_readParameters hX (c := i) kh2 kh3 kh4 kh5 kh6 (by omega) (by omega) (by omega) (by omega) hQ) kh2 (by decide) (by decide) (by decide) rfl rfl (Nat.le_of_ble_eq_true rfl) (by decide) rfl (fun r s h => ?_)
      obtain ⟨hF2, h⟩ := h
      refine zr_ireturn dX7_readCommand_56 rfl (by rcases h with h | h <;> (rw [h.2.1]; rfl)) ⟨r, rfl, zFr.tr kF7 hF2 (fun q hq => hq), ?_⟩
      rw [ez]; exact h

set_option maxHeartbeats 400000 in
set_option maxRecDepth 100000 in
theorem qX7_readCommand {X : zX} (hX : X.1.stackTraces = false) {σ : zS} {y n cnt a : Nat} {f nf lf : Nat → Int32} {cf : Nat → Option Nat} (h0 : σ.1 y = .inr (5, [.ref (y + 1), .int (nI n), .ref (y + 2), .ref (y + 3), .ref (y + 4), .int (nI cnt), .int (nI a)])) (h1 : σ.1 (y + 1) = .inl (1, 60, .inl f)) (h2 : σ.1 (y + 2) = .inl (7, 12, .inr (.inr (.inr (.inr cf))))) (h3 : σ.1 (y + 3) = .inl (0, 12, .inl nf)) (h4 : σ.1 (y + 4) = .inl (0, 12, .inl lf)) (hn : n ≤ 60) (ha : a ≤ n) (hcnt : 5 * cnt ≤ a) (hQ : ∀ i j : Nat, i < 7 → j < 7 → zQ X i = zQ X j → i = j) : zMet X mX7_readCommand yX7_readCommand 6 0 0 [.ref y] σ (zI (fun y_ s => zFr σ s (fun q => q = y ∨ q = y + 2 ∨ q = y + 3 ∨ q = y + 4) ∧ (((zrc f n a).1 = true ∧ y_ = 1 ∧ s.1 y = .inr (5, [.ref (y + 1), .int (nI n), .ref (y + 2), .ref (y + 3), .ref (y + 4), .int (nI (cnt + 1)), .int (nI ((zrc f n a).2.1))]) ∧ zStp X y cf nf lf cnt (zrc f n a).2.2 s) ∨ ((zrc f n a).1 = false ∧ y_ = 0 ∧ s.1 y = .inr (5, [.ref (y + 1), .int (nI n), .ref (y + 2), .ref (y + 3), .ref (y + 4), .int (nI cnt), .int (nI ((zrc f n a).2.1))]) ∧ s.1 (y + 2) = .inl (7, 12, .inr (.inr (.inr (.inr cf)))) ∧ s.1 (y + 3) = .inl (0, 12, .inl nf) ∧ s.1 (y + 4) = .inl (0, 12, .inl lf))))) := by
  refine zMet_of (ls := [some (.ref y), none, none, none, none]) rfl (by decide +kernel) rfl (fun h => by cases h) hX (Nat.le_of_ble_eq_true rfl) rfl ?_
  refine zr_iconst (v := 0) dX7_readCommand_0 (by decide) ?_
  refine zr_istore_n (ls' := [some (.ref y), some (.int 0), none, none, none]) dX7_readCommand_1 rfl (by decide) rfl ?_
  refine zr_iconst (v := 0) dX7_readCommand_2 (by decide) ?_
  refine zr_istore_n (ls' := [some (.ref y), some (.int 0), some (.int 0), none, none]) dX7_readCommand_3 rfl (by decide) rfl ?_
  exact l_rc hX h0 h1 h2 h3 h4 hn ha hcnt hQ 7 0 0 _ _ (by omega) (by omega) rfl

/-- the three rows hold a list of commands -/
def zHL (X : zX) (y : Nat) (L : zTL) (s : zS) : Prop := ∃ (cf : Nat → Option Nat) (nf lf : Nat → Int32), s.1 (y + 2) = .inl (7, 12, .inr (.inr (.inr (.inr cf)))) ∧ s.1 (y + 3) = .inl (0, 12, .inl nf) ∧ s.1 (y + 4) = .inl (0, 12, .inl lf) ∧ ∀ (i : Nat) (h : i < L.length), cf i = some (zQ X L[i].1) ∧ nf i = nI L[i].2.1 ∧ lf i = L[i].2.2
theorem zHL.add {X : zX} {y : Nat} {L : zTL} {s : zS} {cf : Nat → Option Nat} {nf lf : Nat → Int32} {q : Nat × Nat × Int32} (hL : ∀ (i : Nat) (h : i < L.length), cf i = some (zQ X L[i].1) ∧ nf i = nI L[i].2.1 ∧ lf i = L[i].2.2) (h : zStp X y cf nf lf L.length q s) : zHL X y (L ++ [q]) s := by
  obtain ⟨h2, h3, h4⟩ := h
  refine ⟨_, _, _, h2, h3, h4, fun i hi => ?_⟩
  by_cases e : i < L.length
  · have := hL i e
    rw [List.getElem_append_left e]
    exact ⟨by simp only [va_up]; rw [if_neg (by omega)]; exact this.1, by rw [upd_ne _ _ (by omega)]; exact this.2.1, by rw [upd_ne _ _ (by omega)]; exact this.2.2⟩
  · rw [List.length_append] at hi
    have e1 : i = L.length := by simp at hi; omega
    subst e1
    rw [List.getElem_append_right (Nat.le_refl _)]
    simp only [Nat.sub_self, List.getElem_cons_zero]
    exact ⟨by simp [va_up], upd_at _ _ _, upd_at _ _ _⟩
theorem zHL.fr {X : zX} {y : Nat} {L : zTL} {σ s : zS} {P : Nat → Prop} (h : zHL X y L σ) (F : zFr σ s P) (hp : ∀ q, y + 2 ≤ q → q < y + 5 → ¬ P q) : zHL X y L s := by
  obtain ⟨cf, nf, lf, h2, h3, h4, h5⟩ := h
  exact ⟨cf, nf, lf, F.get (hp _ (by omega) (by omega)) h2, F.get (hp _ (by omega) (by omega)) h3, F.get (hp _ (by omega) (by omega)) h4, h5⟩
theorem zps_len {f : Nat → Int32} {n : Nat} (hn : n ≤ 60) : ∀ (t a : Nat) (L : zTL), a ≤ n → 5 * L.length ≤ a → (zps f n t a L).2.1 ≤ n ∧ (zps f n t a L).2.2.length ≤ 12
  | 0, a, L, h, h5 => ⟨h, (show L.length ≤ 12 by omega)⟩
  | t + 1, a, L, h, h5 => by
    obtain ⟨q1, q2, q3⟩ := zrc_at (f := f) (n := n) h
    simp only [zps]
    split
    · rename_i e
      have q4 := q3 e
      have e1 : (L ++ [(zrc f n a).2.2]).length = L.length + 1 := by simp
      split
      · exact ⟨Nat.le_refl _, by show (L ++ [(zrc f n a).2.2]).length ≤ 12; omega⟩
      · split
        · rename_i e3
          exact zps_len hn t _ _ e3.1 (by omega)
        · exact ⟨q2, by show (L ++ [(zrc f n a).2.2]).length ≤ 12; omega⟩
    · exact ⟨q2, (show L.length ≤ 12 by omega)⟩
set_option maxHeartbeats 400000 in
set_option maxRecDepth 100000 in
theorem l_ps {X : zX} (hX : X.1.stackTraces = false) {σ : zS} {y n : Nat} {f : Nat → Int32} (hn : n ≤ 60) (k1 : σ.1 (y + 1) = .inl (1, 60, .inl f)) (hQ : ∀ i j : Nat, i < 7 → j < 7 → zQ X i = zQ X j → i = j) : ∀ (j i : Nat) (s : zS) (a : Nat) (L : zTL), i + j = 61 → (zFr σ s (fun q => q = y ∨ q = y + 2 ∨ q = y + 3 ∨ q = y + 4)) → (s.1 y = .inr (5, [.ref (y + 1), .int (nI n), .ref (y + 2), .ref (y + 3), .ref (y + 4), .int (nI L.length), .int (nI a)])) → (a ≤ n) → (5 * L.length ≤ a) → (zHL X y L s) → (zps f n 61 0 [] = zps f n j a L) → zW X mX7_parse 7 0 0 (zI (fun y_ s => zFr σ s (fun q => q = y ∨ q = y + 2 ∨ q = y + 3 ∨ q = y + 4) ∧ y_ = (if (zps f n 61 0 []).1 = true then 1 else 0) ∧ s.1 y = .inr (5, [.ref (y + 1), .int (nI n), .ref (y + 2), .ref (y + 3), .ref (y + 4), .int (nI ((zps f n 61 0 []).2.2.length)), .int (nI ((zps f n 61 0 []).2.1))]) ∧ zHL X y (zps f n 61 0 []).2.2 s)) 12 [some (.ref y), some (.int (nI i))] [] s := by
  intro j
  induction j with
  | zero =>
    intro i s a L hi hF h0 ha h5 hL hz
    obtain ⟨cf, nf, lf, h2, h3, h4, hH⟩ := id hL
    have h1 := zFr.get hF (by omega) k1
    refine zr_iload_n dX7_parse_12 rfl ?_
    refine zr_bipush (v := 60) dX7_parse_13 (by decide) ?_
    refine zr_icmp_gt (tgt := 57) dX7_parse_15 (by decide) (fun c_15 => ?_) (fun c_15 => absurd ((nI_ltI (a := 60) (b := i) (by omega) (by omega)).mpr (by omega)) c_15)
    refine zr_iconst (v := 0) dX7_parse_57 (by decide) ?_
    refine zr_ireturn dX7_parse_58 rfl (rfl) ?_
    refine ⟨_, rfl, hF, ?_⟩
    rw [hz]
    exact ⟨rfl, h0, _, _, _, h2, h3, h4, hH⟩
  | succ j ih =>
    intro i s a L hi hF h0 ha h5 hL hz
    obtain ⟨cf, nf, lf, h2, h3, h4, hH⟩ := id hL
    have h1 := zFr.get hF (by omega) k1
    obtain ⟨z1, z2, z3⟩ := zrc_at (f := f) (n := n) ha
    refine zr_iload_n dX7_parse_12 rfl ?_
    refine zr_bipush (v := 60) dX7_parse_13 (by decide) ?_
    refine zr_icmp_gt (tgt := 57) dX7_parse_15 (by decide) (fun c_15 => absurd c_15 (fun h => absurd ((nI_ltI (a := 60) (b := i) (by omega) (by omega)).mp h) (by omega))) (fun c_15 => ?_)
    refine zr_aload_n dX7_parse_18 rfl ?_
    refine zr_callVi [] dX7_parse_19 vX7_42 (qX7_readCommand hX (cnt := L.length) (a := a) h0 h1 h2 h3 h4 hn (by omega) (by omega) hQ) h0 (by decide) (by decide) (by decide) rfl rfl (Nat.le_of_ble_eq_true rfl) (by decide) rfl (fun r s1 h_ => ?_)
    obtain ⟨F1, h_⟩ := h_
    have F2 := zFr.tr hF F1 (fun q hq => hq)
    have t1 := zFr.get F1 (by omega) h1
    rcases h_ with ⟨e1, e2, t0, t2⟩ | ⟨e1, e2, t0, t2, t3, t4⟩
    · subst e2
      have tL := zHL.add hH t2
      refine zr_if_ne (tgt := 27) dX7_parse_22 (by decide) (fun c_22 => ?_) (fun c_22 => absurd c_22 (by decide))
      refine zr_aload_n dX7_parse_27 rfl ?_
      refine zr_getfield dX7_parse_28 fX7_35 t0 rfl (by decide) ?_
      refine zr_aload_n dX7_parse_31 rfl ?_
      refine zr_getfield dX7_parse_32 fX7_15 t0 rfl (by decide) ?_
      refine zr_icmp_ne (tgt := 40) dX7_parse_35 (by decide) (fun c_35 => ?_) (fun c_35 => ?_)
      · have en : ¬ (zrc f n a).2.1 = n := fun q => c_35 (by rw [q])
        refine zr_aload_n dX7_parse_40 rfl ?_
        refine zr_bipush (v := 59) dX7_parse_41 (by decide) ?_
        by_cases hrc : (zrc f n a).2.1 < n ∧ f ((zrc f n a).2.1) = 59
        · refine zr_callVi [] dX7_parse_43 vX7_46 (qX7_readCharacter1 hX t0 t1 (by omega) (by omega) hrc) t0 (by decide) (by decide) (by decide) rfl rfl (Nat.le_of_ble_eq_true rfl) (by decide) rfl (fun kr1 s_kr1 h_kr1 => ?_)
          obtain ⟨e_kr1, F_kr1, g0_kr1⟩ := h_kr1
          have kh2 : s_kr1.1 (y + 1) = .inl (1, 60, .inl f) := zFr.get F_kr1 (by omega) t1
          have kR3 : zHL X y (L ++ [(zrc f n a).2.2]) s_kr1 := zHL.fr tL F_kr1 (by intro q h1 h2 h3; (try simp only [zIn, zJf] at h3); omega)
          have kF4 := zFr.tr F2 F_kr1 (by intro q hq; omega)
          obtain rfl := e_kr1.symm
          refine zr_if_ne (tgt := 51) dX7_parse_46 (by decide) (fun c_46 => ?_) (fun c_46 => absurd c_46 (by decide))
          refine zr_iinc (v := nI (i + 1)) (ls' := [some (.ref y), some (.int (nI (i + 1)))]) dX7_parse_51 rfl (nI_1 _) (by decide) rfl ?_
          refine zr_goto (tgt := 12) dX7_parse_54 (by decide) ?_
          exact ih (i + 1) _ _ _ (by omega) (kF4) (by rw [List.length_append]; exact g0_kr1) (by omega) (by have := z3 e1; rw [List.length_append]; simp only [List.length_cons, List.length_nil]; omega) (kR3) (by rw [hz]; simp only [zps]; rw [if_pos e1, if_neg en, if_pos hrc])
        · refine zr_pVi [] dX7_parse_43 vX7_46 (qX7_readCharacter0 hX t0 t1 (by omega) (by omega) hrc) t0 (by decide) (by decide) (by decide) rfl rfl (Nat.le_of_ble_eq_true rfl) (by decide) rfl ?_
          refine zr_if_ne (tgt := 51) dX7_parse_46 (by decide) (fun c_46 => absurd (by decide) c_46) (fun c_46 => ?_)
          refine zr_iconst (v := 0) dX7_parse_49 (by decide) ?_
          refine zr_ireturn dX7_parse_50 rfl (rfl) ?_
          have ez : zps f n (j + 1) a L = (false, (zrc f n a).2.1, L ++ [(zrc f n a).2.2]) := by simp only [zps]; rw [if_pos e1, if_neg en, if_neg hrc]
          refine ⟨_, rfl, F2, ?_⟩
          rw [hz, ez]
          exact ⟨rfl, by rw [List.length_append]; exact t0, tL⟩
      · have en : (zrc f n a).2.1 = n := (nI_eq (by omega) (by omega)).mp c_35
        refine zr_iconst (v := 1) dX7_parse_38 (by decide) ?_
        refine zr_ireturn dX7_parse_39 rfl (rfl) ?_
        have ez : zps f n (j + 1) a L = (true, n, L ++ [(zrc f n a).2.2]) := by simp only [zps]; rw [if_pos e1, if_pos en]
        refine ⟨_, rfl, F2, ?_⟩
        rw [hz, ez]
        rw [en] at t0
        exact ⟨rfl, by rw [List.length_append]; exact t0, tL⟩
    · subst e2
      have tL : zHL X y L s1 := ⟨_, _, _, t2, t3, t4, hH⟩
      refine zr_if_ne (tgt := 27) dX7_parse_22 (by decide) (fun c_22 => absurd (by decide) c_22) (fun c_22 => ?_)
      refine zr_iconst (v := 0) dX7_parse_25 (by decide) ?_
      refine zr_ireturn dX7_parse_26 rfl (rfl) ?_
      have ez : zps f n (j + 1) a L = (false, (zrc f n a).2.1, L) := by simp only [zps]; rw [if_neg (by rw [e1]; decide)]
      refine ⟨_, rfl, F2, ?_⟩
      rw [hz, ez]
      exact ⟨rfl, t0, tL⟩

set_option maxHeartbeats 400000 in
set_option maxRecDepth 100000 in
theorem qX7_parse {X : zX} (hX : X.1.stackTraces = false) {σ : zS} {y n : Nat} {f nf lf : Nat → Int32} {cf : Nat → Option Nat} {vc va : Value} (h0 : σ.1 y = .inr (5, [.ref (y + 1), .int (nI n), .ref (y + 2), .ref (y + 3), .ref (y + 4), vc, va])) (h1 : σ.1 (y + 1) = .inl (1, 60, .inl f)) (h2 : σ.1 (y + 2) = .inl (7, 12, .inr (.inr (.inr (.inr cf))))) (h3 : σ.1 (y + 3) = .inl (0, 12, .inl nf)) (h4 : σ.1 (y + 4) = .inl (0, 12, .inl lf)) (hn : n ≤ 60) (hQ : ∀ i j : Nat, i < 7 → j < 7 → zQ X i = zQ X j → i = j) : zMet X mX7_parse yX7_parse 7 0 0 [.ref y] σ (zI (fun y_ s => zFr σ s (fun q => q = y ∨ q = y + 2 ∨ q = y + 3 ∨ q = y + 4) ∧ y_ = (if (zps f n 61 0 []).1 = true then 1 else 0) ∧ s.1 y = .inr (5, [.ref (y + 1), .int (nI n), .ref (y + 2), .ref (y + 3), .ref (y + 4), .int (nI ((zps f n 61 0 []).2.2.length)), .int (nI ((zps f n 61 0 []).2.1))]) ∧ zHL X y (zps f n 61 0 []).2.2 s)) := by
  refine zMet_of (ls := [some (.ref y), none]) rfl (by decide +kernel) rfl (fun h => by cases h) hX (Nat.le_of_ble_eq_true rfl) rfl ?_
  refine zr_aload_n dX7_parse_0 rfl ?_
  refine zr_iconst (v := 0) dX7_parse_1 (by decide) ?_
  refine zr_putfield (fs' := [.ref ((y + 1)), .int (nI n), .ref ((y + 2)), .ref ((y + 3)), .ref ((y + 4)), .int 0, va]) dX7_parse_2 pX7_32 h0 (by decide) (rfl) (rfl) (Nat.le_of_ble_eq_true rfl) rfl ?_
  refine zr_sig (fun ks1 e_ks1 => ?_)
  have kh2 : ks1.1 y = .inr (5, [.ref ((y + 1)), .int (nI n), .ref ((y + 2)), .ref ((y + 3)), .ref ((y + 4)), .int 0, va]) := by rw [e_ks1]; exact zup_at _ _ _
  have kh3 : ks1.1 (y + 1) = .inl (1, 60, .inl f) := by rw [e_ks1, zup_ne _ _ (by omega)]; exact h1
  have kh4 : ks1.1 (y + 2) = .inl (7, 12, .inr (.inr (.inr (.inr cf)))) := by rw [e_ks1, zup_ne _ _ (by omega)]; exact h2
  have kh5 : ks1.1 (y + 3) = .inl (0, 12, .inl nf) := by rw [e_ks1, zup_ne _ _ (by omega)]; exact h3
  have kh6 : ks1.1 (y + 4) = .inl (0, 12, .inl lf) := by rw [e_ks1, zup_ne _ _ (by omega)]; exact h4
  have kF7 := zFr.put zFr.rf (P := (fun q => q = y ∨ q = y + 2 ∨ q = y + 3 ∨ q = y + 4)) e_ks1 (by first | omega | simp)
  refine zr_aload_n dX7_parse_5 rfl ?_
  refine zr_iconst (v := 0) dX7_parse_6 (by decide) ?_
  refine zr_putfield (fs' := [.ref ((y + 1)), .int (nI n), .ref ((y + 2)), .ref ((y + 3)), .ref ((y + 4)), .int 0, .int 0]) dX7_parse_7 pX7_35 kh2 (by decide) (rfl) (rfl) (Nat.le_of_ble_eq_true rfl) rfl ?_
  refine zr_sig (fun ks8 e_ks8 => ?_)
  have kh9 : ks8.1 y = .inr (5, [.ref ((y + 1)), .int (nI n), .ref ((y + 2)), .ref ((y + 3)), .ref ((y + 4)), .int 0, .int 0]) := by rw [e_ks8]; exact zup_at _ _ _
  have kh10 : ks8.1 (y + 1) = .inl (1, 60, .inl f) := by rw [e_ks8, zup_ne _ _ (by omega)]; exact kh3
  have kh11 : ks8.1 (y + 2) = .inl (7, 12, .inr (.inr (.inr (.inr cf)))) := by rw [e_ks8, zup_ne _ _ (by omega)]; exact kh4
  have kh12 : ks8.1 (y + 3) = .inl (0, 12, .inl nf) := by rw [e_ks8, zup_ne _ _ (by omega)]; exact kh5
  have kh13 : ks8.1 (y + 4) = .inl (0, 12, .inl lf) := by rw [e_ks8, zup_ne _ _ (by omega)]; exact kh6
  have kF14 := zFr.put kF7 e_ks8 (by first | omega | simp)
  refine zr_iconst (v := 0) dX7_parse_10 (by decide) ?_
  refine zr_istore_n (ls' := [some (.ref y), some (.int 0)]) dX7_parse_11 rfl (by decide) rfl ?_
  exact l_ps hX hn h1 hQ 61 0 _ 0 [] (by omega) kF14 kh9 (by omega) (by decide) ⟨_, _, _, kh11, kh12, kh13, fun i h => by cases h⟩ rfl

