/-! ===== a good court: what every run of commands keeps ===== -/
def zGd (A : zDk) : Prop := zDw A ∧ (∀ i, i < kC A → kR A i = -1 ∨ ∃ p, p < kP A ∧ kR A i = nI p ∧ zSm (zcw A i) (zcw A (zmk A p))) ∧ (∀ p, p < kP A → zmk A p < kC A ∧ kM A p = nI (zmk A p) ∧ kR A (zmk A p) = nI p) ∧ ∀ p q, p < kP A → q < p → ¬ zSm (zcw A (zmk A p)) (zcw A (zmk A q))
theorem zPig : ∀ (C P : Nat) (f : Nat → Nat), (∀ p, p < P → f p < C) → (∀ p q, p < P → q < p → ¬ f p = f q) → P ≤ C
  | 0, P, f, h1, h2 => by
    rcases Nat.eq_zero_or_pos P with h | h
    · omega
    · exact absurd (h1 0 h) (by omega)
  | C + 1, P, f, h1, h2 => by
    rcases P with _ | P
    · omega
    · -- the last one's place is freed: whoever stands at C takes it
      have key : P ≤ C := by
        refine zPig C P (fun p => if f p = C then f P else f p) (fun p hp => ?_) (fun p q hp hq => ?_)
        · have a := h1 p (by omega)
          have b := h1 P (by omega)
          by_cases e : f p = C
          · rw [if_pos e]
            have := h2 P p (by omega) (by omega)
            omega
          · rw [if_neg e]; omega
        · have d := h2 p q (by omega) hq
          have dP := h2 P p (by omega) (by omega)
          have dQ := h2 P q (by omega) (by omega)
          by_cases e : f p = C
          · rw [if_pos e]
            by_cases e2 : f q = C
            · omega
            · rw [if_neg e2]; exact dQ
          · rw [if_neg e]
            by_cases e2 : f q = C
            · rw [if_pos e2]; exact fun h => dP h.symm
            · rw [if_neg e2]; exact d
      omega
/-- where a case is undecided there are fewer precedents than cases -/
theorem zGd.lt {A : zDk} (h : zGd A) {k : Nat} (hk : k < kC A) (hr : kR A k = -1) : kP A < kC A := by
  obtain ⟨hw, h1, h2, h3⟩ := h
  have h8 := hw.1
  have hp8 := hw.2.1
  have nek : ∀ p, p < kP A → ¬ zmk A p = k := fun p hp e => by
    have q := (h2 p hp).2.2
    rw [e, hr] at q
    exact nI_ne p (by omega) q.symm
  refine zPig (kC A) (kP A + 1) (fun p => if p = kP A then k else zmk A p) (fun p hp => ?_) (fun p q hp hq => ?_)
  · split
    · exact hk
    · exact (h2 p (by omega)).1
  · rw [if_neg (show ¬ q = kP A by omega)]
    split
    · exact fun e => nek q (by omega) e.symm
    · intro e
      have a := (h2 p (by omega)).2.2
      rw [e, (h2 q (by omega)).2.2] at a
      have := (nI_eq (by omega) (by omega)).mp a
      omega
theorem zcw_word (A : zDk) {i j n : Nat} (g : Nat → Int32) (h : j ≠ i) : zcw (aWord A i n g) j = zcw A j := by
  show zcv z0 (zP (zuL (kL A) i g j) (zuN (kN A) i n j)) = zcv z0 (zP (kL A j) (kN A j))
  rw [zuL_ne _ _ h, zuN_ne _ _ h]
theorem zGd.word {A : zDk} (h : zGd A) {k n : Nat} {g : Nat → Int32} (hr : kR A k = -1) (hn : n ≤ 16) (hg : ∀ t, t < n → zLt (g t)) : zGd (aWord A k n g) := by
  obtain ⟨hw, h1, h2, h3⟩ := h
  have hp8 := hw.2.1
  have nek : ∀ p, p < kP A → zmk A p ≠ k := fun p hp e => by
    have q := (h2 p hp).2.2
    rw [e, hr] at q
    exact nI_ne p (by omega) q.symm
  refine ⟨⟨hw.1, hw.2.1, fun i hi => ?_⟩, fun i hi => ?_, h2, fun p q hp hq => ?_⟩
  · obtain ⟨a1, a2, a3⟩ := hw.2.2 i hi
    refine ⟨?_, ?_, a3⟩
    · show zuN (kN A) k n i ≤ 16
      simp only [zuN]; split
      · exact hn
      · exact a1
    · show ∀ t, t < zuN (kN A) k n i → zLt (zuL (kL A) k g i t)
      by_cases e : i = k
      · subst e; rw [zuN_at, zuL_at]; exact hg
      · rw [zuN_ne _ _ e, zuL_ne _ _ e]; exact a2
  · rcases h1 i hi with a | ⟨p, hp, e, s⟩
    · exact Or.inl a
    · refine Or.inr ⟨p, hp, e, ?_⟩
      have ik : i ≠ k := fun q => by rw [q, hr] at e; exact nI_ne p (by omega) e.symm
      rw [zcw_word A g ik, show zmk (aWord A k n g) p = zmk A p from rfl, zcw_word A g (nek p hp)]
      exact s
  · rw [show zmk (aWord A k n g) p = zmk A p from rfl, show zmk (aWord A k n g) q = zmk A q from rfl, zcw_word A g (nek p hp), zcw_word A g (nek q (by have : p < kP A := hp; omega))]
    exact h3 p q hp hq
theorem zcw_case (A : zDk) {j : Nat} (h : j ≠ kC A) : zcw (aCase A) j = zcw A j := by
  show zcv z0 (zP (kL A j) (zuN (kN A) (kC A) 0 j)) = zcv z0 (zP (kL A j) (kN A j))
  rw [zuN_ne _ _ h]
theorem zGd.case {A : zDk} (h : zGd A) (hc : kC A < 8) : zGd (aCase A) := by
  obtain ⟨hw, h1, h2, h3⟩ := h
  refine ⟨⟨(show kC A + 1 ≤ 8 by omega), hw.2.1, fun i hi => ?_⟩, fun i hi => ?_, fun p hp => ?_, fun p q hp hq => ?_⟩
  · obtain ⟨a1, a2, a3, a4⟩ := hw.2.2 i hi
    refine ⟨?_, ?_, ?_, a4⟩
    · show zuN (kN A) (kC A) 0 i ≤ 16
      simp only [zuN]; split
      · omega
      · exact a1
    · show ∀ t, t < zuN (kN A) (kC A) 0 i → zLt (kL A i t)
      by_cases e : i = kC A
      · rw [e, zuN_at]; exact fun t ht => absurd ht (by omega)
      · rw [zuN_ne _ _ e]; exact a2
    · show upd (kR A) (kC A) (-1) i = -1 ∨ ∃ p, p < 8 ∧ upd (kR A) (kC A) (-1) i = nI p
      simp only [upd]; split
      · exact Or.inl rfl
      · exact a3
  · by_cases e : i = kC A
    · exact Or.inl (show upd (kR A) (kC A) (-1) i = -1 by rw [e]; exact pk_us)
    · have hi' : i < kC A := by have : i < kC A + 1 := hi; omega
      rcases h1 i hi' with a | ⟨p, hp, e2, s⟩
      · exact Or.inl ((show upd (kR A) (kC A) (-1) i = kR A i from pk_un e).trans a)
      · refine Or.inr ⟨p, hp, (show upd (kR A) (kC A) (-1) i = kR A i from pk_un e).trans e2, ?_⟩
        rw [zcw_case A e, show zmk (aCase A) p = zmk A p from rfl, zcw_case A (show zmk A p ≠ kC A by have := (h2 p hp).1; omega)]
        exact s
  · obtain ⟨b1, b2, b3⟩ := h2 p hp
    exact ⟨(show zmk A p < kC A + 1 by omega), b2, (show upd (kR A) (kC A) (-1) (zmk A p) = kR A (zmk A p) from pk_un (by omega)).trans b3⟩
  · have p1 := (h2 p hp).1
    have q1 := (h2 q (by have : p < kP A := hp; omega)).1
    rw [show zmk (aCase A) p = zmk A p from rfl, show zmk (aCase A) q = zmk A q from rfl, zcw_case A (by omega), zcw_case A (by omega)]
    exact h3 p q hp hq
theorem zPfi_no (A : zDk) (k : Nat) : ∀ j i : Nat, i + j ≤ 8 → zPfi A k i j = -1 → ∀ p, i ≤ p → p < i + j → ¬ zSmb (zcw A k) (zcw A (zmk A p)) = true
  | 0, i, _, _, p, h1, h2 => by omega
  | j + 1, i, h8, h, p, h1, h2 => by
    simp only [zPfi] at h
    by_cases e : zSmb (zcw A k) (zcw A (zmk A i)) = true
    · rw [if_pos e] at h; exact absurd h (nI_ne i (by omega))
    · rw [if_neg e] at h
      by_cases ep : p = i
      · rw [ep]; exact e
      · exact zPfi_no A k j (i + 1) (by omega) h p (by omega) (by omega)
theorem zSm.sym {a b : Nat → Int} (h : zSm a b) : zSm b a := fun k hk => (h k hk).symm
theorem zGd.setR {A : zDk} (h : zGd A) {k p : Nat} (hk : k < kC A) (hr : kR A k = -1) (hp : p < kP A) (hs : zSm (zcw A k) (zcw A (zmk A p))) : zGd (aSetR A k (nI p)) := by
  obtain ⟨hw, h1, h2, h3⟩ := h
  have hp8 := hw.2.1
  refine ⟨⟨hw.1, hw.2.1, fun i hi => ?_⟩, fun i hi => ?_, fun q hq => ?_, h3⟩
  · obtain ⟨a1, a2, a3, a4⟩ := hw.2.2 i hi
    refine ⟨a1, a2, ?_, a4⟩
    show upd (kR A) k (nI p) i = -1 ∨ ∃ p_1, p_1 < 8 ∧ upd (kR A) k (nI p) i = nI p_1
    simp only [upd]; split
    · exact Or.inr ⟨p, by omega, rfl⟩
    · exact a3
  · by_cases e : i = k
    · subst e; exact Or.inr ⟨p, hp, (show upd (kR A) i (nI p) i = nI p from pk_us), hs⟩
    · rcases h1 i hi with a | ⟨q, hq, e2, s⟩
      · exact Or.inl ((show upd (kR A) k (nI p) i = kR A i from pk_un e).trans a)
      · exact Or.inr ⟨q, hq, (show upd (kR A) k (nI p) i = kR A i from pk_un e).trans e2, s⟩
  · obtain ⟨b1, b2, b3⟩ := h2 q hq
    refine ⟨b1, b2, (show upd (kR A) k (nI p) (zmk A q) = kR A (zmk A q) from pk_un (fun e => ?_)).trans b3⟩
    rw [e, hr] at b3
    exact nI_ne q (by have : q < kP A := hq; omega) b3.symm
theorem zGd.ver {A : zDk} (h : zGd A) {k : Nat} (hk : k < kC A) (hr : kR A k = -1) : zGd (aVer A k) := by
  have hlt := h.lt hk hr
  obtain ⟨hw, h1, h2, h3⟩ := id h
  have hc8 := hw.1
  have hp8 := hw.2.1
  unfold aVer
  by_cases e : zPf A k = -1
  · rw [if_pos e]
    have no := zPfi_no A k (kP A) 0 (by omega) e
    have mk1 : ∀ q, q < kP A → zmk (aPrec A k (zTg A k)) q = zmk A q := fun q hq => congrArg Int32.toNatClampNeg (show upd (kM A) (kP A) (nI k) q = kM A q from pk_un (by omega))
    have mk2 : zmk (aPrec A k (zTg A k)) (kP A) = k := (congrArg Int32.toNatClampNeg (show upd (kM A) (kP A) (nI k) (kP A) = nI k from pk_us)).trans (nI_clamp (by omega))
    have mk3 : kM (aPrec A k (zTg A k)) (kP A) = nI k := pk_us
    have w1 := hw.prec (by omega) (c := k) (by omega) (zTg01 A k)
    have nek : ∀ q, q < kP A → zmk A q ≠ k := fun q hq e2 => by
      have b3 := (h2 q hq).2.2
      rw [e2, hr] at b3
      exact nI_ne q (by omega) b3.symm
    refine ⟨⟨w1.1, w1.2.1, fun i hi => ?_⟩, fun i hi => ?_, fun q hq => ?_, fun q t hq ht => ?_⟩
    · obtain ⟨a1, a2, a3, a4⟩ := w1.2.2 i hi
      refine ⟨a1, a2, ?_, a4⟩
      show upd (kR A) k (nI (kP A)) i = -1 ∨ ∃ p_1, p_1 < 8 ∧ upd (kR A) k (nI (kP A)) i = nI p_1
      simp only [upd]; split
      · exact Or.inr ⟨kP A, by omega, rfl⟩
      · exact a3
    · by_cases e2 : i = k
      · subst e2
        refine Or.inr ⟨kP A, (show kP A < kP A + 1 by omega), (show upd (kR A) i (nI (kP A)) i = nI (kP A) from pk_us), ?_⟩
        show zSm (zcw A i) (zcw A (zmk (aPrec A i (zTg A i)) (kP A)))
        rw [mk2]; exact zSm.rf
      · rcases h1 i hi with a | ⟨q, hq, e3, s⟩
        · exact Or.inl ((show upd (kR A) k (nI (kP A)) i = kR A i from pk_un e2).trans a)
        · refine Or.inr ⟨q, (show q < kP A + 1 by omega), (show upd (kR A) k (nI (kP A)) i = kR A i from pk_un e2).trans e3, ?_⟩
          show zSm (zcw A i) (zcw A (zmk (aPrec A k (zTg A k)) q))
          rw [mk1 q hq]; exact s
    · by_cases e2 : q = kP A
      · rw [e2]
        refine ⟨?_, ?_, ?_⟩
        · show zmk (aPrec A k (zTg A k)) (kP A) < kC A
          rw [mk2]; exact hk
        · show kM (aPrec A k (zTg A k)) (kP A) = nI (zmk (aPrec A k (zTg A k)) (kP A))
          rw [mk2]; exact mk3
        · show upd (kR A) k (nI (kP A)) (zmk (aPrec A k (zTg A k)) (kP A)) = nI (kP A)
          rw [mk2]; exact pk_us
      · have hq' : q < kP A := by have : q < kP A + 1 := hq; omega
        obtain ⟨b1, b2, b3⟩ := h2 q hq'
        refine ⟨?_, ?_, ?_⟩
        · show zmk (aPrec A k (zTg A k)) q < kC A
          rw [mk1 q hq']; exact b1
        · show upd (kM A) (kP A) (nI k) q = nI (zmk (aPrec A k (zTg A k)) q)
          rw [mk1 q hq', pk_un (show q ≠ kP A by omega)]; exact b2
        · show upd (kR A) k (nI (kP A)) (zmk (aPrec A k (zTg A k)) q) = nI q
          rw [mk1 q hq', pk_un (nek q hq')]; exact b3
    · show ¬ zSm (zcw A (zmk (aPrec A k (zTg A k)) q)) (zcw A (zmk (aPrec A k (zTg A k)) t))
      have ht' : t < kP A := by have : q < kP A + 1 := hq; omega
      rw [mk1 t ht']
      by_cases e2 : q = kP A
      · rw [e2, mk2]
        exact fun s => no t (by omega) (by omega) (zSmb_iff.mpr s)
      · have hq' : q < kP A := by have : q < kP A + 1 := hq; omega
        rw [mk1 q hq']; exact h3 q t hq' ht
  · rw [if_neg e]
    rcases zPfi_at A k (kP A) 0 with q | ⟨p, q1, q2, q3, q4⟩
    · exact absurd q e
    · rw [show zPf A k = nI p from q3]
      exact h.setR hk hr (by omega) (zSmb_iff.mp q4)
theorem zGd.rev {A : zDk} (h : zGd A) (p : Nat) : zGd (aRev A p) := by
  obtain ⟨hw, h1, h2, h3⟩ := h
  have wA := hw.setA (p := p)
  have wT : zDw (aSetT (aSetA A p 1) p (if kT A p = 0 then 1 else 0)) := wA.setT (by split; exact Or.inr rfl; exact Or.inl rfl)
  unfold aRev
  split
  · exact ⟨wT, h1, h2, h3⟩
  · exact ⟨wA, h1, h2, h3⟩
