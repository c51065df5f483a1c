/-! relaxing keeps the coordinates; a relaxed word's sign -/
theorem zbh_hit {f : Nat → Int32} {j l : Int32} : ∀ n : Nat, n < 2 ^ 31 → (∃ k, k < n ∧ zix (f k) = j) → (∀ k, k < n → ¬ zix (f k) = j - 1) → (∀ k, k < n → zix (f k) = j → f k = -l) → ¬ zbh f j l n = -1
  | 0, _, ⟨k, hk, _⟩, _, _ => absurd hk (Nat.not_lt_zero k)
  | n + 1, hn, ⟨k, hk, e⟩, h1, h2 => by
    simp only [zbh]
    by_cases q : zix (f n) = j
    · rw [if_pos q, if_pos (h2 n (by omega) q)]; exact nI_ne n (by omega)
    · rw [if_neg q, if_neg (h1 n (by omega))]
      have hkn : k ≠ n := fun z => q (z ▸ e)
      exact zbh_hit n (by omega) ⟨k, by omega, e⟩ (fun t ht => h1 t (by omega)) (fun t ht => h2 t (by omega))
/-- no letter ends a handle -/
def zHf (W : List Int32) : Prop := ∀ i, i < W.length → zbh (wv W) (zix (wv W i)) (wv W i) i = -1
theorem wv_app {P M : List Int32} {k : Nat} (h : k < P.length) : wv (P ++ M) k = wv P k := by
  unfold wv; rw [List.getD_eq_getElem?_getD, List.getD_eq_getElem?_getD, List.getElem?_append_left h]
theorem wv_end (P : List Int32) (x : Int32) : wv (P ++ [x]) P.length = x := by
  unfold wv; rw [List.getD_eq_getElem?_getD, List.getElem?_append_right (Nat.le_refl _), Nat.sub_self]; rfl
theorem wv_take {P : List Int32} {a k : Nat} (h : k < a) : wv (P.take a) k = wv P k := by
  unfold wv; rw [List.getD_eq_getElem?_getD, List.getD_eq_getElem?_getD, List.getElem?_take_of_lt h]
theorem wv_mem {P : List Int32} {k : Nat} (h : k < P.length) : wv P k ∈ P := by
  unfold wv; rw [List.getD_eq_getElem?_getD, List.getElem?_eq_getElem h]; exact List.getElem_mem h
theorem wv_ex {P : List Int32} {x : Int32} (h : x ∈ P) : ∃ k, k < P.length ∧ wv P k = x := by
  obtain ⟨k, hk, e⟩ := List.mem_iff_getElem.mp h
  exact ⟨k, hk, by unfold wv; rw [List.getD_eq_getElem?_getD, List.getElem?_eq_getElem hk]; exact e⟩
theorem zHf.nil : zHf [] := fun i hi => absurd hi (Nat.not_lt_zero i)
theorem zHf.snoc {P : List Int32} {x : Int32} (h : zHf P) (hx : zha P x = -1) : zHf (P ++ [x]) := by
  intro i hi
  rw [List.length_append, List.length_singleton] at hi
  by_cases e : i < P.length
  · rw [wv_app e, zbh_congr _ _ (fun k hk => wv_app (by omega))]; exact h i e
  · obtain rfl : i = P.length := by omega
    rw [wv_end, zbh_congr _ _ (fun k hk => wv_app hk)]; exact hx
theorem zHf.take {P : List Int32} (h : zHf P) (a : Nat) : zHf (P.take a) := by
  intro i hi
  rw [List.length_take] at hi
  have h1 : i < a := by omega
  have h2 : i < P.length := by omega
  rw [wv_take h1, zbh_congr _ _ (fun k hk => wv_take (by omega))]; exact h i h2
theorem zsplit {P : List Int32} {a : Nat} (h : a < P.length) : P = P.take a ++ wv P a :: P.drop (a + 1) := by
  have := List.take_append_drop a P
  rw [List.drop_eq_getElem_cons h] at this
  rw [show wv P a = P[a] from by unfold wv; rw [List.getD_eq_getElem?_getD, List.getElem?_eq_getElem h]; rfl]
  exact this.symm
theorem zred {P Q : List Int32} {x : Int32} {a : Nat} (hP : zAll P) (hx : zLt x) (ha : a < P.length) (hl : P.length < 2 ^ 31) (h : zha P x = nI a) (w : Nat → Int) : zcv w (P ++ x :: Q) = zcv w (P.take a ++ (zinn P a ++ Q)) := by
  have hc : ∃ b, b < P.length ∧ zbh (wv P) (zix x) x P.length = nI b ∧ wv P b = -x ∧ zix (wv P b) = zix x ∧ ∀ k, b < k → k < P.length → ¬ zix (wv P k) = zix x ∧ ¬ zix (wv P k) = zix x - 1 := by
    rcases zbh_cases (wv P) (zix x) x P.length with e | e
    · exact absurd (e.symm.trans h).symm (nI_ne a (by omega))
    · exact e
  obtain ⟨b, hb, e, e1, e2, e3⟩ := hc
  obtain rfl : b = a := (nI_eq (by omega) (by omega)).mp (e.symm.trans h)
  have lb : zLt (wv P b) := hP _ (wv_mem hb)
  have hm := zmid lb (P.drop (b + 1)) (fun y hy => by
    obtain ⟨k, hk, ek⟩ := wv_ex hy
    rw [List.length_drop] at hk
    have ek2 : wv P (b + 1 + k) = y := by
      rw [← ek]; unfold wv
      rw [List.getD_eq_getElem?_getD, List.getD_eq_getElem?_getD, List.getElem?_drop]
    rw [← ek2, e2]
    exact ⟨hP _ (wv_mem (by omega)), e3 _ (by omega) (by omega)⟩) (zcv w (P.take b))
  have ex : -(wv P b) = x := by rw [e1]; exact Int32.neg_neg
  rw [ex] at hm
  have eg : P.getD b 0 = wv P b := rfl
  rw [zcv_app, zcv_app, zcv_app]
  show zcv (zsl x (zcv w P)) Q = zcv (zcv (zcv w (P.take b)) (zinn P b)) Q
  congr 1
  rw [show zinn P b = (P.drop (b + 1)).flatMap (zrp (wv P b)) from rfl, ← hm]
  congr 1
  have z := congrArg (zcv w) (zsplit hb)
  rw [zcv_app] at z
  exact z
theorem zRn_kq (r : Nat) (ihr : ∀ r', r = r' + 1 → ∀ (Q P : List Int32) (q : Nat) (W : List Int32), zAll P → zAll Q → zHf P → P.length + Q.length < 2 ^ 31 → zRn r' P Q = some (q, W) → zHf W ∧ ∀ w, zcv w W = zcv w (P ++ Q)) : ∀ (Q P : List Int32) (q : Nat) (W : List Int32), zAll P → zAll Q → zHf P → P.length + Q.length < 2 ^ 31 → zRn r P Q = some (q, W) → zHf W ∧ ∀ w, zcv w W = zcv w (P ++ Q) := by
  intro Q
  induction Q with
  | nil => intro P q W hP hQ hH _ h; rw [zRn_nil] at h; injection h with h; injection h with h1 h2; rw [← h2, List.append_nil]; exact ⟨hH, fun w => rfl⟩
  | cons x Q ih =>
    intro P q W hP hQ hH l h
    rw [List.length_cons] at l
    have hx := hQ x List.mem_cons_self
    have hQ' : zAll Q := fun y hy => hQ y (List.mem_cons_of_mem _ hy)
    by_cases e : zha P x = -1
    · rw [zRn_take e] at h
      obtain ⟨h1, h2⟩ := ih (P ++ [x]) q W (hP.app (zAll.one hx)) hQ' (hH.snoc e) (by rw [List.length_append, List.length_singleton]; omega) h
      refine ⟨h1, fun w => ?_⟩
      rw [h2 w, List.append_assoc]; rfl
    · cases r with
      | zero => rw [zRn_0 e] at h; cases h
      | succ r =>
        obtain ⟨a, ha, e2⟩ := zha_at e
        rw [zRn_s e2 ha (by omega)] at h
        by_cases e3 : 400 < a + ((zinn P a).length + Q.length)
        · rw [if_pos e3] at h; cases h
        · rw [if_neg e3] at h
          obtain ⟨h1, h2⟩ := ihr r rfl (zinn P a ++ Q) (P.take a) q W (fun y hy => hP y (List.mem_of_mem_take hy)) (zAll.app (zinn_lt hP ha) hQ') (hH.take a) (by
            rw [List.length_take, List.length_append]
            have := Nat.min_le_left a P.length
            omega) h
          exact ⟨h1, fun w => by rw [h2 w, zred hP hx ha (by omega) e2 w]⟩
theorem zRn_k : ∀ (r : Nat) (Q P : List Int32) (q : Nat) (W : List Int32), zAll P → zAll Q → zHf P → P.length + Q.length < 2 ^ 31 → zRn r P Q = some (q, W) → zHf W ∧ ∀ w, zcv w W = zcv w (P ++ Q)
  | 0 => zRn_kq 0 (fun r' h => by omega)
  | r + 1 => zRn_kq (r + 1) (fun r' h => by obtain rfl : r' = r := by omega
                                            exact zRn_k r')
/-- the lowest letter -/
theorem zlm_at {f : Nat → Int32} : ∀ {n : Nat}, (∀ k, k < n → zLt (f k)) → 0 < n → ∃ p, p < n ∧ zlm f n = f p ∧ ∀ k, k < n → zJx (f p) ≤ zJx (f k)
  | 0, _, h => absurd h (Nat.lt_irrefl 0)
  | n + 1, h, _ => by
    have ne0 : ∀ y : Int32, zLt y → ¬ y = 0 := fun y hy e => by subst e; exact absurd hy (by unfold zLt; decide)
    simp only [zlm]
    by_cases h0 : n = 0
    · subst h0
      rw [if_pos (Or.inl (show zlm f 0 = 0 from rfl))]
      exact ⟨0, by omega, rfl, fun k hk => by obtain rfl : k = 0 := by omega
                                              exact Nat.le_refl _⟩
    · obtain ⟨p, hp, e, hm⟩ := zlm_at (n := n) (fun k hk => h k (by omega)) (by omega)
      rw [e]
      have lp := h p (by omega)
      have ln := h n (by omega)
      obtain ⟨a1, a2, a3⟩ := zJx_b lp
      obtain ⟨b1, b2, b3⟩ := zJx_b ln
      by_cases c : zix (f n) < zix (f p)
      · rw [if_pos (Or.inr c)]
        rw [a3, b3] at c
        have c2 := (nI_ltI (by omega) (by omega)).mp c
        refine ⟨n, by omega, rfl, fun k hk => ?_⟩
        by_cases ek : k = n
        · subst ek; exact Nat.le_refl _
        · have := hm k (by omega); omega
      · rw [if_neg (fun q => q.elim (ne0 _ lp) c)]
        rw [a3, b3] at c
        have c2 : ¬ zJx (f n) < zJx (f p) := fun q => c ((nI_ltI (by omega) (by omega)).mpr q)
        refine ⟨p, by omega, rfl, fun k hk => ?_⟩
        by_cases ek : k = n
        · subst ek; omega
        · exact hm k (by omega)
/-- of the lowest letters all are alike in a relaxed word -/
theorem zHf.one {W : List Int32} (h : zHf W) (hW : zAll W) (hl : W.length < 2 ^ 31) {j : Nat} (hj : 1 ≤ j ∧ j ≤ 4) (hm : ∀ k, k < W.length → j ≤ zJx (wv W k)) : ∀ n, n ≤ W.length → ∀ k1 k2, k1 < n → k2 < n → zJx (wv W k1) = j → zJx (wv W k2) = j → wv W k1 = wv W k2
  | 0, _, k1, _, h1, _, _, _ => absurd h1 (Nat.not_lt_zero k1)
  | n + 1, hn, k1, k2, h1, h2, e1, e2 => by
    have ih := zHf.one h hW hl hj hm n (by omega)
    have key : ∀ k, k < n → zJx (wv W k) = j → zJx (wv W n) = j → wv W k = wv W n := by
      intro k hk ek en
      have lk := hW _ (wv_mem (P := W) (k := k) (by omega))
      have l2 := hW _ (wv_mem (P := W) (k := n) (by omega))
      by_cases eq : wv W k = wv W n
      · exact eq
      · exfalso
        have opp : wv W k = -(wv W n) := by
          have a := (zJx_b lk).2.2
          have b := (zJx_b l2).2.2
          rw [ek] at a; rw [en] at b
          have c : zix (wv W k) = zix (wv W n) := a.trans b.symm
          generalize wv W k = u at *
          generalize wv W n = v at *
          rcases lk with rfl | rfl | rfl | rfl | rfl | rfl | rfl | rfl <;> rcases l2 with rfl | rfl | rfl | rfl | rfl | rfl | rfl | rfl <;> first
            | exact absurd rfl eq
            | exact absurd c (by decide +kernel)
            | decide +kernel
        have hz := h n (by omega)
        refine zbh_hit n (by omega) ⟨k, hk, ?_⟩ (fun t ht q => ?_) (fun t ht q => ?_) hz
        · rw [(zJx_b lk).2.2, (zJx_b l2).2.2, ek, en]
        · have lt := hW _ (wv_mem (P := W) (k := t) (by omega))
          have mt := hm t (by omega)
          have bt := (zJx_b lt)
          rw [bt.2.2, (zJx_b l2).2.2, en, show nI j - 1 = nI (j - 1) from pk_sub (a := j) (b := 1) hj.1] at q
          have := (nI_eq (by omega) (by omega)).mp q
          omega
        · have lt := hW _ (wv_mem (P := W) (k := t) (by omega))
          rw [(zJx_b lt).2.2, (zJx_b l2).2.2, en] at q
          have ej : zJx (wv W t) = j := (nI_eq (by have := zJx_b lt; omega) (by omega)).mp q
          rw [ih t k ht hk ej ek, opp]
    by_cases c1 : k1 = n
    · by_cases c2 : k2 = n
      · rw [c1, c2]
      · rw [c1] at e1 ⊢; exact (key k2 (by omega) e2 e1).symm
    · by_cases c2 : k2 = n
      · rw [c2] at e2 ⊢; exact key k1 (by omega) e1 e2
      · exact ih k1 k2 (by omega) (by omega) e1 e2
