/-! ===== letters stay letters; runs of commands ===== -/
def zAll (L : List Int32) : Prop := ∀ y ∈ L, zLt y
theorem zAll.app {L M : List Int32} (h : zAll L) (h2 : zAll M) : zAll (L ++ M) := fun y hy => (List.mem_append.mp hy).elim (h y) (h2 y)
theorem zAll.one {x : Int32} (h : zLt x) : zAll [x] := fun y hy => by rw [List.mem_singleton.mp hy]; exact h
theorem zRn_ltq (r : Nat) (ihr : ∀ r', r = r' + 1 → ∀ (Q P : List Int32) (q : Nat) (W : List Int32), zAll P → zAll Q → P.length + Q.length < 2 ^ 31 → zRn r' P Q = some (q, W) → zAll W) : ∀ (Q P : List Int32) (q : Nat) (W : List Int32), zAll P → zAll Q → P.length + Q.length < 2 ^ 31 → zRn r P Q = some (q, W) → zAll W := by
  intro Q
  induction Q with
  | nil => intro P q W hP hQ _ h; rw [zRn_nil] at h; injection h with h; injection h with h1 h2; rw [← h2]; exact hP
  | cons x Q ih =>
    intro P q W hP hQ l h
    rw [List.length_cons] at l
    have hx := hQ x List.mem_cons_self
    have hQ' : zAll Q := fun y hy => hQ y (List.mem_cons_of_mem _ hy)
    by_cases e : zha P x = -1
    · rw [zRn_take e] at h
      exact ih (P ++ [x]) q W (hP.app (zAll.one hx)) hQ' (by rw [List.length_append, List.length_singleton]; omega) h
    · cases r with
      | zero => rw [zRn_0 e] at h; cases h
      | succ r =>
        obtain ⟨a, ha, e2⟩ := zha_at e
        rw [zRn_s e2 ha (by omega)] at h
        by_cases e3 : 400 < a + ((zinn P a).length + Q.length)
        · rw [if_pos e3] at h; cases h
        · rw [if_neg e3] at h
          refine ihr r rfl (zinn P a ++ Q) (P.take a) q W (fun y hy => hP y (List.mem_of_mem_take hy)) (zAll.app (zinn_lt hP ha) hQ') ?_ h
          rw [List.length_take, List.length_append]
          have := Nat.min_le_left a P.length
          omega
theorem zRn_lt : ∀ (r : Nat) (Q P : List Int32) (q : Nat) (W : List Int32), zAll P → zAll Q → P.length + Q.length < 2 ^ 31 → zRn r P Q = some (q, W) → zAll W
  | 0 => zRn_ltq 0 (fun r' h => by omega)
  | r + 1 => zRn_ltq (r + 1) (fun r' h => by obtain rfl : r' = r := by omega
                                             exact zRn_lt r')
theorem zRP_lt {f : Nat → Int32} {n : Nat} (h : ∀ t, t < n → zLt (f t)) : ∀ i, i ≤ n → ∀ t, t < n → zLt ((zRP f i).2 t)
  | 0, _ => h
  | i + 1, hi => by
    have q := zRP_lt h i (by omega)
    intro t ht
    simp only [zRP]
    split
    · exact q t ht
    · show zLt (upd (zRP f i).2 (zRP f i).1 ((zRP f i).2 i) t)
      simp only [upd]; split
      · exact q i (by omega)
      · exact q t ht
theorem zwv_lt {W : List Int32} (h : zAll W) : ∀ t, t < W.length → zLt (wv W t) := fun t ht => h _ (by
  unfold wv
  rw [List.getD_eq_getElem?_getD, List.getElem?_eq_getElem ht]
  exact List.getElem_mem ht)
theorem zGd.rel {A : zDk} (h : zGd A) {k : Nat} (hk : k < 8) (hr : kR A k = -1) {q : Nat} {W : List Int32} (hO : zRn 2000 [] (zWd A k) = some (q, W)) (hW : W.length ≤ 16) : zGd (aWord A k W.length (wv W)) := by
  have l := zWd_len h.1 hk
  exact h.word hr hW (zwv_lt (zRn_lt 2000 (zWd A k) [] q W (fun y hy => by cases hy) (h.1.wd hk) (by rw [List.length_nil]; omega) hO))
theorem zGd.cmd {A : zDk} (h : zGd A) {c k : Nat} {l : Int32} (hl : zAl A c k) (hc : c < 7) (hL : c = 1 → zLt l) : zGd (aCmd A c k l) := by
  obtain ⟨a0, a1, a2, a3, a4, a5, a6⟩ := hl
  have h8 := h.1.1
  unfold aCmd
  by_cases c0 : c = 0
  · rw [if_pos c0]; exact h.case (a0 c0)
  have hk : k < kC A := a1 (by omega)
  have hw := h.1.2.2 k (by omega)
  rw [if_neg c0]
  by_cases c1 : c = 1
  · rw [if_pos c1]
    have n16 := a2 c1
    refine h.word (a5 (by omega) (by omega)) (by omega) (fun t ht => ?_)
    simp only [upd]; split
    · exact hL c1
    · exact hw.2.1 t (by omega)
  rw [if_neg c1]
  by_cases c2 : c = 2
  · rw [if_pos c2]
    exact h.word (a5 (by omega) (by omega)) (by omega) (fun t ht => hw.2.1 t (by omega))
  rw [if_neg c2]
  by_cases c3 : c = 3
  · rw [if_pos c3]
    have q := zRP_le (kL A k) (kN A k)
    exact h.word (a5 (by omega) (by omega)) (by omega) (fun t ht => zRP_lt hw.2.1 _ (Nat.le_refl _) t (by omega))
  rw [if_neg c3]
  by_cases c4 : c = 4
  · rw [if_pos c4]
    obtain ⟨⟨q, W⟩, e, eW⟩ := a4 c4
    unfold aRel; rw [e]
    exact h.rel (by omega) (a5 (by omega) (by omega)) e eW
  rw [if_neg c4]
  by_cases c5 : c = 5
  · rw [if_pos c5]; exact h.ver hk (a5 (by omega) (by omega))
  · rw [if_neg c5]; exact h.rev _
/-! the parser looks at the text alone, and what it finds is well -/
theorem zcm_congr {f g : Nat → Int32} {n : Nat} (h : ∀ k, k < n → f k = g k) : ∀ (S : List Int32) (a : Nat), zcm f n a S = zcm g n a S
  | [], a => rfl
  | c :: S, a => by
    simp only [zcm]
    rw [zcm_congr h S (a + 1)]
    by_cases e : a < n
    · rw [h a e]
    · rw [if_neg (fun q => e q.1), if_neg (fun q => e q.1)]
theorem zpar_congr {f g : Nat → Int32} {n : Nat} (h : ∀ k, k < n → f k = g k) (c a : Nat) : zpar f n c a = zpar g n c a := by
  unfold zpar
  by_cases e : a < n
  · rw [h a e]
    by_cases e1 : a + 1 < n
    · rw [h _ e1]
      by_cases e2 : a + 2 < n
      · rw [h _ e2]
      · simp only [e2, false_and, if_false]
    · simp only [e1, false_and, if_false]
  · simp only [e, false_and, if_false]
theorem zrcF_congr {f g : Nat → Int32} {n : Nat} (h : ∀ k, k < n → f k = g k) (a : Nat) : ∀ j i far : Nat, zrcF f n a i far j = zrcF g n a i far j
  | 0, i, far => rfl
  | j + 1, i, far => by simp only [zrcF]; rw [zcm_congr h, zpar_congr h, zrcF_congr h a j]
theorem zps_congr {f g : Nat → Int32} {n : Nat} (h : ∀ k, k < n → f k = g k) : ∀ (t a : Nat) (L : zTL), zps f n t a L = zps g n t a L
  | 0, a, L => rfl
  | t + 1, a, L => by
    have e : zrc f n a = zrc g n a := zrcF_congr h a 7 0 0
    simp only [zps]
    rw [e]
    by_cases e2 : (zrc g n a).2.1 < n
    · rw [h _ e2, zps_congr h t]
    · simp only [e2, false_and, if_false]
def zLok (q : Nat × Nat × Int32) : Prop := q.1 < 7 ∧ q.2.1 < 10 ∧ (q.1 = 1 → zLt q.2.2)
theorem zlet_lt {x : Int32} (h : ¬ zlet x = 0) : zLt (zlet x) := by
  unfold zlet at h ⊢
  by_cases e : 97 ≤ x ∧ x ≤ 100
  · rw [if_pos e]
    obtain ⟨j, hj, e2⟩ := nI_of2 (x := x) (M := 100) (n := 100) rfl (fun q => absurd (Int32.lt_of_le_of_lt e.1 q) (by decide)) e.2
    subst e2
    have h3 : 97 ≤ j := (nI_leI (a := 97) (b := j) (by omega) (by omega)).mp e.1
    obtain rfl | rfl | rfl | rfl : j = 97 ∨ j = 98 ∨ j = 99 ∨ j = 100 := by omega
    all_goals (unfold zLt; decide +kernel)
  · rw [if_neg e] at h ⊢
    by_cases e3 : 65 ≤ x ∧ x ≤ 68
    · rw [if_pos e3]
      obtain ⟨j, hj, e2⟩ := nI_of2 (x := x) (M := 68) (n := 68) rfl (fun q => absurd (Int32.lt_of_le_of_lt e3.1 q) (by decide)) e3.2
      subst e2
      have h3 : 65 ≤ j := (nI_leI (a := 65) (b := j) (by omega) (by omega)).mp e3.1
      obtain rfl | rfl | rfl | rfl : j = 65 ∨ j = 66 ∨ j = 67 ∨ j = 68 := by omega
      all_goals (unfold zLt; decide +kernel)
    · rw [if_neg e3] at h; exact absurd rfl h
theorem zpar_let {f : Nat → Int32} {n c a : Nat} (h : (zpar f n c a).1 = true) (hc : c = 1) : zLt (zpar f n c a).2.2.2 := by
  unfold zpar at h ⊢
  rw [if_neg (by omega)] at h ⊢
  by_cases e : a < n ∧ 48 ≤ f a ∧ f a ≤ 57
  · rw [if_pos e, if_pos hc] at h ⊢
    by_cases e1 : a + 1 < n ∧ f (a + 1) = 32
    · rw [if_pos e1] at h ⊢
      by_cases e2 : a + 2 < n ∧ ¬ zlet (f (a + 2)) = 0
      · rw [if_pos e2]; exact zlet_lt e2.2
      · rw [if_neg e2] at h; cases h
    · rw [if_neg e1] at h; cases h
  · rw [if_neg e] at h; cases h
theorem zrcF_let {f : Nat → Int32} {n a : Nat} : ∀ j i far : Nat, (zrcF f n a i far j).1 = true → (zrcF f n a i far j).2.2.1 = 1 → zLt (zrcF f n a i far j).2.2.2.2
  | 0, i, far => fun h => by cases h
  | j + 1, i, far => by
    simp only [zrcF]
    split
    · intro h1 h2; exact zpar_let h1 h2
    · exact zrcF_let j (i + 1) _
theorem zps_ok {f : Nat → Int32} {n : Nat} : ∀ (t a : Nat) (L : zTL), a ≤ n → (∀ q ∈ L, zLok q) → ∀ q ∈ (zps f n t a L).2.2, zLok q
  | 0, a, L, _, h => h
  | t + 1, a, L, ha, h => by
    simp only [zps]
    by_cases e : (zrc f n a).1 = true
    · rw [if_pos e]
      obtain ⟨b1, b2, b3⟩ := zrc_at (f := f) ha
      obtain ⟨d1, d2, d3⟩ := b3 e
      have h' : ∀ q ∈ L ++ [(zrc f n a).2.2], zLok q := fun q hq => by
        rcases List.mem_append.mp hq with x | x
        · exact h q x
        · rw [List.mem_singleton.mp x]; exact ⟨d2, d3, zrcF_let 7 0 0 e⟩
      split
      · exact h'
      · split
        · rename_i q; exact zps_ok t _ _ (by omega) h'
        · exact h'
    · rw [if_neg e]; exact h
/-- a run of commands: the court behind it, or the place of the command that fails and its denial -/
def zEx : zDk → Nat → zTL → zDk ⊕ (Nat × Int32)
  | A, _, [] => .inl A
  | A, i, q :: L => if zOb A q.1 q.2.1 = 0 then zEx (aCmd A q.1 q.2.1 q.2.2) (i + 1) L else .inr (i, zOb A q.1 q.2.1)
