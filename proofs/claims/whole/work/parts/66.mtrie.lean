/-! the text's commands, as the reference reads them: letter by letter -/
theorem zcm_app (f : Nat → Int32) (n : Nat) (R : List Int32) : ∀ (S : List Int32) (a : Nat), zcm f n a (S ++ R) = if zcm f n a S = S.length then S.length + zcm f n (a + S.length) R else zcm f n a S
  | [], a => by show zcm f n a R = if (0 : Nat) = 0 then 0 + zcm f n (a + 0) R else 0; rw [if_pos rfl, Nat.zero_add, Nat.add_zero]
  | c :: S, a => by
    have ih := zcm_app f n R S (a + 1)
    have le := zcm_le f n S (a + 1)
    have ll : (c :: S).length = S.length + 1 := rfl
    by_cases h : a < n ∧ f a = c
    · have e1 : zcm f n a (c :: S ++ R) = zcm f n (a + 1) (S ++ R) + 1 := if_pos h
      have e2 : zcm f n a (c :: S) = zcm f n (a + 1) S + 1 := if_pos h
      rw [e1, e2, ih, ll]
      by_cases e : zcm f n (a + 1) S = S.length
      · rw [if_pos e, if_pos (by omega), show a + 1 + S.length = a + (S.length + 1) from by omega]; omega
      · rw [if_neg e, if_neg (by omega)]
    · have e1 : zcm f n a (c :: S ++ R) = 0 := if_neg h
      have e2 : zcm f n a (c :: S) = 0 := if_neg h
      rw [e1, e2, ll, if_neg (by omega)]
theorem zcm_hd {f : Nat → Int32} {n a : Nat} {c : Int32} {L : List Int32} (h : f a = c) (hd : ¬ L.head? = some c) : zcm f n a L = 0 := by
  cases L with
  | nil => rfl
  | cons d S => exact if_neg (fun q => hd (by rw [← h, q.2]; rfl))
theorem zcm_no {f : Nat → Int32} {n a : Nat} {c : Int32} {S : List Int32} (h : ¬ (a < n ∧ f a = c)) : zcm f n a (c :: S) = 0 := if_neg h
theorem zcm_ye {f : Nat → Int32} {n a : Nat} {c : Int32} {S : List Int32} (h : a < n ∧ f a = c) : zcm f n a (c :: S) = zcm f n (a + 1) S + 1 := if_pos h
theorem zrcF_hit {f : Nat → Int32} {n a w : Nat} (hw : w < 7) (hm : zcm f n a (zLw w) = zTXn w) (oth : ∀ i, i < 7 → i ≠ w → ¬ zcm f n a (zLw i) = zTXn i) : ∀ (j i far : Nat), i + j = 7 → i ≤ w → zrcF f n a i far j = ((zpar f n w (a + zTXn w)).1, (zpar f n w (a + zTXn w)).2.1, w, (zpar f n w (a + zTXn w)).2.2.1, (zpar f n w (a + zTXn w)).2.2.2)
  | 0, i, far, h1, h2 => absurd h1 (by omega)
  | j + 1, i, far, h1, h2 => by
    simp only [zrcF]
    by_cases e : i = w
    · subst e; rw [if_pos hm]
    · rw [if_neg (oth i (by omega) e)]
      exact zrcF_hit hw hm oth j (i + 1) _ (by omega) (by omega)
theorem zrcF_miss {f : Nat → Int32} {n a B : Nat} (all : ∀ i, i < 7 → zcm f n a (zLw i) ≤ B ∧ ¬ zcm f n a (zLw i) = zTXn i) : ∀ (j i far : Nat), i + j = 7 → far ≤ B → (far = B ∨ ∃ w, i ≤ w ∧ w < 7 ∧ zcm f n a (zLw w) = B) → zrcF f n a i far j = (false, a + B, 0, 0, 0)
  | 0, i, far, h1, h2, h3 => by
    have : far = B := h3.resolve_right (fun q => by obtain ⟨w, q1, q2, -⟩ := q; omega)
    rw [this]; rfl
  | j + 1, i, far, h1, h2, h3 => by
    obtain ⟨a1, a2⟩ := all i (by omega)
    simp only [zrcF]
    rw [if_neg a2]
    refine zrcF_miss all j (i + 1) _ (by omega) (by omega) ?_
    rcases h3 with e | ⟨w, q1, q2, q3⟩
    · exact Or.inl (by omega)
    · by_cases ew : w = i
      · subst ew; exact Or.inl (by omega)
      · exact Or.inr ⟨w, by omega, q2, q3⟩
/-- a space and a figure, a space and a letter: well or not, and where one stands then -/
def zfg (f : Nat → Int32) (n b : Nat) : Bool × Nat := if b < n ∧ f b = 32 then (if b + 1 < n ∧ 48 ≤ f (b + 1) ∧ f (b + 1) ≤ 57 then (true, b + 1 + 1) else (false, b + 1)) else (false, b)
def zlh (f : Nat → Int32) (n b : Nat) : Bool × Nat := if b < n ∧ f b = 32 then (if b + 1 < n ∧ ¬ zlet (f (b + 1)) = 0 then (true, b + 1 + 1) else (false, b + 1)) else (false, b)
theorem zfg_at {f : Nat → Int32} {n b : Nat} (h : b ≤ n) : b ≤ (zfg f n b).2 ∧ (zfg f n b).2 ≤ n := by
  unfold zfg
  split
  · split
    · rename_i q1 q2; exact ⟨(show b ≤ b + 1 + 1 by omega), (show b + 1 + 1 ≤ n by omega)⟩
    · rename_i q1 q2; exact ⟨(show b ≤ b + 1 by omega), (show b + 1 ≤ n by omega)⟩
  · exact ⟨Nat.le_refl _, h⟩
theorem zlh_at {f : Nat → Int32} {n b : Nat} (h : b ≤ n) : b ≤ (zlh f n b).2 ∧ (zlh f n b).2 ≤ n := by
  unfold zlh
  split
  · split
    · rename_i q1 q2; exact ⟨(show b ≤ b + 1 + 1 by omega), (show b + 1 + 1 ≤ n by omega)⟩
    · rename_i q1 q2; exact ⟨(show b ≤ b + 1 by omega), (show b + 1 ≤ n by omega)⟩
  · exact ⟨Nat.le_refl _, h⟩
theorem zfg_t {f : Nat → Int32} {n b : Nat} (h : (zfg f n b).1 = true) : (b < n ∧ f b = 32) ∧ (b + 1 < n ∧ 48 ≤ f (b + 1) ∧ f (b + 1) ≤ 57) ∧ (zfg f n b).2 = b + 2 := by
  unfold zfg at h ⊢
  by_cases q : b < n ∧ f b = 32
  · rw [if_pos q] at h ⊢
    by_cases q2 : b + 1 < n ∧ 48 ≤ f (b + 1) ∧ f (b + 1) ≤ 57
    · rw [if_pos q2]; exact ⟨q, q2, rfl⟩
    · rw [if_neg q2] at h; cases h
  · rw [if_neg q] at h; cases h
theorem zlh_t {f : Nat → Int32} {n b : Nat} (h : (zlh f n b).1 = true) : (b < n ∧ f b = 32) ∧ (b + 1 < n ∧ ¬ zlet (f (b + 1)) = 0) ∧ (zlh f n b).2 = b + 2 := by
  unfold zlh at h ⊢
  by_cases q : b < n ∧ f b = 32
  · rw [if_pos q] at h ⊢
    by_cases q2 : b + 1 < n ∧ ¬ zlet (f (b + 1)) = 0
    · rw [if_pos q2]; exact ⟨q, q2, rfl⟩
    · rw [if_neg q2] at h; cases h
  · rw [if_neg q] at h; cases h
/-- the word w is one of a head, a text u and a space -/
def zWo (w u : Nat) (pre : List Int32) : Prop := 1 ≤ w ∧ w < 7 ∧ zLw w = pre ++ (zLw u ++ [32])
section ZW
variable {f : Nat → Int32} {n a w u p : Nat} {pre : List Int32}
theorem zWo.tx (h : zWo w u pre) : zTXn w = pre.length + (zTXn u + 1) := by
  have := congrArg List.length h.2.2
  rw [List.length_append, List.length_append] at this
  exact this
theorem zWo.cm (h : zWo w u pre) (hp : zcm f n a pre = pre.length) : zcm f n a (zLw w) = pre.length + (if zcm f n (a + pre.length) (zLw u) = zTXn u then zTXn u + (if a + pre.length + zTXn u < n ∧ f (a + pre.length + zTXn u) = 32 then 1 else 0) else zcm f n (a + pre.length) (zLw u)) := by
  rw [h.2.2, zcm_app, if_pos hp, zcm_app]
  rfl
theorem zWo.miss (h : zWo w u pre) (hp : zcm f n a pre = pre.length) (oth : ∀ i, i < 7 → i ≠ w → zcm f n a (zLw i) ≤ pre.length ∧ ¬ zcm f n a (zLw i) = zTXn i) (hm : ¬ zcm f n (a + pre.length) (zLw u) = zTXn u) : zrc f n a = (false, a + pre.length + zcm f n (a + pre.length) (zLw u), 0, 0, 0) := by
  have e := h.cm hp
  rw [if_neg hm] at e
  have le := zcm_le f n (zLw u) (a + pre.length)
  rw [zLw_len] at le
  have tx := h.tx
  rw [Nat.add_assoc]
  refine zrcF_miss (B := pre.length + zcm f n (a + pre.length) (zLw u)) (fun i hi => ?_) 7 0 0 rfl (by omega) (Or.inr ⟨w, by omega, h.2.1, e⟩)
  by_cases ei : i = w
  · subst ei; rw [e]; exact ⟨Nat.le_refl _, by omega⟩
  · have := oth i hi ei; exact ⟨by omega, this.2⟩
theorem zWo.hit (h : zWo w u pre) (hp : zcm f n a pre = pre.length) (oth : ∀ i, i < 7 → i ≠ w → zcm f n a (zLw i) ≤ pre.length ∧ ¬ zcm f n a (zLw i) = zTXn i) (hm : zcm f n (a + pre.length) (zLw u) = zTXn u) (hs : a + pre.length + zTXn u < n ∧ f (a + pre.length + zTXn u) = 32) : zrc f n a = ((zpar f n w (a + pre.length + zTXn u + 1)).1, (zpar f n w (a + pre.length + zTXn u + 1)).2.1, w, (zpar f n w (a + pre.length + zTXn u + 1)).2.2) := by
  have e := h.cm hp
  rw [if_pos hm, if_pos hs] at e
  have tx := h.tx
  have := zrcF_hit (f := f) (n := n) (a := a) h.2.1 (by omega) (fun i hi ei => (oth i hi ei).2) 7 0 0 rfl (by omega)
  rw [show a + zTXn w = a + pre.length + zTXn u + 1 from by omega] at this
  exact this
theorem zWo.nosp (h : zWo w u pre) (hp : zcm f n a pre = pre.length) (oth : ∀ i, i < 7 → i ≠ w → zcm f n a (zLw i) ≤ pre.length ∧ ¬ zcm f n a (zLw i) = zTXn i) (hm : zcm f n (a + pre.length) (zLw u) = zTXn u) (hs : ¬ (a + pre.length + zTXn u < n ∧ f (a + pre.length + zTXn u) = 32)) : zrc f n a = (false, a + pre.length + zTXn u, 0, 0, 0) := by
  have e := h.cm hp
  rw [if_pos hm, if_neg hs] at e
  have tx := h.tx
  rw [Nat.add_assoc]
  refine zrcF_miss (B := pre.length + zTXn u) (fun i hi => ?_) 7 0 0 rfl (by omega) (Or.inr ⟨w, by omega, h.2.1, e⟩)
  by_cases ei : i = w
  · subst ei; rw [e]; exact ⟨Nat.le_refl _, by omega⟩
  · have := oth i hi ei; exact ⟨by omega, this.2⟩
/-- no figure -/
theorem zWo.nofig (h : zWo w u pre) (hp : zcm f n a pre = pre.length) (oth : ∀ i, i < 7 → i ≠ w → zcm f n a (zLw i) ≤ pre.length ∧ ¬ zcm f n a (zLw i) = zTXn i) (hm : zcm f n (a + pre.length) (zLw u) = zTXn u) (hg : ¬ (zfg f n (a + pre.length + zTXn u)).1 = true) : (zrc f n a).1 = false ∧ (zrc f n a).2.1 = (zfg f n (a + pre.length + zTXn u)).2 := by
  by_cases hs : a + pre.length + zTXn u < n ∧ f (a + pre.length + zTXn u) = 32
  · rw [h.hit hp oth hm hs]
    generalize a + pre.length + zTXn u = b at hs hg
    unfold zfg at hg ⊢
    rw [if_pos hs] at hg ⊢
    by_cases q : b + 1 < n ∧ 48 ≤ f (b + 1) ∧ f (b + 1) ≤ 57
    · rw [if_pos q] at hg; exact absurd rfl hg
    · rw [if_neg q]; unfold zpar; rw [if_neg (by have := h.1; omega), if_neg q]; exact ⟨rfl, rfl⟩
  · rw [h.nosp hp oth hm hs]
    unfold zfg; rw [if_neg hs]; exact ⟨rfl, rfl⟩
/-- a figure, and no letter is asked for -/
theorem zWo.fig (h : zWo w u pre) (hp : zcm f n a pre = pre.length) (oth : ∀ i, i < 7 → i ≠ w → zcm f n a (zLw i) ≤ pre.length ∧ ¬ zcm f n a (zLw i) = zTXn i) (hm : zcm f n (a + pre.length) (zLw u) = zTXn u) (hg : (zfg f n (a + pre.length + zTXn u)).1 = true) (h1 : ¬ w = 1) : zrc f n a = (true, (zfg f n (a + pre.length + zTXn u)).2, w, (f (a + pre.length + zTXn u + 1) - 48).toNatClampNeg, 0) := by
  obtain ⟨g1, g2, g3⟩ := zfg_t hg
  rw [h.hit hp oth hm g1, g3]
  unfold zpar; rw [if_neg (by have := h.1; omega), if_pos g2, if_neg h1]
/-- a figure, and no letter -/
theorem zWo.nolet (h : zWo w u pre) (hp : zcm f n a pre = pre.length) (oth : ∀ i, i < 7 → i ≠ w → zcm f n a (zLw i) ≤ pre.length ∧ ¬ zcm f n a (zLw i) = zTXn i) (hm : zcm f n (a + pre.length) (zLw u) = zTXn u) (hg : (zfg f n (a + pre.length + zTXn u)).1 = true) (h1 : w = 1) (hl : ¬ (zlh f n (zfg f n (a + pre.length + zTXn u)).2).1 = true) : (zrc f n a).1 = false ∧ (zrc f n a).2.1 = (zlh f n (zfg f n (a + pre.length + zTXn u)).2).2 := by
  obtain ⟨g1, g2, g3⟩ := zfg_t hg
  rw [h.hit hp oth hm g1]
  rw [g3] at hl ⊢
  generalize a + pre.length + zTXn u = b at *
  unfold zpar; rw [if_neg (by have := h.1; omega), if_pos g2, if_pos h1]
  unfold zlh at hl ⊢
  by_cases q : b + 1 + 1 < n ∧ f (b + 1 + 1) = 32
  · rw [if_pos q]
    rw [if_pos (show b + 2 < n ∧ f (b + 2) = 32 from q)] at hl ⊢
    by_cases q2 : b + 1 + 2 < n ∧ ¬ zlet (f (b + 1 + 2)) = 0
    · rw [if_pos (show b + 2 + 1 < n ∧ ¬ zlet (f (b + 2 + 1)) = 0 from q2)] at hl; exact absurd rfl hl
    · rw [if_neg q2, if_neg (show ¬ (b + 2 + 1 < n ∧ ¬ zlet (f (b + 2 + 1)) = 0) from q2)]; exact ⟨rfl, rfl⟩
  · rw [if_neg q, if_neg (show ¬ (b + 2 < n ∧ f (b + 2) = 32) from q)]; exact ⟨rfl, rfl⟩
theorem zWo.let (h : zWo w u pre) (hp : zcm f n a pre = pre.length) (oth : ∀ i, i < 7 → i ≠ w → zcm f n a (zLw i) ≤ pre.length ∧ ¬ zcm f n a (zLw i) = zTXn i) (hm : zcm f n (a + pre.length) (zLw u) = zTXn u) (hg : (zfg f n (a + pre.length + zTXn u)).1 = true) (h1 : w = 1) (hl : (zlh f n (zfg f n (a + pre.length + zTXn u)).2).1 = true) : zrc f n a = (true, (zlh f n (zfg f n (a + pre.length + zTXn u)).2).2, w, (f (a + pre.length + zTXn u + 1) - 48).toNatClampNeg, zlet (f ((zfg f n (a + pre.length + zTXn u)).2 + 1))) := by
  obtain ⟨g1, g2, g3⟩ := zfg_t hg
  obtain ⟨l1, l2, l3⟩ := zlh_t hl
  rw [h.hit hp oth hm g1, l3]
  rw [g3] at l1 l2 ⊢
  generalize a + pre.length + zTXn u = b at *
  unfold zpar; rw [if_neg (by have := h.1; omega), if_pos g2, if_pos h1, if_pos (show b + 1 + 1 < n ∧ f (b + 1 + 1) = 32 from l1), if_pos (show b + 1 + 2 < n ∧ ¬ zlet (f (b + 1 + 2)) = 0 from l2)]
theorem zoth1 {c : Int32} (h : f a = c) (hd : ∀ i, i < 7 → i ≠ w → ¬ (zLw i).head? = some c) : ∀ i, i < 7 → i ≠ w → zcm f n a (zLw i) ≤ [c].length ∧ ¬ zcm f n a (zLw i) = zTXn i := by
  intro i hi ei
  rw [zcm_hd h (hd i hi ei)]
  have := zLw_small i hi
  exact ⟨Nat.zero_le _, by omega⟩
theorem zothc (h : a < n ∧ f a = 99) (hL : 1 ≤ pre.length) (hc : ∀ i, 1 ≤ i → i < 4 → i ≠ w → zcm f n (a + 1) ((zLw i).drop 1) = 0) : ∀ i, i < 7 → i ≠ w → zcm f n a (zLw i) ≤ pre.length ∧ ¬ zcm f n a (zLw i) = zTXn i := by
  intro i hi ei
  have sm := zLw_small i hi
  by_cases q : 1 ≤ i ∧ i < 4
  · have e : zLw i = 99 :: (zLw i).drop 1 := by
      have : i = 1 ∨ i = 2 ∨ i = 3 := by omega
      rcases this with e | e | e <;> (subst e; rfl)
    rw [e, zcm_ye h, hc i q.1 q.2 ei]
    exact ⟨hL, by omega⟩
  · rw [zcm_hd h.2 (by
      have : i = 0 ∨ i = 4 ∨ i = 5 ∨ i = 6 := by omega
      rcases this with e | e | e | e <;> (subst e; decide +kernel))]
    exact ⟨Nat.zero_le _, by omega⟩
theorem zrc_o (h : a < n ∧ f a = 111) (hm : zcm f n (a + 1) (zLw 7) = zTXn 7) : zrc f n a = (true, a + 1 + zcm f n (a + 1) (zLw 7), 0, 0, 0) := by
  have e : zcm f n a (zLw 0) = zTXn 0 := by
    show zcm f n a (111 :: zLw 7) = 4
    rw [zcm_ye h, hm]; rfl
  have := zrcF_hit (f := f) (n := n) (a := a) (w := 0) (by omega) e (fun i hi ei => (zoth1 (w := 0) h.2 (by decide +kernel) i hi ei).2) 7 0 0 rfl (by omega)
  rw [hm]
  exact this
theorem zrc_on (h : a < n ∧ f a = 111) (hm : ¬ zcm f n (a + 1) (zLw 7) = zTXn 7) : zrc f n a = (false, a + 1 + zcm f n (a + 1) (zLw 7), 0, 0, 0) := by
  have e : zcm f n a (zLw 0) = zcm f n (a + 1) (zLw 7) + 1 := by
    show zcm f n a (111 :: zLw 7) = _
    rw [zcm_ye h]
  rw [show a + 1 + zcm f n (a + 1) (zLw 7) = a + (zcm f n (a + 1) (zLw 7) + 1) from by omega]
  refine zrcF_miss (B := zcm f n (a + 1) (zLw 7) + 1) (fun i hi => ?_) 7 0 0 rfl (by omega) (Or.inr ⟨0, by omega, by omega, e⟩)
  by_cases ei : i = 0
  · subst ei; rw [e]; exact ⟨Nat.le_refl _, fun q => hm (by have : zTXn 0 = zTXn 7 + 1 := rfl; omega)⟩
  · have := zoth1 (n := n) (w := 0) h.2 (by decide +kernel) i hi ei; exact ⟨Nat.le_trans this.1 (by show 1 ≤ _; omega), this.2⟩
theorem zrc_no (h0 : ¬ (a < n ∧ f a = 111)) (h4 : ¬ (a < n ∧ f a = 114)) (h5 : ¬ (a < n ∧ f a = 100)) (h6 : ¬ (a < n ∧ f a = 97)) (h1 : ¬ (a < n ∧ f a = 99)) : zrc f n a = (false, a, 0, 0, 0) := by
  refine zrcF_miss (B := 0) (fun i hi => ?_) 7 0 0 rfl (by omega) (Or.inl rfl)
  have sm := zLw_small i hi
  have e : zcm f n a (zLw i) = 0 := by
    have : i = 0 ∨ i = 1 ∨ i = 2 ∨ i = 3 ∨ i = 4 ∨ i = 5 ∨ i = 6 := by omega
    rcases this with e | e | e | e | e | e | e <;> subst e
    · exact zcm_no h0
    · exact zcm_no h1
    · exact zcm_no h1
    · exact zcm_no h1
    · exact zcm_no h4
    · exact zcm_no h5
    · exact zcm_no h6
  rw [e]; exact ⟨Nat.le_refl _, by omega⟩
end ZW
theorem zwo4 : zWo 4 8 [114] := ⟨by decide, by decide, rfl⟩
theorem zwo5 : zWo 5 9 [100] := ⟨by decide, by decide, rfl⟩
theorem zwo6 : zWo 6 10 [97] := ⟨by decide, by decide, rfl⟩
theorem zwo1 : zWo 1 11 [99, 114] := ⟨by decide, by decide, rfl⟩
theorem zwo2 : zWo 2 12 [99, 117] := ⟨by decide, by decide, rfl⟩
theorem zwo3 : zWo 3 13 [99] := ⟨by decide, by decide, rfl⟩
