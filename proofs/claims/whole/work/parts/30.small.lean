/-! coordinates stay small -/
def zXY (a c : Int) (w : Nat → Int) : Prop := ∀ k, k < 5 → (-a ≤ w (2 * k) ∧ w (2 * k) ≤ a) ∧ (-c ≤ w (2 * k + 1) ∧ w (2 * k + 1) ≤ c)
def zgr : Nat → Int × Int
  | 0 => (0, 1)
  | n + 1 => ((zgr n).1 + (zgr n).2, 2 * (zgr n).1 + 3 * (zgr n).2)
theorem sX_b {a c x y u v : Int} (hx : -a ≤ x ∧ x ≤ a) (hy : -c ≤ y ∧ y ≤ c) (hu : -a ≤ u ∧ u ≤ a) (hv : -c ≤ v ∧ v ≤ c) : -(a + c) ≤ sX x y u v ∧ sX x y u v ≤ a + c := by
  unfold sX sz; omega
theorem sY_b {a c x y u v : Int} (hx : -a ≤ x ∧ x ≤ a) (hy : -c ≤ y ∧ y ≤ c) (hu : -a ≤ u ∧ u ≤ a) (hv : -c ≤ v ∧ v ≤ c) : -(2 * a + 3 * c) ≤ sY x y u v ∧ sY x y u v ≤ 2 * a + 3 * c := by
  unfold sY sz; omega
theorem sU_b {a c x y u v : Int} (hx : -a ≤ x ∧ x ≤ a) (hy : -c ≤ y ∧ y ≤ c) (hu : -a ≤ u ∧ u ≤ a) (hv : -c ≤ v ∧ v ≤ c) : -(a + c) ≤ sU x y u v ∧ sU x y u v ≤ a + c := by
  unfold sU sz; omega
theorem sV_b {a c x y u v : Int} (hx : -a ≤ x ∧ x ≤ a) (hy : -c ≤ y ∧ y ≤ c) (hu : -a ≤ u ∧ u ≤ a) (hv : -c ≤ v ∧ v ≤ c) : -(2 * a + 3 * c) ≤ sV x y u v ∧ sV x y u v ≤ 2 * a + 3 * c := by
  unfold sV sz; omega
theorem zst_xy {a c : Int} {w : Nat → Int} (h : zXY a c w) {s : Int} (hs : s = 1 ∨ s = -1) {j : Nat} (hj : 1 ≤ j ∧ j ≤ 4) : zXY (a + c) (2 * a + 3 * c) (zst s j w) := by
  obtain ⟨i, rfl⟩ : ∃ i, j = i + 1 := ⟨j - 1, by omega⟩
  have e1 := h i (by omega)
  have e2 := h (i + 1) (by omega)
  have s1 : -a ≤ s * w (2 * i) ∧ s * w (2 * i) ≤ a := by rcases hs with rfl | rfl <;> omega
  have s2 : -a ≤ s * w (2 * i + 2) ∧ s * w (2 * i + 2) ≤ a := by
    have : 2 * (i + 1) = 2 * i + 2 := by omega
    rw [this] at e2
    rcases hs with rfl | rfl <;> omega
  have s3 : -c ≤ w (2 * i + 3) ∧ w (2 * i + 3) ≤ c := by
    have : 2 * (i + 1) + 1 = 2 * i + 3 := by omega
    rw [this] at e2
    exact e2.2
  have f1 := sX_b s1 e1.2 s2 s3
  have f2 := sY_b s1 e1.2 s2 s3
  have f3 := sU_b s1 e1.2 s2 s3
  have f4 := sV_b s1 e1.2 s2 s3
  have g1 : -(a + c) ≤ s * sX (s * w (2 * i)) (w (2 * i + 1)) (s * w (2 * i + 2)) (w (2 * i + 3)) ∧ s * sX (s * w (2 * i)) (w (2 * i + 1)) (s * w (2 * i + 2)) (w (2 * i + 3)) ≤ a + c := by
    rcases hs with rfl | rfl <;> omega
  have g3 : -(a + c) ≤ s * sU (s * w (2 * i)) (w (2 * i + 1)) (s * w (2 * i + 2)) (w (2 * i + 3)) ∧ s * sU (s * w (2 * i)) (w (2 * i + 1)) (s * w (2 * i + 2)) (w (2 * i + 3)) ≤ a + c := by
    rcases hs with rfl | rfl <;> omega
  intro k hk
  have ek := h k hk
  simp only [zst, zuI, Nat.add_sub_cancel]
  by_cases k1 : k = i
  · subst k1
    rw [if_neg (by omega), if_neg (by omega), if_neg (by omega), if_pos rfl, if_neg (by omega), if_neg (by omega), if_pos rfl]
    exact ⟨g1, f2⟩
  · by_cases k2 : k = i + 1
    · subst k2
      rw [if_neg (by omega), if_pos (by omega), if_pos (by omega)]
      exact ⟨g3, f4⟩
    · rw [if_neg (by omega), if_neg (by omega), if_neg (by omega), if_neg (by omega), if_neg (by omega), if_neg (by omega), if_neg (by omega), if_neg (by omega)]
      omega
theorem zsl_xy {a c : Int} {w : Nat → Int} (h : zXY a c w) {l : Int32} (hl : zLt l) : zXY (a + c) (2 * a + 3 * c) (zsl l w) := by
  obtain ⟨j, h1, h2, -, h3⟩ := zLt_ix hl
  unfold zsl
  exact zst_xy h (by split; exact Or.inr rfl; exact Or.inl rfl) (by rw [h3]; exact ⟨h1, h2⟩)
theorem zcv_xy : ∀ {L : List Int32} {n : Nat} {w : Nat → Int}, zXY (zgr n).1 (zgr n).2 w → (∀ y ∈ L, zLt y) → zXY (zgr (n + L.length)).1 (zgr (n + L.length)).2 (zcv w L)
  | [], n, w, h, _ => h
  | l :: L, n, w, h, hl => by
    have := zcv_xy (L := L) (n := n + 1) (w := zsl l w) (zsl_xy h (hl l List.mem_cons_self)) (fun y hy => hl y (List.mem_cons_of_mem _ hy))
    rw [List.length_cons, show n + (L.length + 1) = n + 1 + L.length from by omega]
    exact this
theorem z0_xy : zXY (zgr 0).1 (zgr 0).2 z0 := by
  intro k hk
  have e1 : z0 (2 * k) = 0 := by simp only [z0]; omega
  have e2 : z0 (2 * k + 1) = 1 := by simp only [z0]; omega
  rw [e1, e2]
  decide
theorem zgr_up (n : Nat) : 0 ≤ (zgr n).1 ∧ 0 ≤ (zgr n).2 := by
  induction n with
  | zero => decide
  | succ n ih => simp only [zgr]; omega
theorem zgr_mono (n k : Nat) : (zgr n).1 ≤ (zgr (n + k)).1 ∧ (zgr n).2 ≤ (zgr (n + k)).2 := by
  induction k with
  | zero => exact ⟨Int.le_refl _, Int.le_refl _⟩
  | succ k ih =>
    have := zgr_up (n + k)
    rw [← Nat.add_assoc]
    simp only [zgr]; omega
theorem zXY.bd {a c B : Int} {w : Nat → Int} (h : zXY a c w) (ha : a ≤ B) (hc : c ≤ B) : zBd B w := by
  intro k hk
  have := h (k / 2) (by omega)
  by_cases e : k % 2 = 0
  · rw [show 2 * (k / 2) = k from by omega] at this; omega
  · rw [show 2 * (k / 2) + 1 = k from by omega] at this; omega
theorem zcv_bd {L : List Int32} (hl : ∀ y ∈ L, zLt y) {N : Nat} (hn : L.length ≤ N) {B : Int} (h1 : (zgr N).1 ≤ B) (h2 : (zgr N).2 ≤ B) : zBd B (zcv z0 L) := by
  have h := zcv_xy z0_xy hl
  rw [Nat.zero_add] at h
  have m := zgr_mono L.length (N - L.length)
  rw [show L.length + (N - L.length) = N from by omega] at m
  exact h.bd (by omega) (by omega)
theorem zBw_of {L : List Int32} (hl : ∀ y ∈ L, zLt y) (hn : L.length ≤ 32) : zBw L := by
  intro M N e
  subst e
  rw [List.length_append] at hn
  cases N with
  | nil => exact Or.inr rfl
  | cons x N =>
    rw [List.length_cons] at hn
    exact Or.inl (zcv_bd (N := 31) (fun y hy => hl y (List.mem_append_left _ hy)) (by omega) (by decide +kernel) (by decide +kernel))
theorem zB62 {L : List Int32} (hl : ∀ y ∈ L, zLt y) (hn : L.length ≤ 32) : zBd 4611686018427387904 (zcv z0 L) := zcv_bd (N := 32) hl hn (by decide +kernel) (by decide +kernel)
theorem zWd_len {A : zDk} (h : zDw A) {i : Nat} (hi : i < 8) : (zWd A i).length ≤ 16 := by
  unfold zWd; rw [zP_len]; exact (h.2.2 i hi).1
theorem zWq_len {A : zDk} (h : zDw A) {i j : Nat} (hi : i < 8) (hj : j < 8) : (zWq A i j).length ≤ 32 := by
  unfold zWq zQw; rw [List.length_append, zP_len, zA_len]
  have := (h.2.2 i hi).1
  have := (h.2.2 j hj).1
  omega
theorem zDw.bw {A : zDk} (h : zDw A) {i : Nat} (hi : i < 8) : zBw (zWd A i) := zBw_of (h.wd hi) (by have := zWd_len h hi; omega)
theorem zDw.bq {A : zDk} (h : zDw A) {i j : Nat} (hi : i < 8) (hj : j < 8) : zBw (zWq A i j) := zBw_of (h.wq hi hj) (zWq_len h hi hj)
theorem zDw.b1 {A : zDk} (h : zDw A) {i : Nat} (hi : i < 8) : zBd 4611686018427387904 (zcv z0 (zWd A i)) := zB62 (h.wd hi) (by have := zWd_len h hi; omega)
theorem zDw.b2 {A : zDk} (h : zDw A) {i j : Nat} (hi : i < 8) (hj : j < 8) : zBd 4611686018427387904 (zcv z0 (zWq A i j)) := zB62 (h.wq hi hj) (zWq_len h hi hj)
