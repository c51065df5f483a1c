/-! the two ways of comparing agree; a court is consistent -/
theorem sX_ge (x y u v : Int) : x ≤ sX x y u v ∧ x + y ≤ sX x y u v := by unfold sX; constructor <;> omega
theorem zsl_low {y : Int32} {j : Nat} (hj : j < zJx y) (w : Nat → Int) {q : Nat} (hq : q < 2 * j) : zsl y w q = w q := by
  rw [zsl_e (l := y) rfl rfl]
  exact zst_out _ _ _ (Or.inl (by have : zJx y = (zix y).toNatClampNeg := rfl; omega))
theorem zsl_lo2 {y : Int32} {j : Nat} (hj : j ≤ zJx y) (w : Nat → Int) {q : Nat} (hq : q < 2 * (j - 1)) : zsl y w q = w q := by
  rw [zsl_e (l := y) rfl rfl]
  exact zst_out _ _ _ (Or.inl (by have : zJx y = (zix y).toNatClampNeg := rfl; omega))
theorem zsl_at {y : Int32} {j : Nat} (hj : zJx y = j) (w : Nat → Int) : zsn y * w (2 * (j - 1)) ≤ zsn y * zsl y w (2 * (j - 1)) ∧ zsn y * w (2 * (j - 1)) + w (2 * (j - 1) + 1) ≤ zsn y * zsl y w (2 * (j - 1)) := by
  rw [zsl_e (l := y) (s := zsn y) (j := j) rfl hj, (zst_at (zsn y) j w).1]
  have h := sX_ge (zsn y * w (2 * (j - 1))) (w (2 * (j - 1) + 1)) (zsn y * w (2 * (j - 1) + 2)) (w (2 * (j - 1) + 3))
  rcases zsn_1 y with e | e <;> rw [e] at h ⊢
  · simp only [Int.one_mul] at h ⊢; exact h
  · rw [show ∀ t : Int, -1 * (-1 * t) = t from fun t => by omega]; exact h
theorem zlowA {j : Nat} : ∀ (L : List Int32) (w : Nat → Int), (∀ y ∈ L, j ≤ zJx y) → ∀ q, q < 2 * (j - 1) → zcv w L q = w q
  | [], _, _, _, _ => rfl
  | y :: L, w, h, q, hq => by
    show zcv (zsl y w) L q = w q
    rw [zlowA L _ (fun z hz => h z (List.mem_cons_of_mem _ hz)) q hq, zsl_lo2 (h y List.mem_cons_self) w hq]
theorem zlowB {j : Nat} {s : Int} (hj1 : 1 ≤ j) : ∀ (L : List Int32) (w : Nat → Int), (∀ y ∈ L, j ≤ zJx y ∧ (zJx y = j → zsn y = s)) → 0 < s * w (2 * (j - 1)) → 0 < s * zcv w L (2 * (j - 1))
  | [], _, _, h => h
  | y :: L, w, h, h0 => by
    obtain ⟨h1, h2⟩ := h y List.mem_cons_self
    refine zlowB hj1 L (zsl y w) (fun z hz => h z (List.mem_cons_of_mem _ hz)) ?_
    by_cases e : zJx y = j
    · have := (zsl_at e w).1
      rw [h2 e] at this
      omega
    · rw [zsl_low (j := j) (by omega) w (by omega)]; exact h0
theorem zlowC {j : Nat} {s : Int} (hj1 : 1 ≤ j) : ∀ (L : List Int32) (w : Nat → Int), (∀ y ∈ L, j ≤ zJx y ∧ (zJx y = j → zsn y = s)) → w (2 * (j - 1)) = 0 → w (2 * (j - 1) + 1) = 1 → (∃ y, y ∈ L ∧ zJx y = j) → 0 < s * zcv w L (2 * (j - 1))
  | [], _, _, _, _, ⟨_, hy, _⟩ => by cases hy
  | y :: L, w, h, h0, h1, ⟨z, hz, ez⟩ => by
    obtain ⟨a1, a2⟩ := h y List.mem_cons_self
    have hL := fun z hz => h z (List.mem_cons_of_mem y hz)
    by_cases e : zJx y = j
    · refine zlowB hj1 L (zsl y w) hL ?_
      have := (zsl_at e w).2
      rw [a2 e, h0, h1, Int.mul_zero] at this
      omega
    · refine zlowC hj1 L (zsl y w) hL ?_ ?_ ?_
      · rw [zsl_low (j := j) (by omega) w (by omega)]; exact h0
      · rw [zsl_low (j := j) (by omega) w (by omega)]; exact h1
      · rcases List.mem_cons.mp hz with q | q
        · subst q; exact absurd ez e
        · exact ⟨z, q, ez⟩
theorem zsI_s {a s : Int} (hs : s = 1 ∨ s = -1) (h : 0 < s * a) : zsI a = (if s = 1 then 1 else -1) ∧ ¬ a = 0 := by
  rcases hs with rfl | rfl
  · have : 0 < a := by omega
    unfold zsI; rw [if_neg (by omega), if_pos this, if_pos rfl]; exact ⟨rfl, by omega⟩
  · have : a < 0 := by omega
    unfold zsI; rw [if_neg (by omega), if_neg (by omega), if_neg (by decide)]; exact ⟨rfl, by omega⟩
theorem zsf_z0 : zsf z0 = 0 := by decide +kernel
theorem zsW_eq {W : List Int32} (hf : zHf W) (hW : zAll W) (hl : W.length < 2 ^ 31) : zsW W = zsf (zcv z0 W) := by
  by_cases h0 : W.length = 0
  · obtain rfl : W = [] := List.eq_nil_of_length_eq_zero h0
    show zsg (0 : Int32).toInt64 = zsf z0
    rw [zsf_z0]; decide +kernel
  · have hk : ∀ k, k < W.length → zLt (wv W k) := fun k hk => hW _ (wv_mem hk)
    obtain ⟨p, hp, e, hm⟩ := zlm_at hk (by omega)
    have lv := hk p hp
    obtain ⟨j1, j4, -⟩ := zJx_b lv
    have one := hf.one hW hl ⟨j1, j4⟩ hm W.length (Nat.le_refl _)
    generalize ej : zJx (wv W p) = j at *
    have hc : ∀ y ∈ W, j ≤ zJx y ∧ (zJx y = j → zsn y = zsn (wv W p)) := fun y hy => by
      obtain ⟨k, hk2, rfl⟩ := wv_ex hy
      exact ⟨hm k hk2, fun q => by rw [one k p hk2 hp q ej]⟩
    have A := zlowA (j := j) W z0 (fun y hy => (hc y hy).1)
    have z0e : ∀ m : Nat, z0 (2 * m) = 0 ∧ z0 (2 * m + 1) = 1 := fun m => by unfold z0; omega
    have C := zlowC j1 W z0 hc (z0e (j - 1)).1 (z0e (j - 1)).2 ⟨_, wv_mem hp, ej⟩
    obtain ⟨D, ne⟩ := zsI_s (zsn_1 (wv W p)) C
    have F : zsW W = if zsn (wv W p) = 1 then 1 else -1 := by
      show zsg (zlm (wv W) W.length).toInt64 = _
      rw [e]
      rcases zLt_sg lv with ⟨q1, q2⟩ | ⟨q1, q2⟩
      · rw [q2]; unfold zsn; rw [if_pos q1]; rfl
      · rw [q2]; unfold zsn; rw [if_neg q1]; rfl
    rw [F, ← D]
    unfold zsf
    have B : ∀ m, m < j - 1 → zcv z0 W (2 * m) = 0 := fun m hm => by rw [A _ (by omega)]; exact (z0e m).1
    have ejc : j = 1 ∨ j = 2 ∨ j = 3 ∨ j = 4 := by omega
    rcases ejc with rfl | rfl | rfl | rfl
    · rw [if_neg ne]
    · rw [if_pos (B 0 (by omega)), if_neg ne]
    · rw [if_pos (B 0 (by omega)), if_pos (B 1 (by omega)), if_neg ne]
    · rw [if_pos (B 0 (by omega)), if_pos (B 1 (by omega)), if_pos (B 2 (by omega)), if_neg ne]
theorem zqw_self {f : Nat → Int32} : ∀ {n : Nat}, (∀ k, k < n → zLt (f k)) → ∀ w, zcv w (zQw f n f n) = w
  | 0, _, w => rfl
  | n + 1, h, w => by
    have ih := zqw_self (n := n) (fun k hk => h k (by omega)) (zsl (-(f n)) w)
    unfold zQw at ih ⊢
    show zcv (zsl (-(f n)) w) (zA_ (fun j => -(f j)) n ++ (zP f n ++ [f n])) = w
    rw [← List.append_assoc, zcv_app, ih]
    exact zsl_inv2 (h n (by omega)) w
theorem zqs_self {A : zDk} (hA : zDw A) (k : Nat) (hk : k < kC A) : zqs A k k = 0 := by
  have hC := hA.1
  unfold zqs zWq
  rw [zqw_self (hA.2.2 k (by omega)).2.1, zsf_z0]
theorem zRn_lnq (r : Nat) (ihr : ∀ r', r = r' + 1 → ∀ (Q P : List Int32) (q : Nat) (W : List Int32), P.length + Q.length ≤ 400 → zRn r' P Q = some (q, W) → W.length ≤ 400) : ∀ (Q P : List Int32) (q : Nat) (W : List Int32), P.length + Q.length ≤ 400 → zRn r P Q = some (q, W) → W.length ≤ 400 := by
  intro Q
  induction Q with
  | nil => intro P q W l h; rw [zRn_nil] at h; injection h with h; injection h with h1 h2; rw [← h2]; rw [List.length_nil] at l; omega
  | cons x Q ih =>
    intro P q W l h
    rw [List.length_cons] at l
    by_cases e : zha P x = -1
    · rw [zRn_take e] at h
      exact ih (P ++ [x]) q W (by rw [List.length_append, List.length_singleton]; omega) h
    · cases r with
      | zero => rw [zRn_0 e] at h; cases h
      | succ r =>
        obtain ⟨a, ha, e2⟩ := zha_at e
        rw [zRn_s e2 ha (by omega)] at h
        by_cases e3 : 400 < a + ((zinn P a).length + Q.length)
        · rw [if_pos e3] at h; cases h
        · rw [if_neg e3] at h
          refine ihr r rfl (zinn P a ++ Q) (P.take a) q W ?_ h
          rw [List.length_take, List.length_append]
          have := Nat.min_le_left a P.length
          omega
theorem zRn_ln : ∀ (r : Nat) (Q P : List Int32) (q : Nat) (W : List Int32), P.length + Q.length ≤ 400 → zRn r P Q = some (q, W) → W.length ≤ 400
  | 0 => zRn_lnq 0 (fun r' h => by omega)
  | r + 1 => zRn_lnq (r + 1) (fun r' h => by obtain rfl : r' = r := by omega
                                             exact zRn_ln r')
theorem zAg_s {A : zDk} (hA : zDw A) {i j : Nat} (hi : i < 8) (hj : j < 8) {q : Nat × List Int32} (hO : zRn 2000 [] (zWq A i j) = some q) : zsW q.2 = zqs A i j := by
  obtain ⟨q, W⟩ := q
  have wl := zWq_len hA (i := i) (j := j) hi hj
  have al := hA.wq (i := i) (j := j) hi hj
  have lw := zRn_lt 2000 (zWq A i j) [] q W (fun z hz => by cases hz) al (by rw [List.length_nil]; omega) hO
  obtain ⟨hf, he⟩ := zRn_k 2000 (zWq A i j) [] q W (fun z hz => by cases hz) al zHf.nil (by rw [List.length_nil]; omega) hO
  have hl := zRn_ln 2000 (zWq A i j) [] q W (by rw [List.length_nil]; omega) hO
  have := zsW_eq hf lw (by omega)
  rw [he z0, List.nil_append] at this
  exact this
theorem zAg_1 {A : zDk} (gA : zGd A) {i j : Nat} (hi : i < kC A) (hj : j < kC A) : zAg A i j = 1 := by
  have hA := gA.1
  have hC := hA.1
  have hP := hA.2.1
  have tl : (if kR A i = -1 then (1 : Int32) else if kR A j = -1 then 1 else if zSmb (zcw A i) (zcw A j) = true then (if kR A i = kR A j then 1 else 0) else 1) = 1 := by
    by_cases r1 : kR A i = -1
    · rw [if_pos r1]
    rw [if_neg r1]
    by_cases r2 : kR A j = -1
    · rw [if_pos r2]
    rw [if_neg r2]
    by_cases c : zSmb (zcw A i) (zcw A j) = true
    · rw [if_pos c]
      have c2 := zSmb_iff.mp c
      obtain ⟨-, g1, g2, g3⟩ := gA
      obtain ⟨p, hp, ep, sp⟩ := (g1 i hi).resolve_left r1
      obtain ⟨q, hq, eq, sq⟩ := (g1 j hj).resolve_left r2
      have : p = q := by
        rcases Nat.lt_trichotomy p q with l | l | l
        · exact absurd ((sq.sym.tr c2.sym).tr sp) (g3 q p hq l)
        · exact l
        · exact absurd ((sp.sym.tr c2).tr sq) (g3 p q hp l)
      rw [if_pos (by rw [ep, eq, this])]
    · rw [if_neg c]
  unfold zAg
  rw [tl]
  rcases hO : zRn 2000 [] (zWq A i j) with _ | q
  · exact if_neg (fun z => Bool.noConfusion z)
  · have h := zAg_s hA (by omega) (by omega) hO
    refine if_neg (fun z => ?_)
    exact absurd h (of_decide_eq_true z)
