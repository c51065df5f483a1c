/-! words that have the same coordinates -/
theorem zst_br {m : Nat} (w : Nat → Int) (k : Nat) : zst 1 (m + 1) (zst 1 (m + 2) (zst 1 (m + 1) w)) k = zst 1 (m + 2) (zst 1 (m + 1) (zst 1 (m + 2) w)) k := by
  have o1 : ∀ (s : Int) (w : Nat → Int) (q : Nat), 2 * m + 3 < q → zst s (m + 1) w q = w q := fun s w q hq => zst_out _ _ _ (Or.inr (by omega))
  have o0 : ∀ (s : Int) (w : Nat → Int) (q : Nat), q < 2 * m → zst s (m + 1) w q = w q := fun s w q hq => zst_out _ _ _ (Or.inl (by omega))
  have o2 : ∀ (s : Int) (w : Nat → Int) (q : Nat), q < 2 * m + 2 ∨ 2 * m + 5 < q → zst s (m + 2) w q = w q := fun s w q hq => zst_out _ _ _ (by omega)
  have F1 : ∀ w : Nat → Int, zF4 (w (2 * m)) (w (2 * m + 1)) (w (2 * m + 2)) (w (2 * m + 3)) (zst 1 (m + 1) w (2 * m)) (zst 1 (m + 1) w (2 * m + 1)) (zst 1 (m + 1) w (2 * m + 2)) (zst 1 (m + 1) w (2 * m + 3)) := fun w => by
    have h := zst_F 1 (m + 1) w (Or.inl rfl)
    simp only [Int.one_mul] at h
    exact h
  have F2 : ∀ w : Nat → Int, zF4 (w (2 * m + 2)) (w (2 * m + 3)) (w (2 * m + 4)) (w (2 * m + 5)) (zst 1 (m + 2) w (2 * m + 2)) (zst 1 (m + 2) w (2 * m + 3)) (zst 1 (m + 2) w (2 * m + 4)) (zst 1 (m + 2) w (2 * m + 5)) := fun w => by
    have h := zst_F 1 (m + 2) w (Or.inl rfl)
    simp only [Int.one_mul] at h
    exact h
  have h1 := F1 w
  have h2 := F2 (zst 1 (m + 1) w)
  have h3 := F1 (zst 1 (m + 2) (zst 1 (m + 1) w))
  have h4 := F2 w
  have h5 := F1 (zst 1 (m + 2) w)
  have h6 := F2 (zst 1 (m + 1) (zst 1 (m + 2) w))
  rw [o1 1 w (2 * m + 4) (by omega), o1 1 w (2 * m + 5) (by omega)] at h2
  rw [o2 1 (zst 1 (m + 1) w) (2 * m) (by omega), o2 1 (zst 1 (m + 1) w) (2 * m + 1) (by omega)] at h3
  rw [o2 1 w (2 * m) (by omega), o2 1 w (2 * m + 1) (by omega)] at h5
  rw [o1 1 (zst 1 (m + 2) w) (2 * m + 4) (by omega), o1 1 (zst 1 (m + 2) w) (2 * m + 5) (by omega)] at h6
  obtain ⟨e1, e2, e3, e4, e5, e6⟩ := zbraid h1 h2 h3 h4 h5 h6
  by_cases q1 : k < 2 * m
  · rw [o0 _ _ _ q1, o2 _ _ _ (by omega), o0 _ _ _ q1, o2 _ _ _ (by omega), o0 _ _ _ q1, o2 _ _ _ (by omega)]
  by_cases q2 : 2 * m + 5 < k
  · rw [o1 _ _ _ (by omega), o2 _ _ _ (by omega), o1 _ _ _ (by omega), o2 _ _ _ (by omega), o1 _ _ _ (by omega), o2 _ _ _ (by omega)]
  have e : k = 2 * m ∨ k = 2 * m + 1 ∨ k = 2 * m + 2 ∨ k = 2 * m + 3 ∨ k = 2 * m + 4 ∨ k = 2 * m + 5 := by omega
  rcases e with rfl | rfl | rfl | rfl | rfl | rfl
  · rw [e1, o2 1 (zst 1 (m + 1) (zst 1 (m + 2) w)) _ (by omega)]
  · rw [e2, o2 1 (zst 1 (m + 1) (zst 1 (m + 2) w)) _ (by omega)]
  · exact e3
  · exact e4
  · rw [o1 1 (zst 1 (m + 2) (zst 1 (m + 1) w)) _ (by omega)]; exact e5
  · rw [o1 1 (zst 1 (m + 2) (zst 1 (m + 1) w)) _ (by omega)]; exact e6
/-- letters, their opposites -/
theorem zsl_e {l : Int32} {s : Int} {j : Nat} (h : (if l < 0 then (-1 : Int) else 1) = s) (h2 : (zix l).toNatClampNeg = j) (w : Nat → Int) : zsl l w = zst s j w := by unfold zsl; rw [h, h2]
def zsn (l : Int32) : Int := if l < 0 then -1 else 1
theorem zsn_1 (l : Int32) : zsn l = 1 ∨ zsn l = -1 := by unfold zsn; split; exact Or.inr rfl; exact Or.inl rfl
theorem zLt_neg2 {l : Int32} (h : zLt l) : zsn (-l) = -zsn l ∧ (zix (-l)).toNatClampNeg = (zix l).toNatClampNeg := by
  rcases h with rfl | rfl | rfl | rfl | rfl | rfl | rfl | rfl <;> decide +kernel
theorem zsl_inv {l : Int32} (h : zLt l) (w : Nat → Int) : zsl (-l) (zsl l w) = w := by
  obtain ⟨a, b⟩ := zLt_neg2 h
  funext k
  rw [zsl_e (l := -l) a b, zsl_e (l := l) rfl rfl]
  exact zst_inv (zsn_1 l) w k
theorem zsl_inv2 {l : Int32} (h : zLt l) (w : Nat → Int) : zsl l (zsl (-l) w) = w := by
  have e : -(-l) = l := Int32.neg_neg
  have := zsl_inv (zLt_neg h) w
  rwa [e] at this
def zJx (l : Int32) : Nat := (zix l).toNatClampNeg
theorem zJx_b {l : Int32} (h : zLt l) : 1 ≤ zJx l ∧ zJx l ≤ 4 ∧ zix l = nI (zJx l) := by
  obtain ⟨j, h1, h2, h3, h4⟩ := zLt_ix h
  have : zJx l = j := h4
  rw [this]; exact ⟨h1, h2, h3⟩
theorem zsl_far {a b : Int32} (ha : zLt a) (hb : zLt b) (h : zJx a + 2 ≤ zJx b ∨ zJx b + 2 ≤ zJx a) (w : Nat → Int) : zsl b (zsl a w) = zsl a (zsl b w) := by
  funext k
  rw [zsl_e (l := a) rfl rfl, zsl_e (l := b) rfl rfl, zsl_e (l := a) rfl rfl, zsl_e (l := b) rfl rfl]
  rcases h with h | h
  · exact (zst_far w (zJx_b ha).1 h k).symm
  · exact zst_far w (zJx_b hb).1 h k
theorem zsl_br1 (w : Nat → Int) : zsl 1 (zsl 2 (zsl 1 w)) = zsl 2 (zsl 1 (zsl 2 w)) := funext (fun k => zst_br (m := 0) w k)
theorem zsl_br2 (w : Nat → Int) : zsl 2 (zsl 3 (zsl 2 w)) = zsl 3 (zsl 2 (zsl 3 w)) := funext (fun k => zst_br (m := 1) w k)
theorem zsl_br3 (w : Nat → Int) : zsl 3 (zsl 4 (zsl 3 w)) = zsl 4 (zsl 3 (zsl 4 w)) := funext (fun k => zst_br (m := 2) w k)
section ZC
variable {α : Type} {A A' B B' : α → α}
theorem zc_pp (a1 : ∀ w, A' (A w) = w) (b2 : ∀ w, B (B' w) = w) (br : ∀ w, A (B (A w)) = B (A (B w))) (w : α) : A' (B (A w)) = B (A (B' w)) := by
  have h := br (B' w)
  rw [b2] at h
  rw [← h, a1]
theorem zc_pm (a2 : ∀ w, A (A' w) = w) (b1 : ∀ w, B' (B w) = w) (b2 : ∀ w, B (B' w) = w) (a1 : ∀ w, A' (A w) = w) (br : ∀ w, A (B (A w)) = B (A (B w))) (w : α) : A' (B' (A w)) = B (A' (B' w)) := by
  have h := br (A' (B' w))
  rw [a2, b2] at h
  have h2 : B' (A w) = A (B (A' (B' w))) := by rw [h, b1]
  rw [h2, a1]
theorem zc_mp (a2 : ∀ w, A (A' w) = w) (b1 : ∀ w, B' (B w) = w) (br : ∀ w, A (B (A w)) = B (A (B w))) (w : α) : A (B (A' w)) = B' (A (B w)) := by
  have h := br (A' w)
  rw [a2] at h
  rw [h, b1]
theorem zc_mm (a1 : ∀ w, A' (A w) = w) (a2 : ∀ w, A (A' w) = w) (b1 : ∀ w, B' (B w) = w) (b2 : ∀ w, B (B' w) = w) (br : ∀ w, A (B (A w)) = B (A (B w))) (w : α) : A (B' (A' w)) = B' (A' (B w)) := by
  have h := br (B' (A' w))
  rw [b2, a2] at h
  have h2 : B (A (B' (A' w))) = A' (B w) := by rw [← h, a1]
  rw [← h2, b1]
end ZC
theorem zlt_1 : zLt 1 := by unfold zLt; decide +kernel
theorem zlt_2 : zLt 2 := by unfold zLt; decide +kernel
theorem zlt_3 : zLt 3 := by unfold zLt; decide +kernel
theorem zlt_4 : zLt 4 := by unfold zLt; decide +kernel
theorem zc_pp1 (w : Nat → Int) : zsl (-1) (zsl 2 (zsl 1 w)) = zsl 2 (zsl 1 (zsl (-2) w)) := zc_pp (A := zsl 1) (A' := zsl (-1)) (B := zsl 2) (B' := zsl (-2)) (zsl_inv zlt_1) (zsl_inv2 zlt_2) zsl_br1 w
theorem zc_pm1 (w : Nat → Int) : zsl (-1) (zsl (-2) (zsl 1 w)) = zsl 2 (zsl (-1) (zsl (-2) w)) := zc_pm (A := zsl 1) (A' := zsl (-1)) (B := zsl 2) (B' := zsl (-2)) (zsl_inv2 zlt_1) (zsl_inv zlt_2) (zsl_inv2 zlt_2) (zsl_inv zlt_1) zsl_br1 w
theorem zc_mp1 (w : Nat → Int) : zsl 1 (zsl 2 (zsl (-1) w)) = zsl (-2) (zsl 1 (zsl 2 w)) := zc_mp (A := zsl 1) (A' := zsl (-1)) (B := zsl 2) (B' := zsl (-2)) (zsl_inv2 zlt_1) (zsl_inv zlt_2) zsl_br1 w
theorem zc_mm1 (w : Nat → Int) : zsl 1 (zsl (-2) (zsl (-1) w)) = zsl (-2) (zsl (-1) (zsl 2 w)) := zc_mm (A := zsl 1) (A' := zsl (-1)) (B := zsl 2) (B' := zsl (-2)) (zsl_inv zlt_1) (zsl_inv2 zlt_1) (zsl_inv zlt_2) (zsl_inv2 zlt_2) zsl_br1 w
theorem zc_pp2 (w : Nat → Int) : zsl (-2) (zsl 3 (zsl 2 w)) = zsl 3 (zsl 2 (zsl (-3) w)) := zc_pp (A := zsl 2) (A' := zsl (-2)) (B := zsl 3) (B' := zsl (-3)) (zsl_inv zlt_2) (zsl_inv2 zlt_3) zsl_br2 w
theorem zc_pm2 (w : Nat → Int) : zsl (-2) (zsl (-3) (zsl 2 w)) = zsl 3 (zsl (-2) (zsl (-3) w)) := zc_pm (A := zsl 2) (A' := zsl (-2)) (B := zsl 3) (B' := zsl (-3)) (zsl_inv2 zlt_2) (zsl_inv zlt_3) (zsl_inv2 zlt_3) (zsl_inv zlt_2) zsl_br2 w
theorem zc_mp2 (w : Nat → Int) : zsl 2 (zsl 3 (zsl (-2) w)) = zsl (-3) (zsl 2 (zsl 3 w)) := zc_mp (A := zsl 2) (A' := zsl (-2)) (B := zsl 3) (B' := zsl (-3)) (zsl_inv2 zlt_2) (zsl_inv zlt_3) zsl_br2 w
theorem zc_mm2 (w : Nat → Int) : zsl 2 (zsl (-3) (zsl (-2) w)) = zsl (-3) (zsl (-2) (zsl 3 w)) := zc_mm (A := zsl 2) (A' := zsl (-2)) (B := zsl 3) (B' := zsl (-3)) (zsl_inv zlt_2) (zsl_inv2 zlt_2) (zsl_inv zlt_3) (zsl_inv2 zlt_3) zsl_br2 w
theorem zc_pp3 (w : Nat → Int) : zsl (-3) (zsl 4 (zsl 3 w)) = zsl 4 (zsl 3 (zsl (-4) w)) := zc_pp (A := zsl 3) (A' := zsl (-3)) (B := zsl 4) (B' := zsl (-4)) (zsl_inv zlt_3) (zsl_inv2 zlt_4) zsl_br3 w
theorem zc_pm3 (w : Nat → Int) : zsl (-3) (zsl (-4) (zsl 3 w)) = zsl 4 (zsl (-3) (zsl (-4) w)) := zc_pm (A := zsl 3) (A' := zsl (-3)) (B := zsl 4) (B' := zsl (-4)) (zsl_inv2 zlt_3) (zsl_inv zlt_4) (zsl_inv2 zlt_4) (zsl_inv zlt_3) zsl_br3 w
theorem zc_mp3 (w : Nat → Int) : zsl 3 (zsl 4 (zsl (-3) w)) = zsl (-4) (zsl 3 (zsl 4 w)) := zc_mp (A := zsl 3) (A' := zsl (-3)) (B := zsl 4) (B' := zsl (-4)) (zsl_inv2 zlt_3) (zsl_inv zlt_4) zsl_br3 w
theorem zc_mm3 (w : Nat → Int) : zsl 3 (zsl (-4) (zsl (-3) w)) = zsl (-4) (zsl (-3) (zsl 4 w)) := zc_mm (A := zsl 3) (A' := zsl (-3)) (B := zsl 4) (B' := zsl (-4)) (zsl_inv zlt_3) (zsl_inv2 zlt_3) (zsl_inv zlt_4) (zsl_inv2 zlt_4) zsl_br3 w
/-- a letter between a letter and its opposite -/
theorem zconj {x y : Int32} (hx : zLt x) (hy : zLt y) (h1 : ¬ zix y = zix x) (h2 : ¬ zix y = zix x - 1) (w : Nat → Int) : zsl (-x) (zsl y (zsl x w)) = zcv w (zrp x y) := by
  by_cases e : zix y = zix x + 1
  · skip
    rcases hx with rfl | rfl | rfl | rfl | rfl | rfl | rfl | rfl <;> rcases hy with rfl | rfl | rfl | rfl | rfl | rfl | rfl | rfl
    · exact absurd e (by decide +kernel)
    · rw [show zrp 1 2 = [-2, 1, 2] from by decide +kernel]; exact zc_pp1 w
    · exact absurd e (by decide +kernel)
    · exact absurd e (by decide +kernel)
    · exact absurd e (by decide +kernel)
    · rw [show zrp 1 (-2) = [-2, -1, 2] from by decide +kernel]; exact zc_pm1 w
    · exact absurd e (by decide +kernel)
    · exact absurd e (by decide +kernel)
    · exact absurd e (by decide +kernel)
    · exact absurd e (by decide +kernel)
    · rw [show zrp 2 3 = [-3, 2, 3] from by decide +kernel]; exact zc_pp2 w
    · exact absurd e (by decide +kernel)
    · exact absurd e (by decide +kernel)
    · exact absurd e (by decide +kernel)
    · rw [show zrp 2 (-3) = [-3, -2, 3] from by decide +kernel]; exact zc_pm2 w
    · exact absurd e (by decide +kernel)
    · exact absurd e (by decide +kernel)
    · exact absurd e (by decide +kernel)
    · exact absurd e (by decide +kernel)
    · rw [show zrp 3 4 = [-4, 3, 4] from by decide +kernel]; exact zc_pp3 w
    · exact absurd e (by decide +kernel)
    · exact absurd e (by decide +kernel)
    · exact absurd e (by decide +kernel)
    · rw [show zrp 3 (-4) = [-4, -3, 4] from by decide +kernel]; exact zc_pm3 w
    · exact absurd e (by decide +kernel)
    · exact absurd e (by decide +kernel)
    · exact absurd e (by decide +kernel)
    · exact absurd e (by decide +kernel)
    · exact absurd e (by decide +kernel)
    · exact absurd e (by decide +kernel)
    · exact absurd e (by decide +kernel)
    · exact absurd e (by decide +kernel)
    · exact absurd e (by decide +kernel)
    · rw [show zrp (-1) 2 = [2, 1, -2] from by decide +kernel, show -(-1 : Int32) = 1 from by decide]; exact zc_mp1 w
    · exact absurd e (by decide +kernel)
    · exact absurd e (by decide +kernel)
    · exact absurd e (by decide +kernel)
    · rw [show zrp (-1) (-2) = [2, -1, -2] from by decide +kernel, show -(-1 : Int32) = 1 from by decide]; exact zc_mm1 w
    · exact absurd e (by decide +kernel)
    · exact absurd e (by decide +kernel)
    · exact absurd e (by decide +kernel)
    · exact absurd e (by decide +kernel)
    · rw [show zrp (-2) 3 = [3, 2, -3] from by decide +kernel, show -(-2 : Int32) = 2 from by decide]; exact zc_mp2 w
    · exact absurd e (by decide +kernel)
    · exact absurd e (by decide +kernel)
    · exact absurd e (by decide +kernel)
    · rw [show zrp (-2) (-3) = [3, -2, -3] from by decide +kernel, show -(-2 : Int32) = 2 from by decide]; exact zc_mm2 w
    · exact absurd e (by decide +kernel)
    · exact absurd e (by decide +kernel)
    · exact absurd e (by decide +kernel)
    · exact absurd e (by decide +kernel)
    · rw [show zrp (-3) 4 = [4, 3, -4] from by decide +kernel, show -(-3 : Int32) = 3 from by decide]; exact zc_mp3 w
    · exact absurd e (by decide +kernel)
    · exact absurd e (by decide +kernel)
    · exact absurd e (by decide +kernel)
    · rw [show zrp (-3) (-4) = [4, -3, -4] from by decide +kernel, show -(-3 : Int32) = 3 from by decide]; exact zc_mm3 w
    · exact absurd e (by decide +kernel)
    · exact absurd e (by decide +kernel)
    · exact absurd e (by decide +kernel)
    · exact absurd e (by decide +kernel)
    · exact absurd e (by decide +kernel)
    · exact absurd e (by decide +kernel)
    · exact absurd e (by decide +kernel)
    · exact absurd e (by decide +kernel)
  · unfold zrp; rw [if_neg e]
    show _ = zsl y w
    have far : zJx x + 2 ≤ zJx y ∨ zJx y + 2 ≤ zJx x := by
      obtain ⟨a1, a2, a3⟩ := zJx_b hx
      obtain ⟨b1, b2, b3⟩ := zJx_b hy
      rw [a3, b3] at h1 h2 e
      have c1 : ¬ zJx y = zJx x := fun q => h1 (by rw [q])
      have c2 : ¬ zJx y = zJx x + 1 := fun q => e (by rw [q]; exact (nI_add (zJx x) 1).symm)
      have c3 : ¬ zJx y + 1 = zJx x := fun q => h2 (by rw [← q]; exact (pk_sub (a := zJx y + 1) (b := 1) (by omega)).symm)
      omega
    rw [zsl_far hx hy far, zsl_inv hx]
theorem zmid {x : Int32} (hx : zLt x) : ∀ (M : List Int32), (∀ y ∈ M, zLt y ∧ ¬ zix y = zix x ∧ ¬ zix y = zix x - 1) → ∀ w, zsl (-x) (zcv (zsl x w) M) = zcv w (M.flatMap (zrp x))
  | [], _, w => zsl_inv hx w
  | y :: M, h, w => by
    obtain ⟨h1, h2, h3⟩ := h y List.mem_cons_self
    rw [List.flatMap_cons, zcv_app, ← zconj hx h1 h2 h3, ← zmid hx M (fun z hz => h z (List.mem_cons_of_mem _ hz)), zsl_inv2 hx]
    rfl
