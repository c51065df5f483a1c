/-! coordinates do not change by cancelling and relaxing -/
theorem zF4_inv {x y u v X Y U V X2 Y2 U2 V2 : Int} (h1 : zF4 x y u v X Y U V) (h2 : zF4 (-X) Y (-U) V X2 Y2 U2 V2) : X2 = -x ∧ Y2 = y ∧ U2 = -u ∧ V2 = v := by
  obtain ⟨a1, b1, c1, d1, e1, ha1, hb1, hc1, hd1, he1, rfl, rfl, rfl, rfl⟩ := h1
  obtain ⟨a2, b2, c2, d2, e2, ha2, hb2, hc2, hd2, he2, rfl, rfl, rfl, rfl⟩ := h2
  rcases ha1.2.2 with ⟨q0, rfl⟩ | ⟨q0, rfl⟩
  · rcases hb1.2.2 with ⟨q1, rfl⟩ | ⟨q1, rfl⟩
    · rcases hc1.2.2 with ⟨q2, rfl⟩ | ⟨q2, rfl⟩
      · rcases hd1.2.2 with ⟨q3, rfl⟩ | ⟨q3, rfl⟩
        · obtain rfl := he1.1 (by omega)
          obtain rfl := ha2.1 (by omega)
          obtain rfl := hb2.1 (by omega)
          obtain rfl := hc2.1 (by omega)
          obtain rfl := hd2.1 (by omega)
          obtain rfl := he2.1 (by omega)
          refine ⟨?_, ?_, ?_, ?_⟩ <;> omega
        · obtain rfl := he1.2.1 (by omega)
          obtain rfl := ha2.1 (by omega)
          obtain rfl := hb2.1 (by omega)
          obtain rfl := hc2.1 (by omega)
          obtain rfl := hd2.2.1 (by omega)
          obtain rfl := he2.2.1 (by omega)
          refine ⟨?_, ?_, ?_, ?_⟩ <;> omega
      · obtain rfl := hd1.1 (by omega)
        obtain rfl := he1.1 (by omega)
        obtain rfl := ha2.2.1 (by omega)
        obtain rfl := hb2.1 (by omega)
        obtain rfl := hc2.1 (by omega)
        obtain rfl := hd2.1 (by omega)
        obtain rfl := he2.1 (by omega)
        refine ⟨?_, ?_, ?_, ?_⟩ <;> omega
    · rcases hc1.2.2 with ⟨q2, rfl⟩ | ⟨q2, rfl⟩
      · obtain rfl := hd1.2.1 (by omega)
        obtain rfl := he1.2.1 (by omega)
        obtain rfl := ha2.2.1 (by omega)
        obtain rfl := hb2.1 (by omega)
        obtain rfl := hc2.1 (by omega)
        obtain rfl := hd2.2.1 (by omega)
        obtain rfl := he2.2.1 (by omega)
        refine ⟨?_, ?_, ?_, ?_⟩ <;> omega
      · obtain rfl := hd1.1 (by omega)
        obtain rfl := he1.1 (by omega)
        obtain rfl := ha2.2.1 (by omega)
        obtain rfl := hb2.1 (by omega)
        obtain rfl := hc2.1 (by omega)
        obtain rfl := hd2.1 (by omega)
        obtain rfl := he2.2.1 (by omega)
        refine ⟨?_, ?_, ?_, ?_⟩ <;> omega
  · rcases hb1.2.2 with ⟨q1, rfl⟩ | ⟨q1, rfl⟩
    · rcases hc1.2.2 with ⟨q2, rfl⟩ | ⟨q2, rfl⟩
      · rcases hd1.2.2 with ⟨q3, rfl⟩ | ⟨q3, rfl⟩
        · rcases he1.2.2 with ⟨q4, rfl⟩ | ⟨q4, rfl⟩
          · obtain rfl := ha2.1 (by omega)
            obtain rfl := hb2.1 (by omega)
            obtain rfl := hc2.2.1 (by omega)
            obtain rfl := hd2.1 (by omega)
            obtain rfl := he2.1 (by omega)
            refine ⟨?_, ?_, ?_, ?_⟩ <;> omega
          · obtain rfl := ha2.1 (by omega)
            obtain rfl := hb2.2.1 (by omega)
            obtain rfl := hc2.2.1 (by omega)
            obtain rfl := hd2.1 (by omega)
            obtain rfl := he2.1 (by omega)
            refine ⟨?_, ?_, ?_, ?_⟩ <;> omega
        · obtain rfl := he1.2.1 (by omega)
          obtain rfl := ha2.1 (by omega)
          obtain rfl := hb2.2.1 (by omega)
          obtain rfl := hc2.1 (by omega)
          obtain rfl := hd2.2.1 (by omega)
          obtain rfl := he2.2.1 (by omega)
          refine ⟨?_, ?_, ?_, ?_⟩ <;> omega
      · obtain rfl := hd1.1 (by omega)
        rcases he1.2.2 with ⟨q4, rfl⟩ | ⟨q4, rfl⟩
        · obtain rfl := ha2.2.1 (by omega)
          obtain rfl := hb2.1 (by omega)
          obtain rfl := hc2.2.1 (by omega)
          obtain rfl := hd2.1 (by omega)
          obtain rfl := he2.1 (by omega)
          refine ⟨?_, ?_, ?_, ?_⟩ <;> omega
        · obtain rfl := ha2.2.1 (by omega)
          obtain rfl := hb2.2.1 (by omega)
          obtain rfl := hc2.2.1 (by omega)
          obtain rfl := hd2.1 (by omega)
          obtain rfl := he2.1 (by omega)
          refine ⟨?_, ?_, ?_, ?_⟩ <;> omega
    · rcases hc1.2.2 with ⟨q2, rfl⟩ | ⟨q2, rfl⟩
      · obtain rfl := hd1.2.1 (by omega)
        obtain rfl := he1.2.1 (by omega)
        obtain rfl := ha2.2.1 (by omega)
        obtain rfl := hb2.2.1 (by omega)
        obtain rfl := hc2.1 (by omega)
        obtain rfl := hd2.2.1 (by omega)
        obtain rfl := he2.2.1 (by omega)
        refine ⟨?_, ?_, ?_, ?_⟩ <;> omega
      · obtain rfl := hd1.1 (by omega)
        rcases he1.2.2 with ⟨q4, rfl⟩ | ⟨q4, rfl⟩
        · obtain rfl := ha2.2.1 (by omega)
          obtain rfl := hb2.1 (by omega)
          obtain rfl := hc2.2.1 (by omega)
          obtain rfl := hd2.1 (by omega)
          obtain rfl := he2.2.1 (by omega)
          refine ⟨?_, ?_, ?_, ?_⟩ <;> omega
        · obtain rfl := ha2.2.1 (by omega)
          obtain rfl := hb2.2.1 (by omega)
          obtain rfl := hc2.2.1 (by omega)
          obtain rfl := hd2.1 (by omega)
          obtain rfl := he2.2.1 (by omega)
          refine ⟨?_, ?_, ?_, ?_⟩ <;> omega
/-- a letter's four places -/
theorem zst_at (s : Int) (j : Nat) (w : Nat → Int) : zst s j w (2 * (j - 1)) = s * sX (s * w (2 * (j - 1))) (w (2 * (j - 1) + 1)) (s * w (2 * (j - 1) + 2)) (w (2 * (j - 1) + 3)) ∧ zst s j w (2 * (j - 1) + 1) = sY (s * w (2 * (j - 1))) (w (2 * (j - 1) + 1)) (s * w (2 * (j - 1) + 2)) (w (2 * (j - 1) + 3)) ∧ zst s j w (2 * (j - 1) + 2) = s * sU (s * w (2 * (j - 1))) (w (2 * (j - 1) + 1)) (s * w (2 * (j - 1) + 2)) (w (2 * (j - 1) + 3)) ∧ zst s j w (2 * (j - 1) + 3) = sV (s * w (2 * (j - 1))) (w (2 * (j - 1) + 1)) (s * w (2 * (j - 1) + 2)) (w (2 * (j - 1) + 3)) := by
  simp only [zst, zuI]
  refine ⟨?_, ?_, ?_, ?_⟩
  · rw [if_neg (by omega), if_neg (by omega), if_neg (by omega), if_pos trivial]
  · rw [if_neg (by omega), if_neg (by omega), if_pos trivial]
  · rw [if_neg (by omega), if_pos trivial]
  · rw [if_pos trivial]
theorem zst_out (s : Int) (j : Nat) (w : Nat → Int) {k : Nat} (h : k < 2 * (j - 1) ∨ 2 * (j - 1) + 3 < k) : zst s j w k = w k := by
  simp only [zst, zuI]
  rw [if_neg (by omega), if_neg (by omega), if_neg (by omega), if_neg (by omega)]
theorem zst_F (s : Int) (j : Nat) (w : Nat → Int) (hs : s = 1 ∨ s = -1) : zF4 (s * w (2 * (j - 1))) (w (2 * (j - 1) + 1)) (s * w (2 * (j - 1) + 2)) (w (2 * (j - 1) + 3)) (s * zst s j w (2 * (j - 1))) (zst s j w (2 * (j - 1) + 1)) (s * zst s j w (2 * (j - 1) + 2)) (zst s j w (2 * (j - 1) + 3)) := by
  obtain ⟨e1, e2, e3, e4⟩ := zst_at s j w
  rw [e1, e2, e3, e4]
  have h := zF4_s (s * w (2 * (j - 1))) (w (2 * (j - 1) + 1)) (s * w (2 * (j - 1) + 2)) (w (2 * (j - 1) + 3))
  rcases hs with rfl | rfl
  · simp only [Int.one_mul] at h ⊢; exact h
  · rw [show ∀ t : Int, -1 * (-1 * t) = t from fun t => by omega, show ∀ t : Int, -1 * (-1 * t) = t from fun t => by omega]; exact h
/-- a letter and its opposite -/
theorem zst_inv {s : Int} {j : Nat} (hs : s = 1 ∨ s = -1) (w : Nat → Int) (k : Nat) : zst (-s) j (zst s j w) k = w k := by
  have h1 := zst_F s j w hs
  have h2 := zst_F (-s) j (zst s j w) (by omega)
  rw [show ∀ t : Int, -s * t = -(s * t) from fun t => Int.neg_mul s t, show ∀ t : Int, -s * t = -(s * t) from fun t => Int.neg_mul s t] at h2
  have h3 := zF4_inv h1 h2
  by_cases o : k < 2 * (j - 1) ∨ 2 * (j - 1) + 3 < k
  · rw [zst_out _ _ _ o, zst_out _ _ _ o]
  · obtain ⟨a, b, c, d⟩ := h3
    have e : k = 2 * (j - 1) ∨ k = 2 * (j - 1) + 1 ∨ k = 2 * (j - 1) + 2 ∨ k = 2 * (j - 1) + 3 := by omega
    rcases hs with rfl | rfl <;> (rcases e with rfl | rfl | rfl | rfl <;> omega)
/-- far letters -/
theorem zst_far {s t : Int} {i j : Nat} (w : Nat → Int) (hi : 1 ≤ i) (h : i + 2 ≤ j) (k : Nat) : zst s i (zst t j w) k = zst t j (zst s i w) k := by
  have o1 : ∀ q, q < 2 * (j - 1) → zst t j w q = w q := fun q hq => zst_out _ _ _ (Or.inl hq)
  have o2 : ∀ q, 2 * (i - 1) + 3 < q → zst s i w q = w q := fun q hq => zst_out _ _ _ (Or.inr hq)
  obtain ⟨a1, a2, a3, a4⟩ := zst_at s i (zst t j w)
  obtain ⟨b1, b2, b3, b4⟩ := zst_at t j (zst s i w)
  obtain ⟨c1, c2, c3, c4⟩ := zst_at s i w
  obtain ⟨d1, d2, d3, d4⟩ := zst_at t j w
  rw [o1 _ (by omega), o1 _ (by omega), o1 _ (by omega), o1 _ (by omega)] at a1 a2 a3 a4
  rw [o2 _ (by omega), o2 _ (by omega), o2 _ (by omega), o2 _ (by omega)] at b1 b2 b3 b4
  by_cases p : k < 2 * (i - 1) ∨ 2 * (i - 1) + 3 < k
  · rw [zst_out _ _ _ p]
    by_cases p2 : k < 2 * (j - 1) ∨ 2 * (j - 1) + 3 < k
    · rw [zst_out _ _ _ p2, zst_out _ _ _ p2, zst_out _ _ _ p]
    · have e : k = 2 * (j - 1) ∨ k = 2 * (j - 1) + 1 ∨ k = 2 * (j - 1) + 2 ∨ k = 2 * (j - 1) + 3 := by omega
      rcases e with rfl | rfl | rfl | rfl
      · rw [b1, d1]
      · rw [b2, d2]
      · rw [b3, d3]
      · rw [b4, d4]
  · have q : k < 2 * (j - 1) ∨ 2 * (j - 1) + 3 < k := by omega
    rw [zst_out t j _ q]
    have e : k = 2 * (i - 1) ∨ k = 2 * (i - 1) + 1 ∨ k = 2 * (i - 1) + 2 ∨ k = 2 * (i - 1) + 3 := by omega
    rcases e with rfl | rfl | rfl | rfl
    · rw [a1, c1]
    · rw [a2, c2]
    · rw [a3, c3]
    · rw [a4, c4]
