/-! the text buffer, its parser -/
/-- how much of a word stands in the text from a on -/
def zcm (f : Nat → Int32) (n : Nat) : Nat → List Int32 → Nat
  | _, [] => 0
  | a, c :: S => if a < n ∧ f a = c then zcm f n (a + 1) S + 1 else 0
theorem zcm_le (f : Nat → Int32) (n : Nat) : ∀ (S : List Int32) (a : Nat), zcm f n a S ≤ S.length
  | [], a => Nat.le_refl 0
  | c :: S, a => by have := zcm_le f n S (a + 1); simp only [zcm, List.length_cons]; split <;> omega
theorem zcm_n (f : Nat → Int32) (n : Nat) : ∀ (S : List Int32) (a : Nat), a ≤ n → a + zcm f n a S ≤ n
  | [], a, h => h
  | c :: S, a, h => by
    simp only [zcm]; split
    · rename_i q; have := zcm_n f n S (a + 1) q.1; omega
    · omega
def zLw (i : Nat) : List Int32 := zTX.getD i []
theorem zLw_len (i : Nat) : (zLw i).length = zTXn i := rfl
theorem zLw_small : ∀ i, i < 7 → 4 ≤ zTXn i ∧ zTXn i ≤ 7 := by decide +kernel
theorem zLw_drop {i m : Nat} (h : m < zTXn i) : (zLw i).drop m = zTXc i m :: (zLw i).drop (m + 1) := by
  unfold zTXn at h
  unfold zLw zTXc
  generalize zTX.getD i [] = L at h ⊢
  rw [List.drop_eq_getElem_cons h, List.getD_eq_getElem?_getD, List.getElem?_eq_getElem h]; rfl
/-- a command's parameters: well or not, where one stands then, the case, the letter -/
def zpar (f : Nat → Int32) (n c a : Nat) : Bool × Nat × Nat × Int32 :=
  if c = 0 then (true, a, 0, 0)
  else if a < n ∧ 48 ≤ f a ∧ f a ≤ 57 then
    (if c = 1 then (if a + 1 < n ∧ f (a + 1) = 32 then (if a + 2 < n ∧ ¬ zlet (f (a + 2)) = 0 then (true, a + 3, (f a - 48).toNatClampNeg, zlet (f (a + 2))) else (false, a + 2, 0, 0)) else (false, a + 1, 0, 0))
     else (true, a + 1, (f a - 48).toNatClampNeg, 0))
  else (false, a, 0, 0)
/-- the commands from the i-th on, j of them, tried: well or not, the place, command, case, letter -/
def zrcF (f : Nat → Int32) (n a : Nat) (i far : Nat) : Nat → Bool × Nat × Nat × Nat × Int32
  | 0 => (false, a + far, 0, 0, 0)
  | j + 1 => if zcm f n a (zLw i) = zTXn i then ((zpar f n i (a + zTXn i)).1, (zpar f n i (a + zTXn i)).2.1, i, (zpar f n i (a + zTXn i)).2.2.1, (zpar f n i (a + zTXn i)).2.2.2) else zrcF f n a (i + 1) (max far (zcm f n a (zLw i))) j
def zrc (f : Nat → Int32) (n a : Nat) : Bool × Nat × Nat × Nat × Int32 := zrcF f n a 0 0 7
abbrev zTL : Type := List (Nat × Nat × Int32)
def zps (f : Nat → Int32) (n : Nat) : Nat → Nat → zTL → Bool × Nat × zTL
  | 0, a, acc => (false, a, acc)
  | t + 1, a, acc =>
    if (zrc f n a).1 = true then
      (if (zrc f n a).2.1 = n then (true, n, acc ++ [(zrc f n a).2.2]) else if (zrc f n a).2.1 < n ∧ f (zrc f n a).2.1 = 59 then zps f n t ((zrc f n a).2.1 + 1) (acc ++ [(zrc f n a).2.2]) else (false, (zrc f n a).2.1, acc ++ [(zrc f n a).2.2]))
    else (false, (zrc f n a).2.1, acc)
theorem zdig {x : Int32} (h1 : 48 ≤ x) (h2 : x ≤ 57) : ∃ k, k < 10 ∧ x - 48 = nI k := by
  obtain ⟨j, hj, e⟩ := nI_of2 (x := x) (M := 57) (n := 57) rfl (fun q => absurd (Int32.lt_of_le_of_lt h1 q) (by decide)) h2
  subst e
  have h3 : 48 ≤ j := (nI_leI (a := 48) (b := j) (by omega) (by omega)).mp h1
  exact ⟨j - 48, by omega, pk_sub (a := j) (b := 48) h3⟩
theorem zpar_at {f : Nat → Int32} {n c a : Nat} (ha : a ≤ n) : a ≤ (zpar f n c a).2.1 ∧ (zpar f n c a).2.1 ≤ n ∧ (zpar f n c a).2.2.1 < 10 := by
  unfold zpar
  split
  · exact ⟨Nat.le_refl _, ha, by show 0 < 10; omega⟩
  · split
    · rename_i q
      obtain ⟨k, hk, e⟩ := zdig q.2.1 q.2.2
      have e2 : (f a - 48).toNatClampNeg < 10 := by rw [e, nI_clamp (by omega)]; exact hk
      split
      · split
        · rename_i q2
          split
          · rename_i q3; exact ⟨(show a ≤ a + 3 by omega), (show a + 3 ≤ n by omega), e2⟩
          · exact ⟨(show a ≤ a + 2 by omega), (show a + 2 ≤ n by omega), by show 0 < 10; omega⟩
        · exact ⟨(show a ≤ a + 1 by omega), (show a + 1 ≤ n by omega), by show 0 < 10; omega⟩
      · exact ⟨(show a ≤ a + 1 by omega), (show a + 1 ≤ n by omega), e2⟩
    · exact ⟨Nat.le_refl _, ha, by show 0 < 10; omega⟩
theorem zrcF_at {f : Nat → Int32} {n a : Nat} (ha : a ≤ n) : ∀ (j i far : Nat), i + j = 7 → a + far ≤ n → a ≤ (zrcF f n a i far j).2.1 ∧ (zrcF f n a i far j).2.1 ≤ n ∧ ((zrcF f n a i far j).1 = true → a + 4 ≤ (zrcF f n a i far j).2.1 ∧ (zrcF f n a i far j).2.2.1 < 7 ∧ (zrcF f n a i far j).2.2.2.1 < 10)
  | 0, i, far, hi, hf => ⟨(show a ≤ a + far by omega), hf, fun h => by cases h⟩
  | j + 1, i, far, hi, hf => by
    simp only [zrcF]
    have h1 := zcm_n f n (zLw i) a ha
    have h2 := zLw_small i (by omega)
    split
    · rename_i q
      rw [q] at h1
      obtain ⟨p1, p2, p3⟩ := zpar_at (f := f) (n := n) (c := i) (a := a + zTXn i) h1
      exact ⟨(show a ≤ (zpar f n i (a + zTXn i)).2.1 by omega), p2, fun _ => ⟨(show a + 4 ≤ (zpar f n i (a + zTXn i)).2.1 by omega), (show i < 7 by omega), p3⟩⟩
    · exact zrcF_at ha j (i + 1) _ (by omega) (by omega)
theorem zrc_at {f : Nat → Int32} {n a : Nat} (ha : a ≤ n) : a ≤ (zrc f n a).2.1 ∧ (zrc f n a).2.1 ≤ n ∧ ((zrc f n a).1 = true → a + 4 ≤ (zrc f n a).2.1 ∧ (zrc f n a).2.2.1 < 7 ∧ (zrc f n a).2.2.2.1 < 10) := zrcF_at ha 7 0 0 rfl ha
def zsc (y n : Nat) (cnt a : Nat) (σ : zS) : Prop := σ.1 y = .inr (5, [.ref (y + 1), .int (nI n), .ref (y + 2), .ref (y + 3), .ref (y + 4), .int (nI cnt), .int (nI a)])
set_option maxHeartbeats 400000 in
set_option maxRecDepth 100000 in
theorem qX7_readCharacter1 {X : zX} (hX : X.1.stackTraces = false) {σ : zS} {y n cnt a : Nat} {f : Nat → Int32} {ch : Int32} (h0 : σ.1 y = .inr (5, [.ref (y + 1), .int (nI n), .ref (y + 2), .ref (y + 3), .ref (y + 4), .int (nI cnt), .int (nI a)])) (h1 : σ.1 (y + 1) = .inl (1, 60, .inl f)) (hn : n ≤ 60) (ha : a ≤ n) (hc : a < n ∧ f a = ch) : zMet X mX7_readCharacter yX7_readCharacter 0 0 0 [.ref y, .int ch] σ (zI (fun y_ s => y_ = 1 ∧ zFr σ s (fun q => q = y) ∧ s.1 y = .inr (5, [.ref (y + 1), .int (nI n), .ref (y + 2), .ref (y + 3), .ref (y + 4), .int (nI cnt), .int (nI (a + 1))]))) := by
  refine zMet_of (ls := [some (.ref y), some (.int ch)]) rfl (by decide +kernel) rfl (fun h => by cases h) hX (Nat.le_of_ble_eq_true rfl) rfl ?_
  have hlt := hc.1
  refine zr_aload_n dX7_readCharacter_0 rfl ?_
  refine zr_getfield dX7_readCharacter_1 fX7_35 h0 rfl (by decide) ?_
  refine zr_aload_n dX7_readCharacter_4 rfl ?_
  refine zr_getfield dX7_readCharacter_5 fX7_15 h0 rfl (by decide) ?_
  refine zr_icmp_ge (tgt := 24) dX7_readCharacter_8 (by decide) (fun c_8 => absurd c_8 (fun h => absurd ((nI_leI (a := n) (b := a) (by omega) (by omega)).mp h) (by omega))) (fun c_8 => ?_)
  refine zr_aload_n dX7_readCharacter_11 rfl ?_
  refine zr_getfield dX7_readCharacter_12 fX7_9 h0 rfl (by decide) ?_
  refine zr_aload_n dX7_readCharacter_15 rfl ?_
  refine zr_getfield dX7_readCharacter_16 fX7_35 h0 rfl (by decide) ?_
  refine zr_caload dX7_readCharacter_19 h1 (vp_in_nI (n := a) (by omega) (by omega)) ?_
  rw [nI_clamp (n := a) (by omega)]
  refine zr_iload_n dX7_readCharacter_20 rfl ?_
  refine zr_icmp_eq (tgt := 26) dX7_readCharacter_21 (by decide) (fun c_21 => ?_) (fun c_21 => absurd (hc.2) c_21)
  refine zr_aload_n dX7_readCharacter_26 rfl ?_
  refine zr_dup dX7_readCharacter_27 rfl ?_
  refine zr_getfield dX7_readCharacter_28 fX7_35 h0 rfl (by decide) ?_
  refine zr_iconst (v := 1) dX7_readCharacter_31 (by decide) ?_
  refine zr_iadd dX7_readCharacter_32 ?_
  refine zr_eqi (x' := nI (a + 1)) (nI_add a 1) ?_
  refine zr_putfield (fs' := [.ref ((y + 1)), .int (nI n), .ref ((y + 2)), .ref ((y + 3)), .ref ((y + 4)), .int (nI cnt), .int (nI (a + 1))]) dX7_readCharacter_33 pX7_35 h0 (by decide) (rfl) (rfl) (Nat.le_of_ble_eq_true rfl) rfl ?_
  refine zr_sig (fun ks1 e_ks1 => ?_)
  have kh2 : ks1.1 y = .inr (5, [.ref ((y + 1)), .int (nI n), .ref ((y + 2)), .ref ((y + 3)), .ref ((y + 4)), .int (nI cnt), .int (nI (a + 1))]) := by rw [e_ks1]; exact zup_at _ _ _
  have kh3 : ks1.1 (y + 1) = .inl (1, 60, .inl f) := by rw [e_ks1, zup_ne _ _ (by omega)]; exact h1
  have kF4 := zFr.put zFr.rf (P := fun q => q = y) e_ks1 (by first | omega | simp)
  refine zr_iconst (v := 1) dX7_readCharacter_36 (by decide) ?_
  exact zr_ireturn dX7_readCharacter_37 rfl (rfl) (⟨_, rfl, rfl, kF4, kh2⟩)

set_option maxHeartbeats 400000 in
set_option maxRecDepth 100000 in
theorem qX7_readCharacter0 {X : zX} (hX : X.1.stackTraces = false) {σ : zS} {y n cnt a : Nat} {f : Nat → Int32} {ch : Int32} (h0 : σ.1 y = .inr (5, [.ref (y + 1), .int (nI n), .ref (y + 2), .ref (y + 3), .ref (y + 4), .int (nI cnt), .int (nI a)])) (h1 : σ.1 (y + 1) = .inl (1, 60, .inl f)) (hn : n ≤ 60) (ha : a ≤ n) (hc : ¬ (a < n ∧ f a = ch)) : zMet X mX7_readCharacter yX7_readCharacter 0 0 0 [.ref y, .int ch] σ (zI (fun y_ s_ => y_ = 0 ∧ s_ = σ)) := by
  refine zMet_of (ls := [some (.ref y), some (.int ch)]) rfl (by decide +kernel) rfl (fun h => by cases h) hX (Nat.le_of_ble_eq_true rfl) rfl ?_
  refine zr_aload_n dX7_readCharacter_0 rfl ?_
  refine zr_getfield dX7_readCharacter_1 fX7_35 h0 rfl (by decide) ?_
  refine zr_aload_n dX7_readCharacter_4 rfl ?_
  refine zr_getfield dX7_readCharacter_5 fX7_15 h0 rfl (by decide) ?_
  refine zr_icmp_ge (tgt := 24) dX7_readCharacter_8 (by decide) (fun c_8 => ?_) (fun c_8 => ?_)
  · refine zr_iconst (v := 0) dX7_readCharacter_24 (by decide) ?_
    exact zr_ireturn dX7_readCharacter_25 rfl (rfl) (⟨_, rfl, rfl, rfl⟩)
  · have a_n : a < n := Nat.not_le.mp (fun q => c_8 ((nI_leI (by omega) (by omega)).mpr q))
    refine zr_aload_n dX7_readCharacter_11 rfl ?_
    refine zr_getfield dX7_readCharacter_12 fX7_9 h0 rfl (by decide) ?_
    refine zr_aload_n dX7_readCharacter_15 rfl ?_
    refine zr_getfield dX7_readCharacter_16 fX7_35 h0 rfl (by decide) ?_
    refine zr_caload dX7_readCharacter_19 h1 (vp_in_nI (n := a) (by omega) (by omega)) ?_
    rw [nI_clamp (n := a) (by omega)]
    refine zr_iload_n dX7_readCharacter_20 rfl ?_
    refine zr_icmp_eq (tgt := 26) dX7_readCharacter_21 (by decide) (fun c_21 => ?_) (fun c_21 => ?_)
    · exact absurd ⟨a_n, c_21⟩ hc
    · refine zr_iconst (v := 0) dX7_readCharacter_24 (by decide) ?_
      exact zr_ireturn dX7_readCharacter_25 rfl (rfl) (⟨_, rfl, rfl, rfl⟩)

