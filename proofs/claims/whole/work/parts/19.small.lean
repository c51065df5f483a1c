/-! small functions of letters, signs, places -/
def zix (l : Int32) : Int32 := if l < 0 then -l else l
def zsg (x : Int64) : Int32 := if x = 0 then 0 else if 0 < x then 1 else -1
def zpa (i p : Int32) : Int32 := if p = i then i + 1 else if p = i + 1 then i else p
def zchr (l : Int32) : Int32 := if 0 < l then ((97 + l - 1).toUInt32 % 65536).toInt32 else ((65 - l - 1).toUInt32 % 65536).toInt32
def zlet (c : Int32) : Int32 := if 97 ≤ c ∧ c ≤ 100 then c - 97 + 1 else if 65 ≤ c ∧ c ≤ 68 then 65 - c - 1 else 0
theorem zcmp_lt {x y : Int64} : lg_cmp x y < 0 ↔ x < y := by
  unfold lg_cmp
  by_cases h : x > y
  · rw [if_pos h]; constructor
    · intro q; exact absurd q (by decide)
    · intro q; rw [gt_iff_lt, Int64.lt_iff_toInt_lt] at h; rw [Int64.lt_iff_toInt_lt] at q; omega
  · rw [if_neg h]
    by_cases e : x = y
    · rw [if_pos e]; subst e; constructor
      · intro q; exact absurd q (by decide)
      · intro q; exact absurd q (by rw [Int64.lt_iff_toInt_lt]; omega)
    · rw [if_neg e]; constructor
      · intro _; rw [gt_iff_lt, Int64.lt_iff_toInt_lt] at h; rw [Int64.lt_iff_toInt_lt]
        have : x.toInt ≠ y.toInt := fun q => e (Int64.toInt_inj.mp q)
        omega
      · intro _; decide
theorem zcmp_gt {x y : Int64} : 0 < lg_cmp x y ↔ y < x := by
  unfold lg_cmp
  by_cases h : x > y
  · rw [if_pos h]; exact ⟨fun _ => h, fun _ => by decide⟩
  · rw [if_neg h]
    by_cases e : x = y
    · rw [if_pos e]; exact ⟨fun q => absurd q (by decide), fun q => absurd q h⟩
    · rw [if_neg e]; exact ⟨fun q => absurd q (by decide), fun q => absurd q h⟩
theorem zcmp_eq {x y : Int64} : lg_cmp x y = 0 ↔ x = y := by
  unfold lg_cmp
  by_cases h : x > y
  · rw [if_pos h]; constructor
    · intro q; exact absurd q (by decide)
    · intro q; subst q; rw [gt_iff_lt, Int64.lt_iff_toInt_lt] at h; omega
  · rw [if_neg h]
    by_cases e : x = y
    · rw [if_pos e]; exact ⟨fun _ => e, fun _ => rfl⟩
    · rw [if_neg e]; exact ⟨fun q => absurd q (by decide), fun q => absurd q e⟩
set_option maxHeartbeats 4000000 in
set_option maxRecDepth 100000 in
theorem qX9_indexOf {X : zX} (hX : X.1.stackTraces = false) (σ : zS) (x : Int32)  : zMet X mX9_indexOf yX9_indexOf 0 0 0 [.int x] σ (zI (fun r s => r = zix x ∧ s = σ)) := by
  refine zMet_of (ls := [some (.int x)]) rfl (by decide +kernel) rfl (fun h => by cases h) hX (Nat.le_of_ble_eq_true rfl) rfl ?_
  refine zr_iload_n dX9_indexOf_0 rfl ?_
  refine zr_if_ge (tgt := 9) dX9_indexOf_1 (by decide) (fun c_1 => ?_) (fun c_1 => ?_)
  · refine zr_iload_n dX9_indexOf_9 rfl ?_
    exact zr_ireturn dX9_indexOf_10 rfl (rfl) (⟨_, rfl, by unfold zix; (repeat' split) <;> first | rfl | (exfalso; (simp only [Int32.lt_iff_toInt_lt, Int32.le_iff_toInt_le, Int64.lt_iff_toInt_lt, Int64.le_iff_toInt_le, ← Int32.toInt_inj, ← Int64.toInt_inj, Int32.reduceToInt, Int64.reduceToInt] at *; omega)), rfl⟩)
  · refine zr_iload_n dX9_indexOf_4 rfl ?_
    refine zr_ineg dX9_indexOf_5 ?_
    refine zr_goto (tgt := 10) dX9_indexOf_6 (by decide) ?_
    exact zr_ireturn dX9_indexOf_10 rfl (rfl) (⟨_, rfl, by unfold zix; (repeat' split) <;> first | rfl | (exfalso; (simp only [Int32.lt_iff_toInt_lt, Int32.le_iff_toInt_le, Int64.lt_iff_toInt_lt, Int64.le_iff_toInt_le, ← Int32.toInt_inj, ← Int64.toInt_inj, Int32.reduceToInt, Int64.reduceToInt] at *; omega)), rfl⟩)

set_option maxHeartbeats 4000000 in
set_option maxRecDepth 100000 in
theorem qX9_signOf {X : zX} (hX : X.1.stackTraces = false) (σ : zS) (x : Int64)  : zMet X mX9_signOf yX9_signOf 0 0 0 [.long x] σ (zI (fun r s => r = zsg x ∧ s = σ)) := by
  refine zMet_of (ls := [some (.long x), none]) rfl (by decide +kernel) rfl (fun h => by cases h) hX (Nat.le_of_ble_eq_true rfl) rfl ?_
  refine zr_lload_n dX9_signOf_0 rfl ?_
  refine zr_lconst (v := 0) dX9_signOf_1 (by decide) ?_
  refine zr_lcmp dX9_signOf_2 ?_
  refine zr_if_ne (tgt := 8) dX9_signOf_3 (by decide) (fun c_3 => ?_) (fun c_3 => ?_)
  · refine zr_lload_n dX9_signOf_8 rfl ?_
    refine zr_lconst (v := 0) dX9_signOf_9 (by decide) ?_
    refine zr_lcmp dX9_signOf_10 ?_
    refine zr_if_le (tgt := 18) dX9_signOf_11 (by decide) (fun c_11 => ?_) (fun c_11 => ?_)
    · refine zr_iconst (v := -1) dX9_signOf_18 (by decide) ?_
      exact zr_ireturn dX9_signOf_19 rfl (rfl) (⟨_, rfl, by (try simp only [zcmp_gt, zcmp_eq, zcmp_lt, ← Int32.not_lt] at *); unfold zsg; (repeat' split) <;> first | rfl | (exfalso; (simp only [Int32.lt_iff_toInt_lt, Int32.le_iff_toInt_le, Int64.lt_iff_toInt_lt, Int64.le_iff_toInt_le, ← Int32.toInt_inj, ← Int64.toInt_inj, Int32.reduceToInt, Int64.reduceToInt] at *; omega)) | contradiction, rfl⟩)
    · refine zr_iconst (v := 1) dX9_signOf_14 (by decide) ?_
      refine zr_goto (tgt := 19) dX9_signOf_15 (by decide) ?_
      exact zr_ireturn dX9_signOf_19 rfl (rfl) (⟨_, rfl, by (try simp only [zcmp_gt, zcmp_eq, zcmp_lt, ← Int32.not_lt] at *); unfold zsg; (repeat' split) <;> first | rfl | (exfalso; (simp only [Int32.lt_iff_toInt_lt, Int32.le_iff_toInt_le, Int64.lt_iff_toInt_lt, Int64.le_iff_toInt_le, ← Int32.toInt_inj, ← Int64.toInt_inj, Int32.reduceToInt, Int64.reduceToInt] at *; omega)) | contradiction, rfl⟩)
  · refine zr_iconst (v := 0) dX9_signOf_6 (by decide) ?_
    exact zr_ireturn dX9_signOf_7 rfl (rfl) (⟨_, rfl, by (try simp only [zcmp_gt, zcmp_eq, zcmp_lt, ← Int32.not_lt] at *); unfold zsg; (repeat' split) <;> first | rfl | (exfalso; (simp only [Int32.lt_iff_toInt_lt, Int32.le_iff_toInt_le, Int64.lt_iff_toInt_lt, Int64.le_iff_toInt_le, ← Int32.toInt_inj, ← Int64.toInt_inj, Int32.reduceToInt, Int64.reduceToInt] at *; omega)) | contradiction, rfl⟩)

set_option maxHeartbeats 4000000 in
set_option maxRecDepth 100000 in
theorem qX9_positionAfter {X : zX} (hX : X.1.stackTraces = false) (σ : zS) (i p : Int32)  : zMet X mX9_positionAfter yX9_positionAfter 0 0 0 [.int i, .int p] σ (zI (fun r s => r = zpa i p ∧ s = σ)) := by
  refine zMet_of (ls := [some (.int i), some (.int p)]) rfl (by decide +kernel) rfl (fun h => by cases h) hX (Nat.le_of_ble_eq_true rfl) rfl ?_
  refine zr_iload_n dX9_positionAfter_0 rfl ?_
  refine zr_iload_n dX9_positionAfter_1 rfl ?_
  refine zr_icmp_ne (tgt := 9) dX9_positionAfter_2 (by decide) (fun c_2 => ?_) (fun c_2 => ?_)
  · refine zr_iload_n dX9_positionAfter_9 rfl ?_
    refine zr_iload_n dX9_positionAfter_10 rfl ?_
    refine zr_iconst (v := 1) dX9_positionAfter_11 (by decide) ?_
    refine zr_iadd dX9_positionAfter_12 ?_
    refine zr_icmp_ne (tgt := 20) dX9_positionAfter_13 (by decide) (fun c_13 => ?_) (fun c_13 => ?_)
    · refine zr_iload_n dX9_positionAfter_20 rfl ?_
      exact zr_ireturn dX9_positionAfter_21 rfl (rfl) (⟨_, rfl, by unfold zpa; (repeat' split) <;> first | rfl | (exfalso; (simp only [Int32.lt_iff_toInt_lt, Int32.le_iff_toInt_le, Int64.lt_iff_toInt_lt, Int64.le_iff_toInt_le, ← Int32.toInt_inj, ← Int64.toInt_inj, Int32.reduceToInt, Int64.reduceToInt] at *; omega)), rfl⟩)
    · refine zr_iload_n dX9_positionAfter_16 rfl ?_
      refine zr_goto (tgt := 21) dX9_positionAfter_17 (by decide) ?_
      exact zr_ireturn dX9_positionAfter_21 rfl (rfl) (⟨_, rfl, by unfold zpa; (repeat' split) <;> first | rfl | (exfalso; (simp only [Int32.lt_iff_toInt_lt, Int32.le_iff_toInt_le, Int64.lt_iff_toInt_lt, Int64.le_iff_toInt_le, ← Int32.toInt_inj, ← Int64.toInt_inj, Int32.reduceToInt, Int64.reduceToInt] at *; omega)), rfl⟩)
  · refine zr_iload_n dX9_positionAfter_5 rfl ?_
    refine zr_iconst (v := 1) dX9_positionAfter_6 (by decide) ?_
    refine zr_iadd dX9_positionAfter_7 ?_
    exact zr_ireturn dX9_positionAfter_8 rfl (rfl) (⟨_, rfl, by unfold zpa; (repeat' split) <;> first | rfl | (exfalso; (simp only [Int32.lt_iff_toInt_lt, Int32.le_iff_toInt_le, Int64.lt_iff_toInt_lt, Int64.le_iff_toInt_le, ← Int32.toInt_inj, ← Int64.toInt_inj, Int32.reduceToInt, Int64.reduceToInt] at *; omega)), rfl⟩)

set_option maxHeartbeats 4000000 in
set_option maxRecDepth 100000 in
theorem qX9_characterOf {X : zX} (hX : X.1.stackTraces = false) (σ : zS) (x : Int32)  : zMet X mX9_characterOf yX9_characterOf 0 0 0 [.int x] σ (zI (fun r s => r = zchr x ∧ s = σ)) := by
  refine zMet_of (ls := [some (.int x)]) rfl (by decide +kernel) rfl (fun h => by cases h) hX (Nat.le_of_ble_eq_true rfl) rfl ?_
  refine zr_iload_n dX9_characterOf_0 rfl ?_
  refine zr_if_le (tgt := 14) dX9_characterOf_1 (by decide) (fun c_1 => ?_) (fun c_1 => ?_)
  · refine zr_bipush (v := 65) dX9_characterOf_14 (by decide) ?_
    refine zr_iload_n dX9_characterOf_16 rfl ?_
    refine zr_isub dX9_characterOf_17 ?_
    refine zr_iconst (v := 1) dX9_characterOf_18 (by decide) ?_
    refine zr_isub dX9_characterOf_19 ?_
    refine zr_i2c dX9_characterOf_20 ?_
    exact zr_ireturn dX9_characterOf_21 rfl (pk_nc _) (⟨_, rfl, by unfold zchr; (repeat' split) <;> first | rfl | (exfalso; (simp only [Int32.lt_iff_toInt_lt, Int32.le_iff_toInt_le, Int64.lt_iff_toInt_lt, Int64.le_iff_toInt_le, ← Int32.toInt_inj, ← Int64.toInt_inj, Int32.reduceToInt, Int64.reduceToInt] at *; omega)), rfl⟩)
  · refine zr_bipush (v := 97) dX9_characterOf_4 (by decide) ?_
    refine zr_iload_n dX9_characterOf_6 rfl ?_
    refine zr_iadd dX9_characterOf_7 ?_
    refine zr_iconst (v := 1) dX9_characterOf_8 (by decide) ?_
    refine zr_isub dX9_characterOf_9 ?_
    refine zr_i2c dX9_characterOf_10 ?_
    refine zr_goto (tgt := 21) dX9_characterOf_11 (by decide) ?_
    exact zr_ireturn dX9_characterOf_21 rfl (pk_nc _) (⟨_, rfl, by unfold zchr; (repeat' split) <;> first | rfl | (exfalso; (simp only [Int32.lt_iff_toInt_lt, Int32.le_iff_toInt_le, Int64.lt_iff_toInt_lt, Int64.le_iff_toInt_le, ← Int32.toInt_inj, ← Int64.toInt_inj, Int32.reduceToInt, Int64.reduceToInt] at *; omega)), rfl⟩)

set_option maxHeartbeats 4000000 in
set_option maxRecDepth 100000 in
theorem qX9_letterOf {X : zX} (hX : X.1.stackTraces = false) (σ : zS) (x : Int32)  : zMet X mX9_letterOf yX9_letterOf 0 0 0 [.int x] σ (zI (fun r s => r = zlet x ∧ s = σ)) := by
  refine zMet_of (ls := [some (.int x)]) rfl (by decide +kernel) rfl (fun h => by cases h) hX (Nat.le_of_ble_eq_true rfl) rfl ?_
  refine zr_iload_n dX9_letterOf_0 rfl ?_
  refine zr_bipush (v := 97) dX9_letterOf_1 (by decide) ?_
  refine zr_icmp_lt (tgt := 19) dX9_letterOf_3 (by decide) (fun c_3 => ?_) (fun c_3 => ?_)
  · refine zr_iload_n dX9_letterOf_19 rfl ?_
    refine zr_bipush (v := 65) dX9_letterOf_20 (by decide) ?_
    refine zr_icmp_lt (tgt := 38) dX9_letterOf_22 (by decide) (fun c_22 => ?_) (fun c_22 => ?_)
    · refine zr_iconst (v := 0) dX9_letterOf_38 (by decide) ?_
      exact zr_ireturn dX9_letterOf_39 rfl (rfl) (⟨_, rfl, by unfold zlet; (repeat' split) <;> first | rfl | (exfalso; (simp only [Int32.lt_iff_toInt_lt, Int32.le_iff_toInt_le, Int64.lt_iff_toInt_lt, Int64.le_iff_toInt_le, ← Int32.toInt_inj, ← Int64.toInt_inj, Int32.reduceToInt, Int64.reduceToInt] at *; omega)), rfl⟩)
    · refine zr_iload_n dX9_letterOf_25 rfl ?_
      refine zr_bipush (v := 68) dX9_letterOf_26 (by decide) ?_
      refine zr_icmp_gt (tgt := 38) dX9_letterOf_28 (by decide) (fun c_28 => ?_) (fun c_28 => ?_)
      · refine zr_iconst (v := 0) dX9_letterOf_38 (by decide) ?_
        exact zr_ireturn dX9_letterOf_39 rfl (rfl) (⟨_, rfl, by unfold zlet; (repeat' split) <;> first | rfl | (exfalso; (simp only [Int32.lt_iff_toInt_lt, Int32.le_iff_toInt_le, Int64.lt_iff_toInt_lt, Int64.le_iff_toInt_le, ← Int32.toInt_inj, ← Int64.toInt_inj, Int32.reduceToInt, Int64.reduceToInt] at *; omega)), rfl⟩)
      · refine zr_bipush (v := 65) dX9_letterOf_31 (by decide) ?_
        refine zr_iload_n dX9_letterOf_33 rfl ?_
        refine zr_isub dX9_letterOf_34 ?_
        refine zr_iconst (v := 1) dX9_letterOf_35 (by decide) ?_
        refine zr_isub dX9_letterOf_36 ?_
        exact zr_ireturn dX9_letterOf_37 rfl (rfl) (⟨_, rfl, by unfold zlet; (repeat' split) <;> first | rfl | (exfalso; (simp only [Int32.lt_iff_toInt_lt, Int32.le_iff_toInt_le, Int64.lt_iff_toInt_lt, Int64.le_iff_toInt_le, ← Int32.toInt_inj, ← Int64.toInt_inj, Int32.reduceToInt, Int64.reduceToInt] at *; omega)), rfl⟩)
  · refine zr_iload_n dX9_letterOf_6 rfl ?_
    refine zr_bipush (v := 100) dX9_letterOf_7 (by decide) ?_
    refine zr_icmp_gt (tgt := 19) dX9_letterOf_9 (by decide) (fun c_9 => ?_) (fun c_9 => ?_)
    · refine zr_iload_n dX9_letterOf_19 rfl ?_
      refine zr_bipush (v := 65) dX9_letterOf_20 (by decide) ?_
      refine zr_icmp_lt (tgt := 38) dX9_letterOf_22 (by decide) (fun c_22 => ?_) (fun c_22 => ?_)
      · refine zr_iconst (v := 0) dX9_letterOf_38 (by decide) ?_
        exact zr_ireturn dX9_letterOf_39 rfl (rfl) (⟨_, rfl, by unfold zlet; (repeat' split) <;> first | rfl | (exfalso; (simp only [Int32.lt_iff_toInt_lt, Int32.le_iff_toInt_le, Int64.lt_iff_toInt_lt, Int64.le_iff_toInt_le, ← Int32.toInt_inj, ← Int64.toInt_inj, Int32.reduceToInt, Int64.reduceToInt] at *; omega)), rfl⟩)
      · refine zr_iload_n dX9_letterOf_25 rfl ?_
        refine zr_bipush (v := 68) dX9_letterOf_26 (by decide) ?_
        refine zr_icmp_gt (tgt := 38) dX9_letterOf_28 (by decide) (fun c_28 => ?_) (fun c_28 => ?_)
        · refine zr_iconst (v := 0) dX9_letterOf_38 (by decide) ?_
          exact zr_ireturn dX9_letterOf_39 rfl (rfl) (⟨_, rfl, by unfold zlet; (repeat' split) <;> first | rfl | (exfalso; (simp only [Int32.lt_iff_toInt_lt, Int32.le_iff_toInt_le, Int64.lt_iff_toInt_lt, Int64.le_iff_toInt_le, ← Int32.toInt_inj, ← Int64.toInt_inj, Int32.reduceToInt, Int64.reduceToInt] at *; omega)), rfl⟩)
        · refine zr_bipush (v := 65) dX9_letterOf_31 (by decide) ?_
          refine zr_iload_n dX9_letterOf_33 rfl ?_
          refine zr_isub dX9_letterOf_34 ?_
          refine zr_iconst (v := 1) dX9_letterOf_35 (by decide) ?_
          refine zr_isub dX9_letterOf_36 ?_
          exact zr_ireturn dX9_letterOf_37 rfl (rfl) (⟨_, rfl, by unfold zlet; (repeat' split) <;> first | rfl | (exfalso; (simp only [Int32.lt_iff_toInt_lt, Int32.le_iff_toInt_le, Int64.lt_iff_toInt_lt, Int64.le_iff_toInt_le, ← Int32.toInt_inj, ← Int64.toInt_inj, Int32.reduceToInt, Int64.reduceToInt] at *; omega)), rfl⟩)
    · refine zr_iload_n dX9_letterOf_12 rfl ?_
      refine zr_bipush (v := 97) dX9_letterOf_13 (by decide) ?_
      refine zr_isub dX9_letterOf_15 ?_
      refine zr_iconst (v := 1) dX9_letterOf_16 (by decide) ?_
      refine zr_iadd dX9_letterOf_17 ?_
      exact zr_ireturn dX9_letterOf_18 rfl (rfl) (⟨_, rfl, by unfold zlet; (repeat' split) <;> first | rfl | (exfalso; (simp only [Int32.lt_iff_toInt_lt, Int32.le_iff_toInt_le, Int64.lt_iff_toInt_lt, Int64.le_iff_toInt_le, ← Int32.toInt_inj, ← Int64.toInt_inj, Int32.reduceToInt, Int64.reduceToInt] at *; omega)), rfl⟩)

theorem ms_mmax : Cond.static Lib.Math.max.name ∈ zBig := zin 1205 (by decide +kernel) (by decide +kernel)
theorem mc_mmax : Cond.code Lib.Math.max.name Lib.Math.max.code 2 (some .int) ∈ zBig := zin 1206 (by decide +kernel) (by decide +kernel)
theorem ms_mmaxl : Cond.static Lib.MathLoose.max_long.x ∈ zBig := zin 455 (by decide +kernel) (by decide +kernel)
theorem mc_mmaxl : Cond.code Lib.MathLoose.max_long.x Lib.MathLoose.max_long.code 4 (some .long) ∈ zBig := zin 456 (by decide +kernel) (by decide +kernel)
theorem ms_mminl : Cond.static Lib.MathLoose.min_long.x ∈ zBig := zin 452 (by decide +kernel) (by decide +kernel)
theorem mc_mminl : Cond.code Lib.MathLoose.min_long.x Lib.MathLoose.min_long.code 4 (some .long) ∈ zBig := zin 453 (by decide +kernel) (by decide +kernel)
theorem mi_Math : Cond.initialized "java/lang/Math" ∈ zBig := zin 96 (by decide +kernel) (by decide +kernel)
theorem mlX2_40 : Cond.methodLink RX2 40 Lib.MathLoose.min_long.x ∈ zBig := zin 451 (by decide +kernel) (by decide +kernel)
theorem mlX2_46 : Cond.methodLink RX2 46 Lib.MathLoose.max_long.x ∈ zBig := zin 454 (by decide +kernel) (by decide +kernel)
theorem mlX7_70 : Cond.methodLink RX7 70 Lib.Math.max.name ∈ zBig := zin 1204 (by decide +kernel) (by decide +kernel)
theorem zr_mmax {X : zX} {M : zMd} {d bc bs : Nat} {Q : zO → zS → Prop} {pc : Nat} {ls : List (Option Value)} {st : List Value} {σ : zS} {idx : Nat} {x y : Int32} (hd : decode M.2.1 pc = .ok (.invokestatic idx, 3)) (hl : Cond.methodLink M.1 idx Lib.Math.max.name ∈ zBig) (h1 : 1 ≤ d) (hcat : (st.map fun v => v.category).sum ≤ 8) (kk : zW X M d bc bs Q (pc + 3) ls (.int (if x < y then y else x) :: st) σ) : zW X M d bc bs Q pc ls (.int y :: .int x :: st) σ := by
  intro p e s m args below meth c R H locs cells slots r hM hR hc hs hS hP hL
  exact va_mmax hM.1 hM.2.1 (by rw [hM.2.2.1]; exact hL.1.symm) hM.own (hM.ws _ hl) (hM.ws _ ms_mmax) (hM.ws _ mi_Math) (hM.ws _ mc_mmax) (by have := hR.1; omega) (by have := hR.2; omega) (by omega) (by omega) hd (kk p e s m args below meth c R H locs cells slots r hM hR hc hs hS hP hL)
theorem zr_mmaxl {X : zX} {M : zMd} {d bc bs : Nat} {Q : zO → zS → Prop} {pc : Nat} {ls : List (Option Value)} {st : List Value} {σ : zS} {idx : Nat} {x y : Int64} (hd : decode M.2.1 pc = .ok (.invokestatic idx, 3)) (hl : Cond.methodLink M.1 idx Lib.MathLoose.max_long.x ∈ zBig) (h1 : 1 ≤ d) (hcat : (st.map fun v => v.category).sum ≤ 8) (kk : zW X M d bc bs Q (pc + 3) ls (.long (if y < x then x else y) :: st) σ) : zW X M d bc bs Q pc ls (.long y :: .long x :: st) σ := by
  intro p e s m args below meth c R H locs cells slots r hM hR hc hs hS hP hL
  exact va_mmax_long hM.1 hM.2.1 (by rw [hM.2.2.1]; exact hL.1.symm) hM.own (hM.ws _ hl) (hM.ws _ ms_mmaxl) (hM.ws _ mi_Math) (hM.ws _ mc_mmaxl) (by have := hR.1; omega) (by have := hR.2; omega) (by omega) (by omega) hd (kk p e s m args below meth c R H locs cells slots r hM hR hc hs hS hP hL)
theorem zr_mminl {X : zX} {M : zMd} {d bc bs : Nat} {Q : zO → zS → Prop} {pc : Nat} {ls : List (Option Value)} {st : List Value} {σ : zS} {idx : Nat} {x y : Int64} (hd : decode M.2.1 pc = .ok (.invokestatic idx, 3)) (hl : Cond.methodLink M.1 idx Lib.MathLoose.min_long.x ∈ zBig) (h1 : 1 ≤ d) (hcat : (st.map fun v => v.category).sum ≤ 8) (kk : zW X M d bc bs Q (pc + 3) ls (.long (if y < x then y else x) :: st) σ) : zW X M d bc bs Q pc ls (.long y :: .long x :: st) σ := by
  intro p e s m args below meth c R H locs cells slots r hM hR hc hs hS hP hL
  exact va_mmin_long hM.1 hM.2.1 (by rw [hM.2.2.1]; exact hL.1.symm) hM.own (hM.ws _ hl) (hM.ws _ ms_mminl) (hM.ws _ mi_Math) (hM.ws _ mc_mminl) (by have := hR.1; omega) (by have := hR.2; omega) (by omega) (by omega) hd (kk p e s m args below meth c R H locs cells slots r hM hR hc hs hS hP hL)

