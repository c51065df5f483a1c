/-! ===== the reference: its object at y, its eleven rows behind it; F: its numbers by their places ===== -/
def zmL (y : Nat) (F : Nat → Int32) : List Value := [.ref (y + 1), .ref (y + 2), .ref (y + 3), .ref (y + 4), .int (F 4), .int (F 5), .int (F 6), .int (F 7), .int (F 8), .int (F 9), .int (F 10), .int (F 11), .ref (y + 5), .int (F 13), .int (F 14), .ref (y + 6), .int (F 16), .ref (y + 7), .ref (y + 8), .int (F 19), .int (F 20), .int (F 21), .int (F 22), .ref (y + 9), .ref (y + 10), .int (F 25), .ref (y + 11), .int (F 27)]
def zmO (y : Nat) (F : Nat → Int32) : zE := .inr (8, zmL y F)
theorem zr_getM {X : zX} {M : zMd} {d bc bs : Nat} {Q : zO → zS → Prop} {pc : Nat} {ls : List (Option Value)} {st : List Value} {σ : zS} {y idx k : Nat} {F : Nat → Int32} {v : Value} (hd : decode M.2.1 pc = .ok (.getfield idx, 3)) (hf : zFld M.1 idx 8 k) (hσ : σ.1 y = zmO y F) (hv : (zmL y F)[k]? = some v) (kk : zW X M d bc bs Q (pc + 3) ls (v :: st) σ) : zW X M d bc bs Q pc ls (.ref y :: st) σ := zr_getfield hd hf hσ hv (by decide) kk
theorem zr_putM {X : zX} {M : zMd} {d bc bs : Nat} {Q : zO → zS → Prop} {pc : Nat} {ls : List (Option Value)} {st : List Value} {σ : zS} {y idx k : Nat} {F : Nat → Int32} {v : Int32} {ty : FieldType} (hd : decode M.2.1 pc = .ok (.putfield idx, 3)) (hf : zPut M.1 idx 8 k ty false) (hσ : σ.1 y = zmO y F) (hnv : narrow ty (.int v) = .int v) (hfit : fits ty (.int v) = true) (hl : k < 28) (he : (zmL y F).set k (.int v) = zmL y (upd F k v)) (kk : zW X M d bc bs Q (pc + 3) ls st (zup σ y (zmO y (upd F k v)))) : zW X M d bc bs Q pc ls (.int v :: .ref y :: st) σ := zr_putfield hd hf hσ (by decide) hnv hfit hl he kk
theorem zms_4 (y : Nat) (F : Nat → Int32) (v : Int32) : (zmL y F).set 4 (.int v) = zmL y (upd F 4 v) := rfl
theorem zms_5 (y : Nat) (F : Nat → Int32) (v : Int32) : (zmL y F).set 5 (.int v) = zmL y (upd F 5 v) := rfl
theorem zms_6 (y : Nat) (F : Nat → Int32) (v : Int32) : (zmL y F).set 6 (.int v) = zmL y (upd F 6 v) := rfl
theorem zms_7 (y : Nat) (F : Nat → Int32) (v : Int32) : (zmL y F).set 7 (.int v) = zmL y (upd F 7 v) := rfl
theorem zms_8 (y : Nat) (F : Nat → Int32) (v : Int32) : (zmL y F).set 8 (.int v) = zmL y (upd F 8 v) := rfl
theorem zms_9 (y : Nat) (F : Nat → Int32) (v : Int32) : (zmL y F).set 9 (.int v) = zmL y (upd F 9 v) := rfl
theorem zms_10 (y : Nat) (F : Nat → Int32) (v : Int32) : (zmL y F).set 10 (.int v) = zmL y (upd F 10 v) := rfl
theorem zms_11 (y : Nat) (F : Nat → Int32) (v : Int32) : (zmL y F).set 11 (.int v) = zmL y (upd F 11 v) := rfl
theorem zms_13 (y : Nat) (F : Nat → Int32) (v : Int32) : (zmL y F).set 13 (.int v) = zmL y (upd F 13 v) := rfl
theorem zms_14 (y : Nat) (F : Nat → Int32) (v : Int32) : (zmL y F).set 14 (.int v) = zmL y (upd F 14 v) := rfl
theorem zms_16 (y : Nat) (F : Nat → Int32) (v : Int32) : (zmL y F).set 16 (.int v) = zmL y (upd F 16 v) := rfl
theorem zms_19 (y : Nat) (F : Nat → Int32) (v : Int32) : (zmL y F).set 19 (.int v) = zmL y (upd F 19 v) := rfl
theorem zms_20 (y : Nat) (F : Nat → Int32) (v : Int32) : (zmL y F).set 20 (.int v) = zmL y (upd F 20 v) := rfl
theorem zms_21 (y : Nat) (F : Nat → Int32) (v : Int32) : (zmL y F).set 21 (.int v) = zmL y (upd F 21 v) := rfl
theorem zms_22 (y : Nat) (F : Nat → Int32) (v : Int32) : (zmL y F).set 22 (.int v) = zmL y (upd F 22 v) := rfl
theorem zms_25 (y : Nat) (F : Nat → Int32) (v : Int32) : (zmL y F).set 25 (.int v) = zmL y (upd F 25 v) := rfl
theorem zms_27 (y : Nat) (F : Nat → Int32) (v : Int32) : (zmL y F).set 27 (.int v) = zmL y (upd F 27 v) := rfl
theorem zmO.obj {y : Nat} {F : Nat → Int32} {s : zS} (h : s.1 y = zmO y F) : ∃ fs, s.1 y = .inr (8, fs) := ⟨_, h⟩
/-- the place of the reference -/
def zMr (y q : Nat) : Prop := y ≤ q ∧ q < y + 12
theorem zmO_cg {y : Nat} {F G : Nat → Int32} (h : ∀ k, k < 28 → F k = G k) : zmO y F = zmO y G := by
  unfold zmO zmL
  rw [h 4 (by omega), h 5 (by omega), h 6 (by omega), h 7 (by omega), h 8 (by omega), h 9 (by omega), h 10 (by omega), h 11 (by omega), h 13 (by omega), h 14 (by omega), h 16 (by omega), h 19 (by omega), h 20 (by omega), h 21 (by omega), h 22 (by omega), h 25 (by omega), h 27 (by omega)]
/-- a letter as it lies in a row -/
def zdv (v : Int32) : Int32 := if 4 ≤ v then 3 - v else v + 1
def zdl (g : Nat → Int32) (w k : Nat) : Int32 := zdv ((g (w + 3 + k / 8) >>> (nI (3 * (k % 8)) &&& 31)) &&& 7)
def zlv (l : Int32) : Int32 := if l ≤ 0 then 3 - l else l - 1
def zly (x : Int32) (s : Nat) (l : Int32) : Int32 := (x &&& ((7 <<< (nI s &&& 31)) ^^^ (-1))) ||| (zlv l <<< (nI s &&& 31))
/-- a row's 82 numbers laid into another -/
def zcp (f t : Nat → Int32) (p q : Nat) : Nat → Int32 := fun j => if q ≤ j ∧ j < q + 82 then f (p + (j - q)) else t j
theorem zdv_lt {v : Int32} (h : ∃ j : Nat, j < 8 ∧ v = nI j) : zLt (zdv v) := by
  obtain ⟨j, hj, rfl⟩ := h
  obtain rfl | rfl | rfl | rfl | rfl | rfl | rfl | rfl : j = 0 ∨ j = 1 ∨ j = 2 ∨ j = 3 ∨ j = 4 ∨ j = 5 ∨ j = 6 ∨ j = 7 := by omega
  all_goals (unfold zLt; decide +kernel)
theorem zdl_lt (g : Nat → Int32) (w k : Nat) : zLt (zdl g w k) := zdv_lt (pk_andE _ (m := 7) 3 (by decide +kernel))
theorem zbt (x v : BitVec 32) (s t : Nat) (hs : s < 8) (ht : t < 8) (hv : v.toNat < 8) : ((((x &&& ~~~(7#32 <<< (3 * s))) ||| (v <<< (3 * s))).sshiftRight (3 * t)) &&& 7#32) = if s = t then v else (x.sshiftRight (3 * t)) &&& 7#32 := by
  have hv3 : ∀ i, 3 ≤ i → v.getLsbD i = false := fun i hi => Nat.testBit_lt_two_pow (x := v.toNat) (i := i) (Nat.lt_of_lt_of_le hv (Nat.pow_le_pow_right (n := 2) (by omega) hi))
  have h7 : ∀ i, (7#32).getLsbD i = decide (i < 3) := fun i => by
    by_cases h : i < 3
    · obtain rfl | rfl | rfl : i = 0 ∨ i = 1 ∨ i = 2 := by omega
      all_goals decide
    · rw [decide_eq_false h]; exact Nat.testBit_lt_two_pow (x := (7#32).toNat) (i := i) (Nat.lt_of_lt_of_le (by decide : (7#32).toNat < 2 ^ 3) (Nat.pow_le_pow_right (n := 2) (by omega) (by omega)))
  refine BitVec.eq_of_getLsbD_eq fun i hi => ?_
  by_cases h3 : i < 3
  · have e1 : 3 * t + i < 32 := by omega
    have n32 : ¬ 32 ≤ i := by omega
    by_cases e : s = t
    · subst e
      rw [if_pos rfl, BitVec.getLsbD_and, h7, BitVec.getLsbD_sshiftRight, if_pos e1, BitVec.getLsbD_or, BitVec.getLsbD_and, BitVec.getLsbD_not, BitVec.getLsbD_shiftLeft, BitVec.getLsbD_shiftLeft, h7]
      simp [e1, h3, n32, show ¬ 3 * s + i < 3 * s by omega]
    · rw [if_neg e, BitVec.getLsbD_and, h7, BitVec.getLsbD_sshiftRight, if_pos e1, BitVec.getLsbD_or, BitVec.getLsbD_and, BitVec.getLsbD_not, BitVec.getLsbD_shiftLeft, BitVec.getLsbD_shiftLeft, h7, BitVec.getLsbD_and, h7, BitVec.getLsbD_sshiftRight, if_pos e1]
      by_cases g : 3 * t + i < 3 * s
      · simp [e1, h3, n32, g]
      · rw [hv3 _ (show 3 ≤ 3 * t + i - 3 * s by omega)]
        simp [e1, h3, n32, g, show ¬ 3 * t + i - 3 * s < 3 by omega]
  · rw [BitVec.getLsbD_and, h7, decide_eq_false h3, Bool.and_false]
    by_cases e : s = t
    · rw [if_pos e, hv3 i (by omega)]
    · rw [if_neg e, BitVec.getLsbD_and, h7, decide_eq_false h3, Bool.and_false]
theorem zlv_8 {l : Int32} (hl : zLt l) : (zlv l).toBitVec.toNat < 8 ∧ zdv (zlv l) = l := by
  rcases hl with rfl | rfl | rfl | rfl | rfl | rfl | rfl | rfl <;> decide +kernel
theorem zsh : ∀ s, s < 8 → ((nI (3 * s) &&& 31).toBitVec.smod 32).toNat = 3 * s := by decide +kernel
theorem zly_at (x : Int32) {l : Int32} (hl : zLt l) {s t : Nat} (hs : s < 8) (ht : t < 8) : ((zly x (3 * s) l >>> (nI (3 * t) &&& 31)) &&& 7) = if s = t then zlv l else ((x >>> (nI (3 * t) &&& 31)) &&& 7) := by
  have e1 : (zly x (3 * s) l).toBitVec = (x.toBitVec &&& ~~~(7#32 <<< (3 * s))) ||| ((zlv l).toBitVec <<< (3 * s)) := by
    unfold zly
    show (x.toBitVec &&& ((7#32 <<< ((nI (3 * s) &&& 31).toBitVec.smod 32).toNat) ^^^ (-1 : Int32).toBitVec)) ||| ((zlv l).toBitVec <<< ((nI (3 * s) &&& 31).toBitVec.smod 32).toNat) = _
    rw [zsh s hs, show (-1 : Int32).toBitVec = BitVec.allOnes 32 from by decide, BitVec.xor_allOnes]
  have key := zbt x.toBitVec (zlv l).toBitVec s t hs ht (zlv_8 hl).1
  apply Int32.toBitVec_inj.mp
  show ((zly x (3 * s) l).toBitVec.sshiftRight ((nI (3 * t) &&& 31).toBitVec.smod 32).toNat) &&& 7#32 = _
  rw [zsh t ht, e1, key]
  by_cases e : s = t
  · rw [if_pos e, if_pos e]
  · rw [if_neg e, if_neg e]
    show _ = (x.toBitVec.sshiftRight ((nI (3 * t) &&& 31).toBitVec.smod 32).toNat) &&& 7#32
    rw [zsh t ht]
/-- a letter is laid -/
def zlg (g : Nat → Int32) (w k : Nat) (l : Int32) : Nat → Int32 := upd g (w + 3 + k / 8) (zly (g (w + 3 + k / 8)) (3 * (k % 8)) l)
theorem zlg_at (g : Nat → Int32) (w k : Nat) {l : Int32} (hl : zLt l) : zdl (zlg g w k l) w k = l := by
  unfold zdl zlg
  rw [upd_at, zly_at _ hl (Nat.mod_lt _ (by omega)) (Nat.mod_lt _ (by omega)), if_pos rfl]
  exact (zlv_8 hl).2
theorem zlg_ne (g : Nat → Int32) (w : Nat) {k j : Nat} {l : Int32} (hl : zLt l) (h : j ≠ k) : zdl (zlg g w k l) w j = zdl g w j := by
  unfold zdl zlg
  by_cases e : j / 8 = k / 8
  · rw [e, upd_at, zly_at _ hl (Nat.mod_lt _ (by omega)) (Nat.mod_lt _ (by omega)), if_neg (by omega)]
  · rw [upd_ne _ _ (by omega)]
theorem zlg_o (g : Nat → Int32) (w k : Nat) (l : Int32) {q : Nat} (h : q ≠ w + 3 + k / 8) : zlg g w k l q = g q := upd_ne _ _ h
theorem zdl_cg {g g1 : Nat → Int32} {w k : Nat} (h : g1 (w + 3 + k / 8) = g (w + 3 + k / 8)) : zdl g1 w k = zdl g w k := by unfold zdl; rw [h]
