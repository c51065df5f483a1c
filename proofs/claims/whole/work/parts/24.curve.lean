/-! coordinates -/
def lI (a : Int) : Int64 := Int64.ofInt a
def z64 (w : Nat → Int) : Nat → Int64 := fun k => lI (w k)
def zuI (w : Nat → Int) (k : Nat) (x : Int) : Nat → Int := fun j => if j = k then x else w j
theorem lI_add (a b : Int) : lI a + lI b = lI (a + b) := (Int64.ofInt_add a b).symm
theorem lI_sub (a b : Int) : lI a - lI b = lI (a - b) := (Int64.ofInt_sub a b).symm
theorem lI_mul (a b : Int) : lI a * lI b = lI (a * b) := (Int64.ofInt_mul a b).symm
theorem lI_to {a : Int} (h : -9223372036854775808 ≤ a ∧ a < 9223372036854775808) : (lI a).toInt = a := Int64.toInt_ofInt_of_le h.1 h.2
theorem lI_lt {a b : Int} (ha : -9223372036854775808 ≤ a ∧ a < 9223372036854775808) (hb : -9223372036854775808 ≤ b ∧ b < 9223372036854775808) : lI a < lI b ↔ a < b := by
  rw [Int64.lt_iff_toInt_lt, lI_to ha, lI_to hb]
theorem lI_eq {a b : Int} (ha : -9223372036854775808 ≤ a ∧ a < 9223372036854775808) (hb : -9223372036854775808 ≤ b ∧ b < 9223372036854775808) : lI a = lI b ↔ a = b := by
  rw [← Int64.toInt_inj, lI_to ha, lI_to hb]
theorem lI_max {a b : Int} (ha : -9223372036854775808 ≤ a ∧ a < 9223372036854775808) (hb : -9223372036854775808 ≤ b ∧ b < 9223372036854775808) : (if lI b < lI a then lI a else lI b) = lI (max a b) := by
  by_cases h : b < a
  · rw [if_pos ((lI_lt hb ha).mpr h), Int.max_eq_left (by omega)]
  · rw [if_neg (fun q => h ((lI_lt hb ha).mp q)), Int.max_eq_right (by omega)]
theorem lI_min {a b : Int} (ha : -9223372036854775808 ≤ a ∧ a < 9223372036854775808) (hb : -9223372036854775808 ≤ b ∧ b < 9223372036854775808) : (if lI b < lI a then lI b else lI a) = lI (min a b) := by
  by_cases h : b < a
  · rw [if_pos ((lI_lt hb ha).mpr h), Int.min_eq_right (by omega)]
  · rw [if_neg (fun q => h ((lI_lt hb ha).mp q)), Int.min_eq_left (by omega)]
theorem z64_upd (w : Nat → Int) (k : Nat) (x : Int) : vp_updL (z64 w) k (lI x) = z64 (zuI w k x) := by
  funext j
  simp only [vp_updL, z64, zuI]
  split <;> rfl
def sz (x y u v : Int) : Int := x - min y 0 - u + max v 0
def sX (x y u v : Int) : Int := x + (max y 0 + max (max v 0 - sz x y u v) 0)
def sY (x y u v : Int) : Int := v - max (sz x y u v) 0
def sU (x y u v : Int) : Int := u + (min v 0 + min (min y 0 + sz x y u v) 0)
def sV (x y u v : Int) : Int := y + max (sz x y u v) 0
def zst (s : Int) (j : Nat) (w : Nat → Int) : Nat → Int :=
  zuI (zuI (zuI (zuI w (2 * (j - 1)) (s * sX (s * w (2 * (j - 1))) (w (2 * (j - 1) + 1)) (s * w (2 * (j - 1) + 2)) (w (2 * (j - 1) + 3)))) (2 * (j - 1) + 1) (sY (s * w (2 * (j - 1))) (w (2 * (j - 1) + 1)) (s * w (2 * (j - 1) + 2)) (w (2 * (j - 1) + 3)))) (2 * (j - 1) + 2) (s * sU (s * w (2 * (j - 1))) (w (2 * (j - 1) + 1)) (s * w (2 * (j - 1) + 2)) (w (2 * (j - 1) + 3)))) (2 * (j - 1) + 3) (sV (s * w (2 * (j - 1))) (w (2 * (j - 1) + 1)) (s * w (2 * (j - 1) + 2)) (w (2 * (j - 1) + 3)))
def z0 : Nat → Int := fun k => k % 2
/-- one letter -/
def zsl (l : Int32) (w : Nat → Int) : Nat → Int := zst (if l < 0 then -1 else 1) (zix l).toNatClampNeg w
def zcv (w : Nat → Int) : List Int32 → Nat → Int
  | [] => w
  | l :: L => zcv (zsl l w) L
def zBd (B : Int) (w : Nat → Int) : Prop := ∀ k, k < 10 → -B ≤ w k ∧ w k ≤ B
/-- alike in the ten places -/
def zSm (w w1 : Nat → Int) : Prop := ∀ k, k < 10 → w k = w1 k
theorem zSm.rf {w : Nat → Int} : zSm w w := fun _ _ => rfl
theorem zSm.tr {a b c : Nat → Int} (h : zSm a b) (h2 : zSm b c) : zSm a c := fun k hk => (h k hk).trans (h2 k hk)
theorem zst_sm {s : Int} {j : Nat} {w w1 : Nat → Int} (h : zSm w w1) (hj : 1 ≤ j ∧ j ≤ 4) : zSm (zst s j w) (zst s j w1) := by
  intro k hk
  simp only [zst, zuI]
  rw [h (2 * (j - 1)) (by omega), h (2 * (j - 1) + 1) (by omega), h (2 * (j - 1) + 2) (by omega), h (2 * (j - 1) + 3) (by omega), h k hk]
theorem zSl_head {f : Nat → Int32} : ∀ {n i : Nat}, 0 < n → zSl f i n = f i :: zSl f (i + 1) (n - 1)
  | 0, i, h => absurd h (Nat.lt_irrefl 0)
  | 1, i, _ => rfl
  | n + 2, i, _ => by
    rw [zSl, zSl_head (n := n + 1) (by omega), show n + 2 - 1 = n + 1 from rfl, zSl, show n + 1 - 1 = n from rfl, List.cons_append, show i + (n + 1) = i + 1 + n from by omega]
theorem zP_split (f : Nat → Int32) {i n : Nat} (h : i < n) : zP f n = zP f i ++ f i :: zSl f (i + 1) (n - (i + 1)) := by
  rw [← zP_take f (n := n) (a := i) (by omega), ← show zSl f i (n - i) = f i :: zSl f (i + 1) (n - (i + 1)) from by rw [zSl_head (by omega), show n - i - 1 = n - (i + 1) from by omega], ← zP_drop f (by omega), List.take_append_drop]
theorem zcv_app (w : Nat → Int) (L M : List Int32) : zcv w (L ++ M) = zcv (zcv w L) M := by
  induction L generalizing w with
  | nil => rfl
  | cons l L ih => exact ih _
theorem zLt_ix {l : Int32} (h : zLt l) : ∃ j, 1 ≤ j ∧ j ≤ 4 ∧ zix l = nI j ∧ (zix l).toNatClampNeg = j := by
  rcases h with rfl | rfl | rfl | rfl | rfl | rfl | rfl | rfl
  · exact ⟨1, by decide, by decide, by decide +kernel, by decide +kernel⟩
  · exact ⟨2, by decide, by decide, by decide +kernel, by decide +kernel⟩
  · exact ⟨3, by decide, by decide, by decide +kernel, by decide +kernel⟩
  · exact ⟨4, by decide, by decide, by decide +kernel, by decide +kernel⟩
  · exact ⟨1, by decide, by decide, by decide +kernel, by decide +kernel⟩
  · exact ⟨2, by decide, by decide, by decide +kernel, by decide +kernel⟩
  · exact ⟨3, by decide, by decide, by decide +kernel, by decide +kernel⟩
  · exact ⟨4, by decide, by decide, by decide +kernel, by decide +kernel⟩
theorem zLt_sg {l : Int32} (h : zLt l) : (l < 0 ∧ zsg l.toInt64 = -1) ∨ (¬ l < 0 ∧ zsg l.toInt64 = 1) := by
  rcases h with rfl | rfl | rfl | rfl | rfl | rfl | rfl | rfl <;> decide +kernel
theorem zsl_sm {l : Int32} {w w1 : Nat → Int} (h : zSm w w1) (hl : zLt l) : zSm (zsl l w) (zsl l w1) := by
  obtain ⟨j, h1, h2, -, h3⟩ := zLt_ix hl
  unfold zsl
  exact zst_sm h (by rw [h3]; exact ⟨h1, h2⟩)
theorem zcv_sm {L : List Int32} : ∀ {w w1 : Nat → Int}, zSm w w1 → (∀ l ∈ L, zLt l) → zSm (zcv w L) (zcv w1 L) := by
  induction L with
  | nil => intro w w1 h _; exact h
  | cons l L ih => intro w w1 h hl; exact ih (zsl_sm h (hl l List.mem_cons_self)) (fun y hy => hl y (List.mem_cons_of_mem _ hy))

set_option maxHeartbeats 400000 in
set_option maxRecDepth 100000 in
theorem qX2_followP {X : zX} (hX : X.1.stackTraces = false) {σ : zS} {v a : Nat} {w : Nat → Int} {l : Int32} {j : Nat} (hva : v ≠ a) (h0 : σ.1 v = .inr (0, [.ref a])) (h1 : σ.1 a = .inl (3, 10, .inr (.inl (z64 w)))) (hb : zBd 1152921504606846976 w) (hj : zix l = nI j) (h1j : 1 ≤ j) (hj4 : j ≤ 4) (hs : zsg l.toInt64 = 1) : zMet X mX2_follow yX2_follow 2 0 0 [.ref v, .int l] σ (zV (fun s => zFr σ s (fun q => q = a) ∧ s.1 a = .inl (3, 10, .inr (.inl (z64 (zst 1 j w)))))) := by
  refine zMet_of (ls := [some (.ref v), some (.int l), none, none, none, none, none, none, none, none, none, none, none, none]) rfl (by decide +kernel) rfl (fun h => by cases h) hX (Nat.le_of_ble_eq_true rfl) rfl ?_
  have hx := hb (2 * (j - 1)) (by omega)
  have hy := hb (2 * (j - 1) + 1) (by omega)
  have hu := hb (2 * (j - 1) + 2) (by omega)
  have hv := hb (2 * (j - 1) + 3) (by omega)
  refine zr_iconst (v := 2) dX2_follow_0 (by decide) ?_
  refine zr_iload_n dX2_follow_1 rfl ?_
  refine zr_pSi [.int 2] dX2_follow_2 vX2_36 (qX9_indexOf hX σ (l)) (by decide) (by decide) (by decide) rfl rfl (Nat.le_of_ble_eq_true rfl) rfl ?_
  refine zr_eqi (x' := nI j) (hj) ?_
  refine zr_iconst (v := 1) dX2_follow_5 (by decide) ?_
  refine zr_isub dX2_follow_6 ?_
  refine zr_eqi (x' := nI (j - 1)) (pk_sub (a := j) (b := 1) (by omega)) ?_
  refine zr_imul dX2_follow_7 ?_
  refine zr_eqi (x' := nI (2 * (j - 1))) (pk_mul 2 (j - 1)) ?_
  refine zr_istore_n (ls' := [some (.ref v), some (.int l), some (.int (nI (2 * (j - 1)))), none, none, none, none, none, none, none, none, none, none, none]) dX2_follow_8 rfl (by decide) rfl ?_
  refine zr_iload_n dX2_follow_9 rfl ?_
  refine zr_if_lt (tgt := 21) dX2_follow_10 (by decide) (fun c_10 => absurd c_10 (fun h => absurd ((nI_ltI (a := 2 * (j - 1)) (b := 0) (by omega) (by omega)).mp h) (by omega))) (fun c_10 => ?_)
  refine zr_iload_n dX2_follow_13 rfl ?_
  refine zr_iconst (v := 3) dX2_follow_14 (by decide) ?_
  refine zr_iadd dX2_follow_15 ?_
  refine zr_eqi (x' := nI ((2 * (j - 1)) + 3)) (nI_add (2 * (j - 1)) 3) ?_
  refine zr_bipush (v := 10) dX2_follow_16 (by decide) ?_
  refine zr_icmp_lt (tgt := 22) dX2_follow_18 (by decide) (fun c_18 => ?_) (fun c_18 => absurd ((nI_ltI (a := (2 * (j - 1)) + 3) (b := 10) (by omega) (by omega)).mpr (by omega)) c_18)
  refine zr_iload_n dX2_follow_22 rfl ?_
  refine zr_i2l dX2_follow_23 ?_
  refine zr_pSi [] dX2_follow_24 vX2_32 (qX9_signOf hX σ ((l).toInt64)) (by decide) (by decide) (by decide) rfl rfl (Nat.le_of_ble_eq_true rfl) rfl ?_
  refine zr_eqi (x' := 1) (hs) ?_
  refine zr_istore_n (ls' := [some (.ref v), some (.int l), some (.int (nI (2 * (j - 1)))), some (.int 1), none, none, none, none, none, none, none, none, none, none]) dX2_follow_27 rfl (by decide) rfl ?_
  refine zr_iload_n dX2_follow_28 rfl ?_
  refine zr_i2l dX2_follow_29 ?_
  refine zr_eql (x' := lI 1) (by decide +kernel) ?_
  refine zr_aload_n dX2_follow_30 rfl ?_
  refine zr_getfield dX2_follow_31 fX2_9 h0 rfl (by decide) ?_
  refine zr_iload_n dX2_follow_34 rfl ?_
  refine zr_laload dX2_follow_35 h1 (vp_in_nI (n := 2 * (j - 1)) (by omega) (by omega)) ?_
  rw [nI_clamp (n := 2 * (j - 1)) (by omega)]
  refine zr_eql (x' := lI (w (2 * (j - 1)))) rfl ?_
  refine zr_lmul dX2_follow_36 ?_
  refine zr_eql (x' := lI (1 * (w (2 * (j - 1))))) (lI_mul _ _) ?_
  refine zr_lstore (ls' := [some (.ref v), some (.int l), some (.int (nI (2 * (j - 1)))), some (.int 1), some (.long (lI (1 * (w (2 * (j - 1)))))), none, none, none, none, none, none, none, none, none]) dX2_follow_37 (by decide) rfl ?_
  refine zr_aload_n dX2_follow_39 rfl ?_
  refine zr_getfield dX2_follow_40 fX2_9 h0 rfl (by decide) ?_
  refine zr_iload_n dX2_follow_43 rfl ?_
  refine zr_iconst (v := 1) dX2_follow_44 (by decide) ?_
  refine zr_iadd dX2_follow_45 ?_
  refine zr_eqi (x' := nI ((2 * (j - 1)) + 1)) (nI_add (2 * (j - 1)) 1) ?_
  refine zr_laload dX2_follow_46 h1 (vp_in_nI (n := (2 * (j - 1)) + 1) (by omega) (by omega)) ?_
  rw [nI_clamp (n := (2 * (j - 1)) + 1) (by omega)]
  refine zr_eql (x' := lI (w ((2 * (j - 1)) + 1))) rfl ?_
  refine zr_lstore (ls' := [some (.ref v), some (.int l), some (.int (nI (2 * (j - 1)))), some (.int 1), some (.long (lI (1 * (w (2 * (j - 1)))))), none, some (.long (lI (w ((2 * (j - 1)) + 1)))), none, none, none, none, none, none, none]) dX2_follow_47 (by decide) rfl ?_
  refine zr_iload_n dX2_follow_49 rfl ?_
  refine zr_i2l dX2_follow_50 ?_
  refine zr_eql (x' := lI 1) (by decide +kernel) ?_
  refine zr_aload_n dX2_follow_51 rfl ?_
  refine zr_getfield dX2_follow_52 fX2_9 h0 rfl (by decide) ?_
  refine zr_iload_n dX2_follow_55 rfl ?_
  refine zr_iconst (v := 2) dX2_follow_56 (by decide) ?_
  refine zr_iadd dX2_follow_57 ?_
  refine zr_eqi (x' := nI ((2 * (j - 1)) + 2)) (nI_add (2 * (j - 1)) 2) ?_
  refine zr_laload dX2_follow_58 h1 (vp_in_nI (n := (2 * (j - 1)) + 2) (by omega) (by omega)) ?_
  rw [nI_clamp (n := (2 * (j - 1)) + 2) (by omega)]
  refine zr_eql (x' := lI (w ((2 * (j - 1)) + 2))) rfl ?_
  refine zr_lmul dX2_follow_59 ?_
  refine zr_eql (x' := lI (1 * (w ((2 * (j - 1)) + 2)))) (lI_mul _ _) ?_
  refine zr_lstore (ls' := [some (.ref v), some (.int l), some (.int (nI (2 * (j - 1)))), some (.int 1), some (.long (lI (1 * (w (2 * (j - 1)))))), none, some (.long (lI (w ((2 * (j - 1)) + 1)))), none, some (.long (lI (1 * (w ((2 * (j - 1)) + 2))))), none, none, none, none, none]) dX2_follow_60 (by decide) rfl ?_
  refine zr_aload_n dX2_follow_62 rfl ?_
  refine zr_getfield dX2_follow_63 fX2_9 h0 rfl (by decide) ?_
  refine zr_iload_n dX2_follow_66 rfl ?_
  refine zr_iconst (v := 3) dX2_follow_67 (by decide) ?_
  refine zr_iadd dX2_follow_68 ?_
  refine zr_eqi (x' := nI ((2 * (j - 1)) + 3)) (nI_add (2 * (j - 1)) 3) ?_
  refine zr_laload dX2_follow_69 h1 (vp_in_nI (n := (2 * (j - 1)) + 3) (by omega) (by omega)) ?_
  rw [nI_clamp (n := (2 * (j - 1)) + 3) (by omega)]
  refine zr_eql (x' := lI (w ((2 * (j - 1)) + 3))) rfl ?_
  refine zr_lstore (ls' := [some (.ref v), some (.int l), some (.int (nI (2 * (j - 1)))), some (.int 1), some (.long (lI (1 * (w (2 * (j - 1)))))), none, some (.long (lI (w ((2 * (j - 1)) + 1)))), none, some (.long (lI (1 * (w ((2 * (j - 1)) + 2))))), none, some (.long (lI (w ((2 * (j - 1)) + 3)))), none, none, none]) dX2_follow_70 (by decide) rfl ?_
  refine zr_lload dX2_follow_72 rfl ?_
  refine zr_lload dX2_follow_74 rfl ?_
  refine zr_lconst (v := lI 0) dX2_follow_76 (by decide) ?_
  refine zr_mminl dX2_follow_77 mlX2_40 (by omega) (Nat.le_of_ble_eq_true rfl) ?_
  refine zr_eql (x' := lI (min (w ((2 * (j - 1)) + 1)) 0)) (lI_min (by omega) (by omega)) ?_
  refine zr_lsub dX2_follow_80 ?_
  refine zr_eql (x' := lI ((1 * (w (2 * (j - 1)))) - (min (w ((2 * (j - 1)) + 1)) 0))) (lI_sub _ _) ?_
  refine zr_lload dX2_follow_81 rfl ?_
  refine zr_lsub dX2_follow_83 ?_
  refine zr_eql (x' := lI (((1 * (w (2 * (j - 1)))) - (min (w ((2 * (j - 1)) + 1)) 0)) - (1 * (w ((2 * (j - 1)) + 2))))) (lI_sub _ _) ?_
  refine zr_lload dX2_follow_84 rfl ?_
  refine zr_lconst (v := lI 0) dX2_follow_86 (by decide) ?_
  refine zr_mmaxl dX2_follow_87 mlX2_46 (by omega) (Nat.le_of_ble_eq_true rfl) ?_
  refine zr_eql (x' := lI (max (w ((2 * (j - 1)) + 3)) 0)) (lI_max (by omega) (by omega)) ?_
  refine zr_ladd dX2_follow_90 ?_
  refine zr_eql (x' := lI ((((1 * (w (2 * (j - 1)))) - (min (w ((2 * (j - 1)) + 1)) 0)) - (1 * (w ((2 * (j - 1)) + 2)))) + (max (w ((2 * (j - 1)) + 3)) 0))) (lI_add _ _) ?_
  refine zr_lstore (ls' := [some (.ref v), some (.int l), some (.int (nI (2 * (j - 1)))), some (.int 1), some (.long (lI (1 * (w (2 * (j - 1)))))), none, some (.long (lI (w ((2 * (j - 1)) + 1)))), none, some (.long (lI (1 * (w ((2 * (j - 1)) + 2))))), none, some (.long (lI (w ((2 * (j - 1)) + 3)))), none, some (.long (lI ((((1 * (w (2 * (j - 1)))) - (min (w ((2 * (j - 1)) + 1)) 0)) - (1 * (w ((2 * (j - 1)) + 2)))) + (max (w ((2 * (j - 1)) + 3)) 0)))), none]) dX2_follow_91 (by decide) rfl ?_
  refine zr_lload dX2_follow_93 rfl ?_
  refine zr_lload dX2_follow_95 rfl ?_
  refine zr_lconst (v := lI 0) dX2_follow_97 (by decide) ?_
  refine zr_mmaxl dX2_follow_98 mlX2_46 (by omega) (Nat.le_of_ble_eq_true rfl) ?_
  refine zr_eql (x' := lI (max (w ((2 * (j - 1)) + 1)) 0)) (lI_max (by omega) (by omega)) ?_
  refine zr_lload dX2_follow_101 rfl ?_
  refine zr_lconst (v := lI 0) dX2_follow_103 (by decide) ?_
  refine zr_mmaxl dX2_follow_104 mlX2_46 (by omega) (Nat.le_of_ble_eq_true rfl) ?_
  refine zr_eql (x' := lI (max (w ((2 * (j - 1)) + 3)) 0)) (lI_max (by omega) (by omega)) ?_
  refine zr_lload dX2_follow_107 rfl ?_
  refine zr_lsub dX2_follow_109 ?_
  refine zr_eql (x' := lI ((max (w ((2 * (j - 1)) + 3)) 0) - ((((1 * (w (2 * (j - 1)))) - (min (w ((2 * (j - 1)) + 1)) 0)) - (1 * (w ((2 * (j - 1)) + 2)))) + (max (w ((2 * (j - 1)) + 3)) 0)))) (lI_sub _ _) ?_
  refine zr_lconst (v := lI 0) dX2_follow_110 (by decide) ?_
  refine zr_mmaxl dX2_follow_111 mlX2_46 (by omega) (Nat.le_of_ble_eq_true rfl) ?_
  refine zr_eql (x' := lI (max ((max (w ((2 * (j - 1)) + 3)) 0) - ((((1 * (w (2 * (j - 1)))) - (min (w ((2 * (j - 1)) + 1)) 0)) - (1 * (w ((2 * (j - 1)) + 2)))) + (max (w ((2 * (j - 1)) + 3)) 0))) 0)) (lI_max (by omega) (by omega)) ?_
  refine zr_ladd dX2_follow_114 ?_
  refine zr_eql (x' := lI ((max (w ((2 * (j - 1)) + 1)) 0) + (max ((max (w ((2 * (j - 1)) + 3)) 0) - ((((1 * (w (2 * (j - 1)))) - (min (w ((2 * (j - 1)) + 1)) 0)) - (1 * (w ((2 * (j - 1)) + 2)))) + (max (w ((2 * (j - 1)) + 3)) 0))) 0))) (lI_add _ _) ?_
  refine zr_ladd dX2_follow_115 ?_
  refine zr_eql (x' := lI ((1 * (w (2 * (j - 1)))) + ((max (w ((2 * (j - 1)) + 1)) 0) + (max ((max (w ((2 * (j - 1)) + 3)) 0) - ((((1 * (w (2 * (j - 1)))) - (min (w ((2 * (j - 1)) + 1)) 0)) - (1 * (w ((2 * (j - 1)) + 2)))) + (max (w ((2 * (j - 1)) + 3)) 0))) 0)))) (lI_add _ _) ?_
  refine zr_lstore (ls' := [some (.ref v), some (.int l), some (.int (nI (2 * (j - 1)))), some (.int 1), some (.long (lI ((1 * (w (2 * (j - 1)))) + ((max (w ((2 * (j - 1)) + 1)) 0) + (max ((max (w ((2 * (j - 1)) + 3)) 0) - ((((1 * (w (2 * (j - 1)))) - (min (w ((2 * (j - 1)) + 1)) 0)) - (1 * (w ((2 * (j - 1)) + 2)))) + (max (w ((2 * (j - 1)) + 3)) 0))) 0))))), none, some (.long (lI (w ((2 * (j - 1)) + 1)))), none, some (.long (lI (1 * (w ((2 * (j - 1)) + 2))))), none, some (.long (lI (w ((2 * (j - 1)) + 3)))), none, some (.long (lI ((((1 * (w (2 * (j - 1)))) - (min (w ((2 * (j - 1)) + 1)) 0)) - (1 * (w ((2 * (j - 1)) + 2)))) + (max (w ((2 * (j - 1)) + 3)) 0)))), none]) dX2_follow_116 (by decide) rfl ?_
  refine zr_lload dX2_follow_118 rfl ?_
  refine zr_lload dX2_follow_120 rfl ?_
  refine zr_lconst (v := lI 0) dX2_follow_122 (by decide) ?_
  refine zr_mminl dX2_follow_123 mlX2_40 (by omega) (Nat.le_of_ble_eq_true rfl) ?_
  refine zr_eql (x' := lI (min (w ((2 * (j - 1)) + 3)) 0)) (lI_min (by omega) (by omega)) ?_
  refine zr_lload dX2_follow_126 rfl ?_
  refine zr_lconst (v := lI 0) dX2_follow_128 (by decide) ?_
  refine zr_mminl dX2_follow_129 mlX2_40 (by omega) (Nat.le_of_ble_eq_true rfl) ?_
  refine zr_eql (x' := lI (min (w ((2 * (j - 1)) + 1)) 0)) (lI_min (by omega) (by omega)) ?_
  refine zr_lload dX2_follow_132 rfl ?_
  refine zr_ladd dX2_follow_134 ?_
  refine zr_eql (x' := lI ((min (w ((2 * (j - 1)) + 1)) 0) + ((((1 * (w (2 * (j - 1)))) - (min (w ((2 * (j - 1)) + 1)) 0)) - (1 * (w ((2 * (j - 1)) + 2)))) + (max (w ((2 * (j - 1)) + 3)) 0)))) (lI_add _ _) ?_
  refine zr_lconst (v := lI 0) dX2_follow_135 (by decide) ?_
  refine zr_mminl dX2_follow_136 mlX2_40 (by omega) (Nat.le_of_ble_eq_true rfl) ?_
  refine zr_eql (x' := lI (min ((min (w ((2 * (j - 1)) + 1)) 0) + ((((1 * (w (2 * (j - 1)))) - (min (w ((2 * (j - 1)) + 1)) 0)) - (1 * (w ((2 * (j - 1)) + 2)))) + (max (w ((2 * (j - 1)) + 3)) 0))) 0)) (lI_min (by omega) (by omega)) ?_
  refine zr_ladd dX2_follow_139 ?_
  refine zr_eql (x' := lI ((min (w ((2 * (j - 1)) + 3)) 0) + (min ((min (w ((2 * (j - 1)) + 1)) 0) + ((((1 * (w (2 * (j - 1)))) - (min (w ((2 * (j - 1)) + 1)) 0)) - (1 * (w ((2 * (j - 1)) + 2)))) + (max (w ((2 * (j - 1)) + 3)) 0))) 0))) (lI_add _ _) ?_
  refine zr_ladd dX2_follow_140 ?_
  refine zr_eql (x' := lI ((1 * (w ((2 * (j - 1)) + 2))) + ((min (w ((2 * (j - 1)) + 3)) 0) + (min ((min (w ((2 * (j - 1)) + 1)) 0) + ((((1 * (w (2 * (j - 1)))) - (min (w ((2 * (j - 1)) + 1)) 0)) - (1 * (w ((2 * (j - 1)) + 2)))) + (max (w ((2 * (j - 1)) + 3)) 0))) 0)))) (lI_add _ _) ?_
  refine zr_lstore (ls' := [some (.ref v), some (.int l), some (.int (nI (2 * (j - 1)))), some (.int 1), some (.long (lI ((1 * (w (2 * (j - 1)))) + ((max (w ((2 * (j - 1)) + 1)) 0) + (max ((max (w ((2 * (j - 1)) + 3)) 0) - ((((1 * (w (2 * (j - 1)))) - (min (w ((2 * (j - 1)) + 1)) 0)) - (1 * (w ((2 * (j - 1)) + 2)))) + (max (w ((2 * (j - 1)) + 3)) 0))) 0))))), none, some (.long (lI (w ((2 * (j - 1)) + 1)))), none, some (.long (lI ((1 * (w ((2 * (j - 1)) + 2))) + ((min (w ((2 * (j - 1)) + 3)) 0) + (min ((min (w ((2 * (j - 1)) + 1)) 0) + ((((1 * (w (2 * (j - 1)))) - (min (w ((2 * (j - 1)) + 1)) 0)) - (1 * (w ((2 * (j - 1)) + 2)))) + (max (w ((2 * (j - 1)) + 3)) 0))) 0))))), none, some (.long (lI (w ((2 * (j - 1)) + 3)))), none, some (.long (lI ((((1 * (w (2 * (j - 1)))) - (min (w ((2 * (j - 1)) + 1)) 0)) - (1 * (w ((2 * (j - 1)) + 2)))) + (max (w ((2 * (j - 1)) + 3)) 0)))), none]) dX2_follow_141 (by decide) rfl ?_
  refine zr_aload_n dX2_follow_143 rfl ?_
  refine zr_getfield dX2_follow_144 fX2_9 h0 rfl (by decide) ?_
  refine zr_iload_n dX2_follow_147 rfl ?_
  refine zr_iload_n dX2_follow_148 rfl ?_
  refine zr_i2l dX2_follow_149 ?_
  refine zr_eql (x' := lI 1) (by decide +kernel) ?_
  refine zr_lload dX2_follow_150 rfl ?_
  refine zr_lmul dX2_follow_152 ?_
  refine zr_eql (x' := lI (1 * ((1 * (w (2 * (j - 1)))) + ((max (w ((2 * (j - 1)) + 1)) 0) + (max ((max (w ((2 * (j - 1)) + 3)) 0) - ((((1 * (w (2 * (j - 1)))) - (min (w ((2 * (j - 1)) + 1)) 0)) - (1 * (w ((2 * (j - 1)) + 2)))) + (max (w ((2 * (j - 1)) + 3)) 0))) 0))))) (lI_mul _ _) ?_
  refine zr_lastore dX2_follow_153 h1 (vp_in_nI (n := 2 * (j - 1)) (by omega) (by omega)) ?_
  rw [nI_clamp (n := 2 * (j - 1)) (by omega)]
  rw [z64_upd]
  refine zr_sig (fun ks1 e_ks1 => ?_)
  have kh2 : ks1.1 v = .inr (0, [.ref a]) := by rw [e_ks1, zup_ne _ _ (by omega)]; exact h0
  have kh3 : ks1.1 a = .inl (3, 10, .inr (.inl (z64 (zuI w (2 * (j - 1)) (1 * ((1 * (w (2 * (j - 1)))) + ((max (w ((2 * (j - 1)) + 1)) 0) + (max ((max (w ((2 * (j - 1)) + 3)) 0) - ((((1 * (w (2 * (j - 1)))) - (min (w ((2 * (j - 1)) + 1)) 0)) - (1 * (w ((2 * (j - 1)) + 2)))) + (max (w ((2 * (j - 1)) + 3)) 0))) 0)))))))) := by rw [e_ks1]; exact zup_at _ _ _
  have kF4 := zFr.put zFr.rf (P := fun q => q = a) e_ks1 (by first | omega | simp)
  refine zr_aload_n dX2_follow_154 rfl ?_
  refine zr_getfield dX2_follow_155 fX2_9 kh2 rfl (by decide) ?_
  refine zr_iload_n dX2_follow_158 rfl ?_
  refine zr_iconst (v := 1) dX2_follow_159 (by decide) ?_
  refine zr_iadd dX2_follow_160 ?_
  refine zr_eqi (x' := nI ((2 * (j - 1)) + 1)) (nI_add (2 * (j - 1)) 1) ?_
  refine zr_lload dX2_follow_161 rfl ?_
  refine zr_lload dX2_follow_163 rfl ?_
  refine zr_lconst (v := lI 0) dX2_follow_165 (by decide) ?_
  refine zr_mmaxl dX2_follow_166 mlX2_46 (by omega) (Nat.le_of_ble_eq_true rfl) ?_
  refine zr_eql (x' := lI (max ((((1 * (w (2 * (j - 1)))) - (min (w ((2 * (j - 1)) + 1)) 0)) - (1 * (w ((2 * (j - 1)) + 2)))) + (max (w ((2 * (j - 1)) + 3)) 0)) 0)) (lI_max (by omega) (by omega)) ?_
  refine zr_lsub dX2_follow_169 ?_
  refine zr_eql (x' := lI ((w ((2 * (j - 1)) + 3)) - (max ((((1 * (w (2 * (j - 1)))) - (min (w ((2 * (j - 1)) + 1)) 0)) - (1 * (w ((2 * (j - 1)) + 2)))) + (max (w ((2 * (j - 1)) + 3)) 0)) 0))) (lI_sub _ _) ?_
  refine zr_lastore dX2_follow_170 kh3 (vp_in_nI (n := (2 * (j - 1)) + 1) (by omega) (by omega)) ?_
  rw [nI_clamp (n := (2 * (j - 1)) + 1) (by omega)]
  rw [z64_upd]
  refine zr_sig (fun ks5 e_ks5 => ?_)
  have kh6 : ks5.1 v = .inr (0, [.ref a]) := by rw [e_ks5, zup_ne _ _ (by omega)]; exact kh2
  have kh7 : ks5.1 a = .inl (3, 10, .inr (.inl (z64 (zuI (zuI w (2 * (j - 1)) (1 * ((1 * (w (2 * (j - 1)))) + ((max (w ((2 * (j - 1)) + 1)) 0) + (max ((max (w ((2 * (j - 1)) + 3)) 0) - ((((1 * (w (2 * (j - 1)))) - (min (w ((2 * (j - 1)) + 1)) 0)) - (1 * (w ((2 * (j - 1)) + 2)))) + (max (w ((2 * (j - 1)) + 3)) 0))) 0))))) ((2 * (j - 1)) + 1) ((w ((2 * (j - 1)) + 3)) - (max ((((1 * (w (2 * (j - 1)))) - (min (w ((2 * (j - 1)) + 1)) 0)) - (1 * (w ((2 * (j - 1)) + 2)))) + (max (w ((2 * (j - 1)) + 3)) 0)) 0)))))) := by rw [e_ks5]; exact zup_at _ _ _
  have kF8 := zFr.put kF4 e_ks5 (by first | omega | simp)
  refine zr_aload_n dX2_follow_171 rfl ?_
  refine zr_getfield dX2_follow_172 fX2_9 kh6 rfl (by decide) ?_
  refine zr_iload_n dX2_follow_175 rfl ?_
  refine zr_iconst (v := 2) dX2_follow_176 (by decide) ?_
  refine zr_iadd dX2_follow_177 ?_
  refine zr_eqi (x' := nI ((2 * (j - 1)) + 2)) (nI_add (2 * (j - 1)) 2) ?_
  refine zr_iload_n dX2_follow_178 rfl ?_
  refine zr_i2l dX2_follow_179 ?_
  refine zr_eql (x' := lI 1) (by decide +kernel) ?_
  refine zr_lload dX2_follow_180 rfl ?_
  refine zr_lmul dX2_follow_182 ?_
  refine zr_eql (x' := lI (1 * ((1 * (w ((2 * (j - 1)) + 2))) + ((min (w ((2 * (j - 1)) + 3)) 0) + (min ((min (w ((2 * (j - 1)) + 1)) 0) + ((((1 * (w (2 * (j - 1)))) - (min (w ((2 * (j - 1)) + 1)) 0)) - (1 * (w ((2 * (j - 1)) + 2)))) + (max (w ((2 * (j - 1)) + 3)) 0))) 0))))) (lI_mul _ _) ?_
  refine zr_lastore dX2_follow_183 kh7 (vp_in_nI (n := (2 * (j - 1)) + 2) (by omega) (by omega)) ?_
  rw [nI_clamp (n := (2 * (j - 1)) + 2) (by omega)]
  rw [z64_upd]
  refine zr_sig (fun ks9 e_ks9 => ?_)
  have kh10 : ks9.1 v = .inr (0, [.ref a]) := by rw [e_ks9, zup_ne _ _ (by omega)]; exact kh6
  have kh11 : ks9.1 a = .inl (3, 10, .inr (.inl (z64 (zuI (zuI (zuI w (2 * (j - 1)) (1 * ((1 * (w (2 * (j - 1)))) + ((max (w ((2 * (j - 1)) + 1)) 0) + (max ((max (w ((2 * (j - 1)) + 3)) 0) - ((((1 * (w (2 * (j - 1)))) - (min (w ((2 * (j - 1)) + 1)) 0)) - (1 * (w ((2 * (j - 1)) + 2)))) + (max (w ((2 * (j - 1)) + 3)) 0))) 0))))) ((2 * (j - 1)) + 1) ((w ((2 * (j - 1)) + 3)) - (max ((((1 * (w (2 * (j - 1)))) - (min (w ((2 * (j - 1)) + 1)) 0)) - (1 * (w ((2 * (j - 1)) + 2)))) + (max (w ((2 * (j - 1)) + 3)) 0)) 0))) ((2 * (j - 1)) + 2) (1 * ((1 * (w ((2 * (j - 1)) + 2))) + ((min (w ((2 * (j - 1)) + 3)) 0) + (min ((min (w ((2 * (j - 1)) + 1)) 0) + ((((1 * (w (2 * (j - 1)))) - (min (w ((2 * (j - 1)) + 1)) 0)) - (1 * (w ((2 * (j - 1)) + 2)))) + (max (w ((2 * (j - 1)) + 3)) 0))) 0)))))))) := by rw [e_ks9]; exact zup_at _ _ _
  have kF12 := zFr.put kF8 e_ks9 (by first | omega | simp)
  refine zr_aload_n dX2_follow_184 rfl ?_
  refine zr_getfield dX2_follow_185 fX2_9 kh10 rfl (by decide) ?_
  refine zr_iload_n dX2_follow_188 rfl ?_
  refine zr_iconst (v := 3) dX2_follow_189 (by decide) ?_
  refine zr_iadd dX2_follow_190 ?_
  refine zr_eqi (x' := nI ((2 * (j - 1)) + 3)) (nI_add (2 * (j - 1)) 3) ?_
  refine zr_lload dX2_follow_191 rfl ?_
  refine zr_lload dX2_follow_193 rfl ?_
  refine zr_lconst (v := lI 0) dX2_follow_195 (by decide) ?_
  refine zr_mmaxl dX2_follow_196 mlX2_46 (by omega) (Nat.le_of_ble_eq_true rfl) ?_
  refine zr_eql (x' := lI (max ((((1 * (w (2 * (j - 1)))) - (min (w ((2 * (j - 1)) + 1)) 0)) - (1 * (w ((2 * (j - 1)) + 2)))) + (max (w ((2 * (j - 1)) + 3)) 0)) 0)) (lI_max (by omega) (by omega)) ?_
  refine zr_ladd dX2_follow_199 ?_
  refine zr_eql (x' := lI ((w ((2 * (j - 1)) + 1)) + (max ((((1 * (w (2 * (j - 1)))) - (min (w ((2 * (j - 1)) + 1)) 0)) - (1 * (w ((2 * (j - 1)) + 2)))) + (max (w ((2 * (j - 1)) + 3)) 0)) 0))) (lI_add _ _) ?_
  refine zr_lastore dX2_follow_200 kh11 (vp_in_nI (n := (2 * (j - 1)) + 3) (by omega) (by omega)) ?_
  rw [nI_clamp (n := (2 * (j - 1)) + 3) (by omega)]
  rw [z64_upd]
  refine zr_sig (fun ks13 e_ks13 => ?_)
  have kh14 : ks13.1 v = .inr (0, [.ref a]) := by rw [e_ks13, zup_ne _ _ (by omega)]; exact kh10
  have kh15 : ks13.1 a = .inl (3, 10, .inr (.inl (z64 (zuI (zuI (zuI (zuI w (2 * (j - 1)) (1 * ((1 * (w (2 * (j - 1)))) + ((max (w ((2 * (j - 1)) + 1)) 0) + (max ((max (w ((2 * (j - 1)) + 3)) 0) - ((((1 * (w (2 * (j - 1)))) - (min (w ((2 * (j - 1)) + 1)) 0)) - (1 * (w ((2 * (j - 1)) + 2)))) + (max (w ((2 * (j - 1)) + 3)) 0))) 0))))) ((2 * (j - 1)) + 1) ((w ((2 * (j - 1)) + 3)) - (max ((((1 * (w (2 * (j - 1)))) - (min (w ((2 * (j - 1)) + 1)) 0)) - (1 * (w ((2 * (j - 1)) + 2)))) + (max (w ((2 * (j - 1)) + 3)) 0)) 0))) ((2 * (j - 1)) + 2) (1 * ((1 * (w ((2 * (j - 1)) + 2))) + ((min (w ((2 * (j - 1)) + 3)) 0) + (min ((min (w ((2 * (j - 1)) + 1)) 0) + ((((1 * (w (2 * (j - 1)))) - (min (w ((2 * (j - 1)) + 1)) 0)) - (1 * (w ((2 * (j - 1)) + 2)))) + (max (w ((2 * (j - 1)) + 3)) 0))) 0))))) ((2 * (j - 1)) + 3) ((w ((2 * (j - 1)) + 1)) + (max ((((1 * (w (2 * (j - 1)))) - (min (w ((2 * (j - 1)) + 1)) 0)) - (1 * (w ((2 * (j - 1)) + 2)))) + (max (w ((2 * (j - 1)) + 3)) 0)) 0)))))) := by rw [e_ks13]; exact zup_at _ _ _
  have kF16 := zFr.put kF12 e_ks13 (by first | omega | simp)
  exact zr_return dX2_follow_201 rfl (⟨rfl, kF16, kh15⟩)

set_option maxHeartbeats 400000 in
set_option maxRecDepth 100000 in
theorem qX2_followM {X : zX} (hX : X.1.stackTraces = false) {σ : zS} {v a : Nat} {w : Nat → Int} {l : Int32} {j : Nat} (hva : v ≠ a) (h0 : σ.1 v = .inr (0, [.ref a])) (h1 : σ.1 a = .inl (3, 10, .inr (.inl (z64 w)))) (hb : zBd 1152921504606846976 w) (hj : zix l = nI j) (h1j : 1 ≤ j) (hj4 : j ≤ 4) (hs : zsg l.toInt64 = -1) : zMet X mX2_follow yX2_follow 2 0 0 [.ref v, .int l] σ (zV (fun s => zFr σ s (fun q => q = a) ∧ s.1 a = .inl (3, 10, .inr (.inl (z64 (zst (-1) j w)))))) := by
  refine zMet_of (ls := [some (.ref v), some (.int l), none, none, none, none, none, none, none, none, none, none, none, none]) rfl (by decide +kernel) rfl (fun h => by cases h) hX (Nat.le_of_ble_eq_true rfl) rfl ?_
  have hx := hb (2 * (j - 1)) (by omega)
  have hy := hb (2 * (j - 1) + 1) (by omega)
  have hu := hb (2 * (j - 1) + 2) (by omega)
  have hv := hb (2 * (j - 1) + 3) (by omega)
  refine zr_iconst (v := 2) dX2_follow_0 (by decide) ?_
  refine zr_iload_n dX2_follow_1 rfl ?_
  refine zr_pSi [.int 2] dX2_follow_2 vX2_36 (qX9_indexOf hX σ (l)) (by decide) (by decide) (by decide) rfl rfl (Nat.le_of_ble_eq_true rfl) rfl ?_
  refine zr_eqi (x' := nI j) (hj) ?_
  refine zr_iconst (v := 1) dX2_follow_5 (by decide) ?_
  refine zr_isub dX2_follow_6 ?_
  refine zr_eqi (x' := nI (j - 1)) (pk_sub (a := j) (b := 1) (by omega)) ?_
  refine zr_imul dX2_follow_7 ?_
  refine zr_eqi (x' := nI (2 * (j - 1))) (pk_mul 2 (j - 1)) ?_
  refine zr_istore_n (ls' := [some (.ref v), some (.int l), some (.int (nI (2 * (j - 1)))), none, none, none, none, none, none, none, none, none, none, none]) dX2_follow_8 rfl (by decide) rfl ?_
  refine zr_iload_n dX2_follow_9 rfl ?_
  refine zr_if_lt (tgt := 21) dX2_follow_10 (by decide) (fun c_10 => absurd c_10 (fun h => absurd ((nI_ltI (a := 2 * (j - 1)) (b := 0) (by omega) (by omega)).mp h) (by omega))) (fun c_10 => ?_)
  refine zr_iload_n dX2_follow_13 rfl ?_
  refine zr_iconst (v := 3) dX2_follow_14 (by decide) ?_
  refine zr_iadd dX2_follow_15 ?_
  refine zr_eqi (x' := nI ((2 * (j - 1)) + 3)) (nI_add (2 * (j - 1)) 3) ?_
  refine zr_bipush (v := 10) dX2_follow_16 (by decide) ?_
  refine zr_icmp_lt (tgt := 22) dX2_follow_18 (by decide) (fun c_18 => ?_) (fun c_18 => absurd ((nI_ltI (a := (2 * (j - 1)) + 3) (b := 10) (by omega) (by omega)).mpr (by omega)) c_18)
  refine zr_iload_n dX2_follow_22 rfl ?_
  refine zr_i2l dX2_follow_23 ?_
  refine zr_pSi [] dX2_follow_24 vX2_32 (qX9_signOf hX σ ((l).toInt64)) (by decide) (by decide) (by decide) rfl rfl (Nat.le_of_ble_eq_true rfl) rfl ?_
  refine zr_eqi (x' := (-1)) (hs) ?_
  refine zr_istore_n (ls' := [some (.ref v), some (.int l), some (.int (nI (2 * (j - 1)))), some (.int ((-1))), none, none, none, none, none, none, none, none, none, none]) dX2_follow_27 rfl (by decide) rfl ?_
  refine zr_iload_n dX2_follow_28 rfl ?_
  refine zr_i2l dX2_follow_29 ?_
  refine zr_eql (x' := lI (-1)) (by decide +kernel) ?_
  refine zr_aload_n dX2_follow_30 rfl ?_
  refine zr_getfield dX2_follow_31 fX2_9 h0 rfl (by decide) ?_
  refine zr_iload_n dX2_follow_34 rfl ?_
  refine zr_laload dX2_follow_35 h1 (vp_in_nI (n := 2 * (j - 1)) (by omega) (by omega)) ?_
  rw [nI_clamp (n := 2 * (j - 1)) (by omega)]
  refine zr_eql (x' := lI (w (2 * (j - 1)))) rfl ?_
  refine zr_lmul dX2_follow_36 ?_
  refine zr_eql (x' := lI ((-1) * (w (2 * (j - 1))))) (lI_mul _ _) ?_
  refine zr_lstore (ls' := [some (.ref v), some (.int l), some (.int (nI (2 * (j - 1)))), some (.int ((-1))), some (.long (lI ((-1) * (w (2 * (j - 1)))))), none, none, none, none, none, none, none, none, none]) dX2_follow_37 (by decide) rfl ?_
  refine zr_aload_n dX2_follow_39 rfl ?_
  refine zr_getfield dX2_follow_40 fX2_9 h0 rfl (by decide) ?_
  refine zr_iload_n dX2_follow_43 rfl ?_
  refine zr_iconst (v := 1) dX2_follow_44 (by decide) ?_
  refine zr_iadd dX2_follow_45 ?_
  refine zr_eqi (x' := nI ((2 * (j - 1)) + 1)) (nI_add (2 * (j - 1)) 1) ?_
  refine zr_laload dX2_follow_46 h1 (vp_in_nI (n := (2 * (j - 1)) + 1) (by omega) (by omega)) ?_
  rw [nI_clamp (n := (2 * (j - 1)) + 1) (by omega)]
  refine zr_eql (x' := lI (w ((2 * (j - 1)) + 1))) rfl ?_
  refine zr_lstore (ls' := [some (.ref v), some (.int l), some (.int (nI (2 * (j - 1)))), some (.int ((-1))), some (.long (lI ((-1) * (w (2 * (j - 1)))))), none, some (.long (lI (w ((2 * (j - 1)) + 1)))), none, none, none, none, none, none, none]) dX2_follow_47 (by decide) rfl ?_
  refine zr_iload_n dX2_follow_49 rfl ?_
  refine zr_i2l dX2_follow_50 ?_
  refine zr_eql (x' := lI (-1)) (by decide +kernel) ?_
  refine zr_aload_n dX2_follow_51 rfl ?_
  refine zr_getfield dX2_follow_52 fX2_9 h0 rfl (by decide) ?_
  refine zr_iload_n dX2_follow_55 rfl ?_
  refine zr_iconst (v := 2) dX2_follow_56 (by decide) ?_
  refine zr_iadd dX2_follow_57 ?_
  refine zr_eqi (x' := nI ((2 * (j - 1)) + 2)) (nI_add (2 * (j - 1)) 2) ?_
  refine zr_laload dX2_follow_58 h1 (vp_in_nI (n := (2 * (j - 1)) + 2) (by omega) (by omega)) ?_
  rw [nI_clamp (n := (2 * (j - 1)) + 2) (by omega)]
  refine zr_eql (x' := lI (w ((2 * (j - 1)) + 2))) rfl ?_
  refine zr_lmul dX2_follow_59 ?_
  refine zr_eql (x' := lI ((-1) * (w ((2 * (j - 1)) + 2)))) (lI_mul _ _) ?_
  refine zr_lstore (ls' := [some (.ref v), some (.int l), some (.int (nI (2 * (j - 1)))), some (.int ((-1))), some (.long (lI ((-1) * (w (2 * (j - 1)))))), none, some (.long (lI (w ((2 * (j - 1)) + 1)))), none, some (.long (lI ((-1) * (w ((2 * (j - 1)) + 2))))), none, none, none, none, none]) dX2_follow_60 (by decide) rfl ?_
  refine zr_aload_n dX2_follow_62 rfl ?_
  refine zr_getfield dX2_follow_63 fX2_9 h0 rfl (by decide) ?_
  refine zr_iload_n dX2_follow_66 rfl ?_
  refine zr_iconst (v := 3) dX2_follow_67 (by decide) ?_
  refine zr_iadd dX2_follow_68 ?_
  refine zr_eqi (x' := nI ((2 * (j - 1)) + 3)) (nI_add (2 * (j - 1)) 3) ?_
  refine zr_laload dX2_follow_69 h1 (vp_in_nI (n := (2 * (j - 1)) + 3) (by omega) (by omega)) ?_
  rw [nI_clamp (n := (2 * (j - 1)) + 3) (by omega)]
  refine zr_eql (x' := lI (w ((2 * (j - 1)) + 3))) rfl ?_
  refine zr_lstore (ls' := [some (.ref v), some (.int l), some (.int (nI (2 * (j - 1)))), some (.int ((-1))), some (.long (lI ((-1) * (w (2 * (j - 1)))))), none, some (.long (lI (w ((2 * (j - 1)) + 1)))), none, some (.long (lI ((-1) * (w ((2 * (j - 1)) + 2))))), none, some (.long (lI (w ((2 * (j - 1)) + 3)))), none, none, none]) dX2_follow_70 (by decide) rfl ?_
  refine zr_lload dX2_follow_72 rfl ?_
  refine zr_lload dX2_follow_74 rfl ?_
  refine zr_lconst (v := lI 0) dX2_follow_76 (by decide) ?_
  refine zr_mminl dX2_follow_77 mlX2_40 (by omega) (Nat.le_of_ble_eq_true rfl) ?_
  refine zr_eql (x' := lI (min (w ((2 * (j - 1)) + 1)) 0)) (lI_min (by omega) (by omega)) ?_
  refine zr_lsub dX2_follow_80 ?_
  refine zr_eql (x' := lI (((-1) * (w (2 * (j - 1)))) - (min (w ((2 * (j - 1)) + 1)) 0))) (lI_sub _ _) ?_
  refine zr_lload dX2_follow_81 rfl ?_
  refine zr_lsub dX2_follow_83 ?_
  refine zr_eql (x' := lI ((((-1) * (w (2 * (j - 1)))) - (min (w ((2 * (j - 1)) + 1)) 0)) - ((-1) * (w ((2 * (j - 1)) + 2))))) (lI_sub _ _) ?_
  refine zr_lload dX2_follow_84 rfl ?_
  refine zr_lconst (v := lI 0) dX2_follow_86 (by decide) ?_
  refine zr_mmaxl dX2_follow_87 mlX2_46 (by omega) (Nat.le_of_ble_eq_true rfl) ?_
  refine zr_eql (x' := lI (max (w ((2 * (j - 1)) + 3)) 0)) (lI_max (by omega) (by omega)) ?_
  refine zr_ladd dX2_follow_90 ?_
  refine zr_eql (x' := lI (((((-1) * (w (2 * (j - 1)))) - (min (w ((2 * (j - 1)) + 1)) 0)) - ((-1) * (w ((2 * (j - 1)) + 2)))) + (max (w ((2 * (j - 1)) + 3)) 0))) (lI_add _ _) ?_
  refine zr_lstore (ls' := [some (.ref v), some (.int l), some (.int (nI (2 * (j - 1)))), some (.int ((-1))), some (.long (lI ((-1) * (w (2 * (j - 1)))))), none, some (.long (lI (w ((2 * (j - 1)) + 1)))), none, some (.long (lI ((-1) * (w ((2 * (j - 1)) + 2))))), none, some (.long (lI (w ((2 * (j - 1)) + 3)))), none, some (.long (lI (((((-1) * (w (2 * (j - 1)))) - (min (w ((2 * (j - 1)) + 1)) 0)) - ((-1) * (w ((2 * (j - 1)) + 2)))) + (max (w ((2 * (j - 1)) + 3)) 0)))), none]) dX2_follow_91 (by decide) rfl ?_
  refine zr_lload dX2_follow_93 rfl ?_
  refine zr_lload dX2_follow_95 rfl ?_
  refine zr_lconst (v := lI 0) dX2_follow_97 (by decide) ?_
  refine zr_mmaxl dX2_follow_98 mlX2_46 (by omega) (Nat.le_of_ble_eq_true rfl) ?_
  refine zr_eql (x' := lI (max (w ((2 * (j - 1)) + 1)) 0)) (lI_max (by omega) (by omega)) ?_
  refine zr_lload dX2_follow_101 rfl ?_
  refine zr_lconst (v := lI 0) dX2_follow_103 (by decide) ?_
  refine zr_mmaxl dX2_follow_104 mlX2_46 (by omega) (Nat.le_of_ble_eq_true rfl) ?_
  refine zr_eql (x' := lI (max (w ((2 * (j - 1)) + 3)) 0)) (lI_max (by omega) (by omega)) ?_
  refine zr_lload dX2_follow_107 rfl ?_
  refine zr_lsub dX2_follow_109 ?_
  refine zr_eql (x' := lI ((max (w ((2 * (j - 1)) + 3)) 0) - (((((-1) * (w (2 * (j - 1)))) - (min (w ((2 * (j - 1)) + 1)) 0)) - ((-1) * (w ((2 * (j - 1)) + 2)))) + (max (w ((2 * (j - 1)) + 3)) 0)))) (lI_sub _ _) ?_
  refine zr_lconst (v := lI 0) dX2_follow_110 (by decide) ?_
  refine zr_mmaxl dX2_follow_111 mlX2_46 (by omega) (Nat.le_of_ble_eq_true rfl) ?_
  refine zr_eql (x' := lI (max ((max (w ((2 * (j - 1)) + 3)) 0) - (((((-1) * (w (2 * (j - 1)))) - (min (w ((2 * (j - 1)) + 1)) 0)) - ((-1) * (w ((2 * (j - 1)) + 2)))) + (max (w ((2 * (j - 1)) + 3)) 0))) 0)) (lI_max (by omega) (by omega)) ?_
  refine zr_ladd dX2_follow_114 ?_
  refine zr_eql (x' := lI ((max (w ((2 * (j - 1)) + 1)) 0) + (max ((max (w ((2 * (j - 1)) + 3)) 0) - (((((-1) * (w (2 * (j - 1)))) - (min (w ((2 * (j - 1)) + 1)) 0)) - ((-1) * (w ((2 * (j - 1)) + 2)))) + (max (w ((2 * (j - 1)) + 3)) 0))) 0))) (lI_add _ _) ?_
  refine zr_ladd dX2_follow_115 ?_
  refine zr_eql (x' := lI (((-1) * (w (2 * (j - 1)))) + ((max (w ((2 * (j - 1)) + 1)) 0) + (max ((max (w ((2 * (j - 1)) + 3)) 0) - (((((-1) * (w (2 * (j - 1)))) - (min (w ((2 * (j - 1)) + 1)) 0)) - ((-1) * (w ((2 * (j - 1)) + 2)))) + (max (w ((2 * (j - 1)) + 3)) 0))) 0)))) (lI_add _ _) ?_
  refine zr_lstore (ls' := [some (.ref v), some (.int l), some (.int (nI (2 * (j - 1)))), some (.int ((-1))), some (.long (lI (((-1) * (w (2 * (j - 1)))) + ((max (w ((2 * (j - 1)) + 1)) 0) + (max ((max (w ((2 * (j - 1)) + 3)) 0) - (((((-1) * (w (2 * (j - 1)))) - (min (w ((2 * (j - 1)) + 1)) 0)) - ((-1) * (w ((2 * (j - 1)) + 2)))) + (max (w ((2 * (j - 1)) + 3)) 0))) 0))))), none, some (.long (lI (w ((2 * (j - 1)) + 1)))), none, some (.long (lI ((-1) * (w ((2 * (j - 1)) + 2))))), none, some (.long (lI (w ((2 * (j - 1)) + 3)))), none, some (.long (lI (((((-1) * (w (2 * (j - 1)))) - (min (w ((2 * (j - 1)) + 1)) 0)) - ((-1) * (w ((2 * (j - 1)) + 2)))) + (max (w ((2 * (j - 1)) + 3)) 0)))), none]) dX2_follow_116 (by decide) rfl ?_
  refine zr_lload dX2_follow_118 rfl ?_
  refine zr_lload dX2_follow_120 rfl ?_
  refine zr_lconst (v := lI 0) dX2_follow_122 (by decide) ?_
  refine zr_mminl dX2_follow_123 mlX2_40 (by omega) (Nat.le_of_ble_eq_true rfl) ?_
  refine zr_eql (x' := lI (min (w ((2 * (j - 1)) + 3)) 0)) (lI_min (by omega) (by omega)) ?_
  refine zr_lload dX2_follow_126 rfl ?_
  refine zr_lconst (v := lI 0) dX2_follow_128 (by decide) ?_
  refine zr_mminl dX2_follow_129 mlX2_40 (by omega) (Nat.le_of_ble_eq_true rfl) ?_
  refine zr_eql (x' := lI (min (w ((2 * (j - 1)) + 1)) 0)) (lI_min (by omega) (by omega)) ?_
  refine zr_lload dX2_follow_132 rfl ?_
  refine zr_ladd dX2_follow_134 ?_
  refine zr_eql (x' := lI ((min (w ((2 * (j - 1)) + 1)) 0) + (((((-1) * (w (2 * (j - 1)))) - (min (w ((2 * (j - 1)) + 1)) 0)) - ((-1) * (w ((2 * (j - 1)) + 2)))) + (max (w ((2 * (j - 1)) + 3)) 0)))) (lI_add _ _) ?_
  refine zr_lconst (v := lI 0) dX2_follow_135 (by decide) ?_
  refine zr_mminl dX2_follow_136 mlX2_40 (by omega) (Nat.le_of_ble_eq_true rfl) ?_
  refine zr_eql (x' := lI (min ((min (w ((2 * (j - 1)) + 1)) 0) + (((((-1) * (w (2 * (j - 1)))) - (min (w ((2 * (j - 1)) + 1)) 0)) - ((-1) * (w ((2 * (j - 1)) + 2)))) + (max (w ((2 * (j - 1)) + 3)) 0))) 0)) (lI_min (by omega) (by omega)) ?_
  refine zr_ladd dX2_follow_139 ?_
  refine zr_eql (x' := lI ((min (w ((2 * (j - 1)) + 3)) 0) + (min ((min (w ((2 * (j - 1)) + 1)) 0) + (((((-1) * (w (2 * (j - 1)))) - (min (w ((2 * (j - 1)) + 1)) 0)) - ((-1) * (w ((2 * (j - 1)) + 2)))) + (max (w ((2 * (j - 1)) + 3)) 0))) 0))) (lI_add _ _) ?_
  refine zr_ladd dX2_follow_140 ?_
  refine zr_eql (x' := lI (((-1) * (w ((2 * (j - 1)) + 2))) + ((min (w ((2 * (j - 1)) + 3)) 0) + (min ((min (w ((2 * (j - 1)) + 1)) 0) + (((((-1) * (w (2 * (j - 1)))) - (min (w ((2 * (j - 1)) + 1)) 0)) - ((-1) * (w ((2 * (j - 1)) + 2)))) + (max (w ((2 * (j - 1)) + 3)) 0))) 0)))) (lI_add _ _) ?_
  refine zr_lstore (ls' := [some (.ref v), some (.int l), some (.int (nI (2 * (j - 1)))), some (.int ((-1))), some (.long (lI (((-1) * (w (2 * (j - 1)))) + ((max (w ((2 * (j - 1)) + 1)) 0) + (max ((max (w ((2 * (j - 1)) + 3)) 0) - (((((-1) * (w (2 * (j - 1)))) - (min (w ((2 * (j - 1)) + 1)) 0)) - ((-1) * (w ((2 * (j - 1)) + 2)))) + (max (w ((2 * (j - 1)) + 3)) 0))) 0))))), none, some (.long (lI (w ((2 * (j - 1)) + 1)))), none, some (.long (lI (((-1) * (w ((2 * (j - 1)) + 2))) + ((min (w ((2 * (j - 1)) + 3)) 0) + (min ((min (w ((2 * (j - 1)) + 1)) 0) + (((((-1) * (w (2 * (j - 1)))) - (min (w ((2 * (j - 1)) + 1)) 0)) - ((-1) * (w ((2 * (j - 1)) + 2)))) + (max (w ((2 * (j - 1)) + 3)) 0))) 0))))), none, some (.long (lI (w ((2 * (j - 1)) + 3)))), none, some (.long (lI (((((-1) * (w (2 * (j - 1)))) - (min (w ((2 * (j - 1)) + 1)) 0)) - ((-1) * (w ((2 * (j - 1)) + 2)))) + (max (w ((2 * (j - 1)) + 3)) 0)))), none]) dX2_follow_141 (by decide) rfl ?_
  refine zr_aload_n dX2_follow_143 rfl ?_
  refine zr_getfield dX2_follow_144 fX2_9 h0 rfl (by decide) ?_
  refine zr_iload_n dX2_follow_147 rfl ?_
  refine zr_iload_n dX2_follow_148 rfl ?_
  refine zr_i2l dX2_follow_149 ?_
  refine zr_eql (x' := lI (-1)) (by decide +kernel) ?_
  refine zr_lload dX2_follow_150 rfl ?_
  refine zr_lmul dX2_follow_152 ?_
  refine zr_eql (x' := lI ((-1) * (((-1) * (w (2 * (j - 1)))) + ((max (w ((2 * (j - 1)) + 1)) 0) + (max ((max (w ((2 * (j - 1)) + 3)) 0) - (((((-1) * (w (2 * (j - 1)))) - (min (w ((2 * (j - 1)) + 1)) 0)) - ((-1) * (w ((2 * (j - 1)) + 2)))) + (max (w ((2 * (j - 1)) + 3)) 0))) 0))))) (lI_mul _ _) ?_
  refine zr_lastore dX2_follow_153 h1 (vp_in_nI (n := 2 * (j - 1)) (by omega) (by omega)) ?_
  rw [nI_clamp (n := 2 * (j - 1)) (by omega)]
  rw [z64_upd]
  refine zr_sig (fun ks1 e_ks1 => ?_)
  have kh2 : ks1.1 v = .inr (0, [.ref a]) := by rw [e_ks1, zup_ne _ _ (by omega)]; exact h0
  have kh3 : ks1.1 a = .inl (3, 10, .inr (.inl (z64 (zuI w (2 * (j - 1)) ((-1) * (((-1) * (w (2 * (j - 1)))) + ((max (w ((2 * (j - 1)) + 1)) 0) + (max ((max (w ((2 * (j - 1)) + 3)) 0) - (((((-1) * (w (2 * (j - 1)))) - (min (w ((2 * (j - 1)) + 1)) 0)) - ((-1) * (w ((2 * (j - 1)) + 2)))) + (max (w ((2 * (j - 1)) + 3)) 0))) 0)))))))) := by rw [e_ks1]; exact zup_at _ _ _
  have kF4 := zFr.put zFr.rf (P := fun q => q = a) e_ks1 (by first | omega | simp)
  refine zr_aload_n dX2_follow_154 rfl ?_
  refine zr_getfield dX2_follow_155 fX2_9 kh2 rfl (by decide) ?_
  refine zr_iload_n dX2_follow_158 rfl ?_
  refine zr_iconst (v := 1) dX2_follow_159 (by decide) ?_
  refine zr_iadd dX2_follow_160 ?_
  refine zr_eqi (x' := nI ((2 * (j - 1)) + 1)) (nI_add (2 * (j - 1)) 1) ?_
  refine zr_lload dX2_follow_161 rfl ?_
  refine zr_lload dX2_follow_163 rfl ?_
  refine zr_lconst (v := lI 0) dX2_follow_165 (by decide) ?_
  refine zr_mmaxl dX2_follow_166 mlX2_46 (by omega) (Nat.le_of_ble_eq_true rfl) ?_
  refine zr_eql (x' := lI (max (((((-1) * (w (2 * (j - 1)))) - (min (w ((2 * (j - 1)) + 1)) 0)) - ((-1) * (w ((2 * (j - 1)) + 2)))) + (max (w ((2 * (j - 1)) + 3)) 0)) 0)) (lI_max (by omega) (by omega)) ?_
  refine zr_lsub dX2_follow_169 ?_
  refine zr_eql (x' := lI ((w ((2 * (j - 1)) + 3)) - (max (((((-1) * (w (2 * (j - 1)))) - (min (w ((2 * (j - 1)) + 1)) 0)) - ((-1) * (w ((2 * (j - 1)) + 2)))) + (max (w ((2 * (j - 1)) + 3)) 0)) 0))) (lI_sub _ _) ?_
  refine zr_lastore dX2_follow_170 kh3 (vp_in_nI (n := (2 * (j - 1)) + 1) (by omega) (by omega)) ?_
  rw [nI_clamp (n := (2 * (j - 1)) + 1) (by omega)]
  rw [z64_upd]
  refine zr_sig (fun ks5 e_ks5 => ?_)
  have kh6 : ks5.1 v = .inr (0, [.ref a]) := by rw [e_ks5, zup_ne _ _ (by omega)]; exact kh2
  have kh7 : ks5.1 a = .inl (3, 10, .inr (.inl (z64 (zuI (zuI w (2 * (j - 1)) ((-1) * (((-1) * (w (2 * (j - 1)))) + ((max (w ((2 * (j - 1)) + 1)) 0) + (max ((max (w ((2 * (j - 1)) + 3)) 0) - (((((-1) * (w (2 * (j - 1)))) - (min (w ((2 * (j - 1)) + 1)) 0)) - ((-1) * (w ((2 * (j - 1)) + 2)))) + (max (w ((2 * (j - 1)) + 3)) 0))) 0))))) ((2 * (j - 1)) + 1) ((w ((2 * (j - 1)) + 3)) - (max (((((-1) * (w (2 * (j - 1)))) - (min (w ((2 * (j - 1)) + 1)) 0)) - ((-1) * (w ((2 * (j - 1)) + 2)))) + (max (w ((2 * (j - 1)) + 3)) 0)) 0)))))) := by rw [e_ks5]; exact zup_at _ _ _
  have kF8 := zFr.put kF4 e_ks5 (by first | omega | simp)
  refine zr_aload_n dX2_follow_171 rfl ?_
  refine zr_getfield dX2_follow_172 fX2_9 kh6 rfl (by decide) ?_
  refine zr_iload_n dX2_follow_175 rfl ?_
  refine zr_iconst (v := 2) dX2_follow_176 (by decide) ?_
  refine zr_iadd dX2_follow_177 ?_
  refine zr_eqi (x' := nI ((2 * (j - 1)) + 2)) (nI_add (2 * (j - 1)) 2) ?_
  refine zr_iload_n dX2_follow_178 rfl ?_
  refine zr_i2l dX2_follow_179 ?_
  refine zr_eql (x' := lI (-1)) (by decide +kernel) ?_
  refine zr_lload dX2_follow_180 rfl ?_
  refine zr_lmul dX2_follow_182 ?_
  refine zr_eql (x' := lI ((-1) * (((-1) * (w ((2 * (j - 1)) + 2))) + ((min (w ((2 * (j - 1)) + 3)) 0) + (min ((min (w ((2 * (j - 1)) + 1)) 0) + (((((-1) * (w (2 * (j - 1)))) - (min (w ((2 * (j - 1)) + 1)) 0)) - ((-1) * (w ((2 * (j - 1)) + 2)))) + (max (w ((2 * (j - 1)) + 3)) 0))) 0))))) (lI_mul _ _) ?_
  refine zr_lastore dX2_follow_183 kh7 (vp_in_nI (n := (2 * (j - 1)) + 2) (by omega) (by omega)) ?_
  rw [nI_clamp (n := (2 * (j - 1)) + 2) (by omega)]
  rw [z64_upd]
  refine zr_sig (fun ks9 e_ks9 => ?_)
  have kh10 : ks9.1 v = .inr (0, [.ref a]) := by rw [e_ks9, zup_ne _ _ (by omega)]; exact kh6
  have kh11 : ks9.1 a = .inl (3, 10, .inr (.inl (z64 (zuI (zuI (zuI w (2 * (j - 1)) ((-1) * (((-1) * (w (2 * (j - 1)))) + ((max (w ((2 * (j - 1)) + 1)) 0) + (max ((max (w ((2 * (j - 1)) + 3)) 0) - (((((-1) * (w (2 * (j - 1)))) - (min (w ((2 * (j - 1)) + 1)) 0)) - ((-1) * (w ((2 * (j - 1)) + 2)))) + (max (w ((2 * (j - 1)) + 3)) 0))) 0))))) ((2 * (j - 1)) + 1) ((w ((2 * (j - 1)) + 3)) - (max (((((-1) * (w (2 * (j - 1)))) - (min (w ((2 * (j - 1)) + 1)) 0)) - ((-1) * (w ((2 * (j - 1)) + 2)))) + (max (w ((2 * (j - 1)) + 3)) 0)) 0))) ((2 * (j - 1)) + 2) ((-1) * (((-1) * (w ((2 * (j - 1)) + 2))) + ((min (w ((2 * (j - 1)) + 3)) 0) + (min ((min (w ((2 * (j - 1)) + 1)) 0) + (((((-1) * (w (2 * (j - 1)))) - (min (w ((2 * (j - 1)) + 1)) 0)) - ((-1) * (w ((2 * (j - 1)) + 2)))) + (max (w ((2 * (j - 1)) + 3)) 0))) 0)))))))) := by rw [e_ks9]; exact zup_at _ _ _
  have kF12 := zFr.put kF8 e_ks9 (by first | omega | simp)
  refine zr_aload_n dX2_follow_184 rfl ?_
  refine zr_getfield dX2_follow_185 fX2_9 kh10 rfl (by decide) ?_
  refine zr_iload_n dX2_follow_188 rfl ?_
  refine zr_iconst (v := 3) dX2_follow_189 (by decide) ?_
  refine zr_iadd dX2_follow_190 ?_
  refine zr_eqi (x' := nI ((2 * (j - 1)) + 3)) (nI_add (2 * (j - 1)) 3) ?_
  refine zr_lload dX2_follow_191 rfl ?_
  refine zr_lload dX2_follow_193 rfl ?_
  refine zr_lconst (v := lI 0) dX2_follow_195 (by decide) ?_
  refine zr_mmaxl dX2_follow_196 mlX2_46 (by omega) (Nat.le_of_ble_eq_true rfl) ?_
  refine zr_eql (x' := lI (max (((((-1) * (w (2 * (j - 1)))) - (min (w ((2 * (j - 1)) + 1)) 0)) - ((-1) * (w ((2 * (j - 1)) + 2)))) + (max (w ((2 * (j - 1)) + 3)) 0)) 0)) (lI_max (by omega) (by omega)) ?_
  refine zr_ladd dX2_follow_199 ?_
  refine zr_eql (x' := lI ((w ((2 * (j - 1)) + 1)) + (max (((((-1) * (w (2 * (j - 1)))) - (min (w ((2 * (j - 1)) + 1)) 0)) - ((-1) * (w ((2 * (j - 1)) + 2)))) + (max (w ((2 * (j - 1)) + 3)) 0)) 0))) (lI_add _ _) ?_
  refine zr_lastore dX2_follow_200 kh11 (vp_in_nI (n := (2 * (j - 1)) + 3) (by omega) (by omega)) ?_
  rw [nI_clamp (n := (2 * (j - 1)) + 3) (by omega)]
  rw [z64_upd]
  refine zr_sig (fun ks13 e_ks13 => ?_)
  have kh14 : ks13.1 v = .inr (0, [.ref a]) := by rw [e_ks13, zup_ne _ _ (by omega)]; exact kh10
  have kh15 : ks13.1 a = .inl (3, 10, .inr (.inl (z64 (zuI (zuI (zuI (zuI w (2 * (j - 1)) ((-1) * (((-1) * (w (2 * (j - 1)))) + ((max (w ((2 * (j - 1)) + 1)) 0) + (max ((max (w ((2 * (j - 1)) + 3)) 0) - (((((-1) * (w (2 * (j - 1)))) - (min (w ((2 * (j - 1)) + 1)) 0)) - ((-1) * (w ((2 * (j - 1)) + 2)))) + (max (w ((2 * (j - 1)) + 3)) 0))) 0))))) ((2 * (j - 1)) + 1) ((w ((2 * (j - 1)) + 3)) - (max (((((-1) * (w (2 * (j - 1)))) - (min (w ((2 * (j - 1)) + 1)) 0)) - ((-1) * (w ((2 * (j - 1)) + 2)))) + (max (w ((2 * (j - 1)) + 3)) 0)) 0))) ((2 * (j - 1)) + 2) ((-1) * (((-1) * (w ((2 * (j - 1)) + 2))) + ((min (w ((2 * (j - 1)) + 3)) 0) + (min ((min (w ((2 * (j - 1)) + 1)) 0) + (((((-1) * (w (2 * (j - 1)))) - (min (w ((2 * (j - 1)) + 1)) 0)) - ((-1) * (w ((2 * (j - 1)) + 2)))) + (max (w ((2 * (j - 1)) + 3)) 0))) 0))))) ((2 * (j - 1)) + 3) ((w ((2 * (j - 1)) + 1)) + (max (((((-1) * (w (2 * (j - 1)))) - (min (w ((2 * (j - 1)) + 1)) 0)) - ((-1) * (w ((2 * (j - 1)) + 2)))) + (max (w ((2 * (j - 1)) + 3)) 0)) 0)))))) := by rw [e_ks13]; exact zup_at _ _ _
  have kF16 := zFr.put kF12 e_ks13 (by first | omega | simp)
  exact zr_return dX2_follow_201 rfl (⟨rfl, kF16, kh15⟩)

theorem qX2_follow {X : zX} (hX : X.1.stackTraces = false) {σ : zS} {v a : Nat} {w : Nat → Int} {l : Int32} (hva : v ≠ a) (h0 : σ.1 v = .inr (0, [.ref a])) (h1 : σ.1 a = .inl (3, 10, .inr (.inl (z64 w)))) (hb : zBd 1152921504606846976 w) (hl : zLt l) : zMet X mX2_follow yX2_follow 2 0 0 [.ref v, .int l] σ (zV (fun s => zFr σ s (fun q => q = a) ∧ s.1 a = .inl (3, 10, .inr (.inl (z64 (zsl l w)))))) := by
  obtain ⟨j, g1, g2, g3, g4⟩ := zLt_ix hl
  unfold zsl
  rw [g4]
  rcases zLt_sg hl with ⟨q, hs⟩ | ⟨q, hs⟩
  · rw [if_pos q]; exact qX2_followM hX hva h0 h1 hb g3 g1 g2 hs
  · rw [if_neg q]; exact qX2_followP hX hva h0 h1 hb g3 g1 g2 hs
set_option maxHeartbeats 400000 in
set_option maxRecDepth 100000 in
theorem qX2_straighten {X : zX} (hX : X.1.stackTraces = false) {σ : zS} {v a : Nat} {w : Nat → Int} (hva : v ≠ a) (h0 : σ.1 v = .inr (0, [.ref a])) (h1 : σ.1 a = .inl (3, 10, .inr (.inl (z64 w)))) : zMet X mX2_straighten yX2_straighten 0 0 0 [.ref v] σ (zV (fun s => zFr σ s (fun q => q = a) ∧ ∃ w1, zSm w1 z0 ∧ s.1 a = .inl (3, 10, .inr (.inl (z64 w1))))) := by
  refine zMet_of (ls := [some (.ref v), none]) rfl (by decide +kernel) rfl (fun h => by cases h) hX (Nat.le_of_ble_eq_true rfl) rfl ?_
  refine zr_iconst (v := 0) dX2_straighten_0 (by decide) ?_
  refine zr_istore_n (ls' := [some (.ref v), some (.int 0)]) dX2_straighten_1 rfl (by decide) rfl ?_
  refine zr_iload_n dX2_straighten_2 rfl ?_
  refine zr_bipush (v := 10) dX2_straighten_3 (by decide) ?_
  refine zr_icmp_ge (tgt := 24) dX2_straighten_5 (by decide) (fun c_5 => absurd c_5 (by decide)) (fun c_5 => ?_)
  refine zr_aload_n dX2_straighten_8 rfl ?_
  refine zr_getfield dX2_straighten_9 fX2_9 h0 rfl (by decide) ?_
  refine zr_iload_n dX2_straighten_12 rfl ?_
  refine zr_iload_n dX2_straighten_13 rfl ?_
  refine zr_iconst (v := 2) dX2_straighten_14 (by decide) ?_
  refine zr_irem dX2_straighten_15 (by decide) ?_
  refine zr_eqi (x' := 0) (by decide) ?_
  refine zr_i2l dX2_straighten_16 ?_
  refine zr_eql (x' := lI 0) (by decide +kernel) ?_
  refine zr_lastore dX2_straighten_17 h1 (vp_in_nI (n := 0) (by omega) (by omega)) ?_
  rw [show (0 : Int32).toNatClampNeg = 0 from by decide]
  rw [z64_upd]
  refine zr_sig (fun ks1 e_ks1 => ?_)
  have kh2 : ks1.1 v = .inr (0, [.ref a]) := by rw [e_ks1, zup_ne _ _ (by omega)]; exact h0
  have kh3 : ks1.1 a = .inl (3, 10, .inr (.inl (z64 (zuI w 0 0)))) := by rw [e_ks1]; exact zup_at _ _ _
  have kF4 := zFr.put zFr.rf (P := fun q => q = a) e_ks1 (by first | omega | simp)
  refine zr_iinc (v := 1) (ls' := [some (.ref v), some (.int 1)]) dX2_straighten_18 rfl (by decide) (by decide) rfl ?_
  refine zr_goto (tgt := 2) dX2_straighten_21 (by decide) ?_
  refine zr_iload_n dX2_straighten_2 rfl ?_
  refine zr_bipush (v := 10) dX2_straighten_3 (by decide) ?_
  refine zr_icmp_ge (tgt := 24) dX2_straighten_5 (by decide) (fun c_5 => absurd c_5 (by decide)) (fun c_5 => ?_)
  refine zr_aload_n dX2_straighten_8 rfl ?_
  refine zr_getfield dX2_straighten_9 fX2_9 kh2 rfl (by decide) ?_
  refine zr_iload_n dX2_straighten_12 rfl ?_
  refine zr_iload_n dX2_straighten_13 rfl ?_
  refine zr_iconst (v := 2) dX2_straighten_14 (by decide) ?_
  refine zr_irem dX2_straighten_15 (by decide) ?_
  refine zr_eqi (x' := 1) (by decide) ?_
  refine zr_i2l dX2_straighten_16 ?_
  refine zr_eql (x' := lI 1) (by decide +kernel) ?_
  refine zr_lastore dX2_straighten_17 kh3 (vp_in_nI (n := 1) (by omega) (by omega)) ?_
  rw [show (1 : Int32).toNatClampNeg = 1 from by decide]
  rw [z64_upd]
  refine zr_sig (fun ks5 e_ks5 => ?_)
  have kh6 : ks5.1 v = .inr (0, [.ref a]) := by rw [e_ks5, zup_ne _ _ (by omega)]; exact kh2
  have kh7 : ks5.1 a = .inl (3, 10, .inr (.inl (z64 (zuI (zuI w 0 0) 1 1)))) := by rw [e_ks5]; exact zup_at _ _ _
  have kF8 := zFr.put kF4 e_ks5 (by first | omega | simp)
  refine zr_iinc (v := 2) (ls' := [some (.ref v), some (.int 2)]) dX2_straighten_18 rfl (by decide) (by decide) rfl ?_
  refine zr_goto (tgt := 2) dX2_straighten_21 (by decide) ?_
  refine zr_iload_n dX2_straighten_2 rfl ?_
  refine zr_bipush (v := 10) dX2_straighten_3 (by decide) ?_
  refine zr_icmp_ge (tgt := 24) dX2_straighten_5 (by decide) (fun c_5 => absurd c_5 (by decide)) (fun c_5 => ?_)
  refine zr_aload_n dX2_straighten_8 rfl ?_
  refine zr_getfield dX2_straighten_9 fX2_9 kh6 rfl (by decide) ?_
  refine zr_iload_n dX2_straighten_12 rfl ?_
  refine zr_iload_n dX2_straighten_13 rfl ?_
  refine zr_iconst (v := 2) dX2_straighten_14 (by decide) ?_
  refine zr_irem dX2_straighten_15 (by decide) ?_
  refine zr_eqi (x' := 0) (by decide) ?_
  refine zr_i2l dX2_straighten_16 ?_
  refine zr_eql (x' := lI 0) (by decide +kernel) ?_
  refine zr_lastore dX2_straighten_17 kh7 (vp_in_nI (n := 2) (by omega) (by omega)) ?_
  rw [show (2 : Int32).toNatClampNeg = 2 from by decide]
  rw [z64_upd]
  refine zr_sig (fun ks9 e_ks9 => ?_)
  have kh10 : ks9.1 v = .inr (0, [.ref a]) := by rw [e_ks9, zup_ne _ _ (by omega)]; exact kh6
  have kh11 : ks9.1 a = .inl (3, 10, .inr (.inl (z64 (zuI (zuI (zuI w 0 0) 1 1) 2 0)))) := by rw [e_ks9]; exact zup_at _ _ _
  have kF12 := zFr.put kF8 e_ks9 (by first | omega | simp)
  refine zr_iinc (v := 3) (ls' := [some (.ref v), some (.int 3)]) dX2_straighten_18 rfl (by decide) (by decide) rfl ?_
  refine zr_goto (tgt := 2) dX2_straighten_21 (by decide) ?_
  refine zr_iload_n dX2_straighten_2 rfl ?_
  refine zr_bipush (v := 10) dX2_straighten_3 (by decide) ?_
  refine zr_icmp_ge (tgt := 24) dX2_straighten_5 (by decide) (fun c_5 => absurd c_5 (by decide)) (fun c_5 => ?_)
  refine zr_aload_n dX2_straighten_8 rfl ?_
  refine zr_getfield dX2_straighten_9 fX2_9 kh10 rfl (by decide) ?_
  refine zr_iload_n dX2_straighten_12 rfl ?_
  refine zr_iload_n dX2_straighten_13 rfl ?_
  refine zr_iconst (v := 2) dX2_straighten_14 (by decide) ?_
  refine zr_irem dX2_straighten_15 (by decide) ?_
  refine zr_eqi (x' := 1) (by decide) ?_
  refine zr_i2l dX2_straighten_16 ?_
  refine zr_eql (x' := lI 1) (by decide +kernel) ?_
  refine zr_lastore dX2_straighten_17 kh11 (vp_in_nI (n := 3) (by omega) (by omega)) ?_
  rw [show (3 : Int32).toNatClampNeg = 3 from by decide]
  rw [z64_upd]
  refine zr_sig (fun ks13 e_ks13 => ?_)
  have kh14 : ks13.1 v = .inr (0, [.ref a]) := by rw [e_ks13, zup_ne _ _ (by omega)]; exact kh10
  have kh15 : ks13.1 a = .inl (3, 10, .inr (.inl (z64 (zuI (zuI (zuI (zuI w 0 0) 1 1) 2 0) 3 1)))) := by rw [e_ks13]; exact zup_at _ _ _
  have kF16 := zFr.put kF12 e_ks13 (by first | omega | simp)
  refine zr_iinc (v := 4) (ls' := [some (.ref v), some (.int 4)]) dX2_straighten_18 rfl (by decide) (by decide) rfl ?_
  refine zr_goto (tgt := 2) dX2_straighten_21 (by decide) ?_
  refine zr_iload_n dX2_straighten_2 rfl ?_
  refine zr_bipush (v := 10) dX2_straighten_3 (by decide) ?_
  refine zr_icmp_ge (tgt := 24) dX2_straighten_5 (by decide) (fun c_5 => absurd c_5 (by decide)) (fun c_5 => ?_)
  refine zr_aload_n dX2_straighten_8 rfl ?_
  refine zr_getfield dX2_straighten_9 fX2_9 kh14 rfl (by decide) ?_
  refine zr_iload_n dX2_straighten_12 rfl ?_
  refine zr_iload_n dX2_straighten_13 rfl ?_
  refine zr_iconst (v := 2) dX2_straighten_14 (by decide) ?_
  refine zr_irem dX2_straighten_15 (by decide) ?_
  refine zr_eqi (x' := 0) (by decide) ?_
  refine zr_i2l dX2_straighten_16 ?_
  refine zr_eql (x' := lI 0) (by decide +kernel) ?_
  refine zr_lastore dX2_straighten_17 kh15 (vp_in_nI (n := 4) (by omega) (by omega)) ?_
  rw [show (4 : Int32).toNatClampNeg = 4 from by decide]
  rw [z64_upd]
  refine zr_sig (fun ks17 e_ks17 => ?_)
  have kh18 : ks17.1 v = .inr (0, [.ref a]) := by rw [e_ks17, zup_ne _ _ (by omega)]; exact kh14
  have kh19 : ks17.1 a = .inl (3, 10, .inr (.inl (z64 (zuI (zuI (zuI (zuI (zuI w 0 0) 1 1) 2 0) 3 1) 4 0)))) := by rw [e_ks17]; exact zup_at _ _ _
  have kF20 := zFr.put kF16 e_ks17 (by first | omega | simp)
  refine zr_iinc (v := 5) (ls' := [some (.ref v), some (.int 5)]) dX2_straighten_18 rfl (by decide) (by decide) rfl ?_
  refine zr_goto (tgt := 2) dX2_straighten_21 (by decide) ?_
  refine zr_iload_n dX2_straighten_2 rfl ?_
  refine zr_bipush (v := 10) dX2_straighten_3 (by decide) ?_
  refine zr_icmp_ge (tgt := 24) dX2_straighten_5 (by decide) (fun c_5 => absurd c_5 (by decide)) (fun c_5 => ?_)
  refine zr_aload_n dX2_straighten_8 rfl ?_
  refine zr_getfield dX2_straighten_9 fX2_9 kh18 rfl (by decide) ?_
  refine zr_iload_n dX2_straighten_12 rfl ?_
  refine zr_iload_n dX2_straighten_13 rfl ?_
  refine zr_iconst (v := 2) dX2_straighten_14 (by decide) ?_
  refine zr_irem dX2_straighten_15 (by decide) ?_
  refine zr_eqi (x' := 1) (by decide) ?_
  refine zr_i2l dX2_straighten_16 ?_
  refine zr_eql (x' := lI 1) (by decide +kernel) ?_
  refine zr_lastore dX2_straighten_17 kh19 (vp_in_nI (n := 5) (by omega) (by omega)) ?_
  rw [show (5 : Int32).toNatClampNeg = 5 from by decide]
  rw [z64_upd]
  refine zr_sig (fun ks21 e_ks21 => ?_)
  have kh22 : ks21.1 v = .inr (0, [.ref a]) := by rw [e_ks21, zup_ne _ _ (by omega)]; exact kh18
  have kh23 : ks21.1 a = .inl (3, 10, .inr (.inl (z64 (zuI (zuI (zuI (zuI (zuI (zuI w 0 0) 1 1) 2 0) 3 1) 4 0) 5 1)))) := by rw [e_ks21]; exact zup_at _ _ _
  have kF24 := zFr.put kF20 e_ks21 (by first | omega | simp)
  refine zr_iinc (v := 6) (ls' := [some (.ref v), some (.int 6)]) dX2_straighten_18 rfl (by decide) (by decide) rfl ?_
  refine zr_goto (tgt := 2) dX2_straighten_21 (by decide) ?_
  refine zr_iload_n dX2_straighten_2 rfl ?_
  refine zr_bipush (v := 10) dX2_straighten_3 (by decide) ?_
  refine zr_icmp_ge (tgt := 24) dX2_straighten_5 (by decide) (fun c_5 => absurd c_5 (by decide)) (fun c_5 => ?_)
  refine zr_aload_n dX2_straighten_8 rfl ?_
  refine zr_getfield dX2_straighten_9 fX2_9 kh22 rfl (by decide) ?_
  refine zr_iload_n dX2_straighten_12 rfl ?_
  refine zr_iload_n dX2_straighten_13 rfl ?_
  refine zr_iconst (v := 2) dX2_straighten_14 (by decide) ?_
  refine zr_irem dX2_straighten_15 (by decide) ?_
  refine zr_eqi (x' := 0) (by decide) ?_
  refine zr_i2l dX2_straighten_16 ?_
  refine zr_eql (x' := lI 0) (by decide +kernel) ?_
  refine zr_lastore dX2_straighten_17 kh23 (vp_in_nI (n := 6) (by omega) (by omega)) ?_
  rw [show (6 : Int32).toNatClampNeg = 6 from by decide]
  rw [z64_upd]
  refine zr_sig (fun ks25 e_ks25 => ?_)
  have kh26 : ks25.1 v = .inr (0, [.ref a]) := by rw [e_ks25, zup_ne _ _ (by omega)]; exact kh22
  have kh27 : ks25.1 a = .inl (3, 10, .inr (.inl (z64 (zuI (zuI (zuI (zuI (zuI (zuI (zuI w 0 0) 1 1) 2 0) 3 1) 4 0) 5 1) 6 0)))) := by rw [e_ks25]; exact zup_at _ _ _
  have kF28 := zFr.put kF24 e_ks25 (by first | omega | simp)
  refine zr_iinc (v := 7) (ls' := [some (.ref v), some (.int 7)]) dX2_straighten_18 rfl (by decide) (by decide) rfl ?_
  refine zr_goto (tgt := 2) dX2_straighten_21 (by decide) ?_
  refine zr_iload_n dX2_straighten_2 rfl ?_
  refine zr_bipush (v := 10) dX2_straighten_3 (by decide) ?_
  refine zr_icmp_ge (tgt := 24) dX2_straighten_5 (by decide) (fun c_5 => absurd c_5 (by decide)) (fun c_5 => ?_)
  refine zr_aload_n dX2_straighten_8 rfl ?_
  refine zr_getfield dX2_straighten_9 fX2_9 kh26 rfl (by decide) ?_
  refine zr_iload_n dX2_straighten_12 rfl ?_
  refine zr_iload_n dX2_straighten_13 rfl ?_
  refine zr_iconst (v := 2) dX2_straighten_14 (by decide) ?_
  refine zr_irem dX2_straighten_15 (by decide) ?_
  refine zr_eqi (x' := 1) (by decide) ?_
  refine zr_i2l dX2_straighten_16 ?_
  refine zr_eql (x' := lI 1) (by decide +kernel) ?_
  refine zr_lastore dX2_straighten_17 kh27 (vp_in_nI (n := 7) (by omega) (by omega)) ?_
  rw [show (7 : Int32).toNatClampNeg = 7 from by decide]
  rw [z64_upd]
  refine zr_sig (fun ks29 e_ks29 => ?_)
  have kh30 : ks29.1 v = .inr (0, [.ref a]) := by rw [e_ks29, zup_ne _ _ (by omega)]; exact kh26
  have kh31 : ks29.1 a = .inl (3, 10, .inr (.inl (z64 (zuI (zuI (zuI (zuI (zuI (zuI (zuI (zuI w 0 0) 1 1) 2 0) 3 1) 4 0) 5 1) 6 0) 7 1)))) := by rw [e_ks29]; exact zup_at _ _ _
  have kF32 := zFr.put kF28 e_ks29 (by first | omega | simp)
  refine zr_iinc (v := 8) (ls' := [some (.ref v), some (.int 8)]) dX2_straighten_18 rfl (by decide) (by decide) rfl ?_
  refine zr_goto (tgt := 2) dX2_straighten_21 (by decide) ?_
  refine zr_iload_n dX2_straighten_2 rfl ?_
  refine zr_bipush (v := 10) dX2_straighten_3 (by decide) ?_
  refine zr_icmp_ge (tgt := 24) dX2_straighten_5 (by decide) (fun c_5 => absurd c_5 (by decide)) (fun c_5 => ?_)
  refine zr_aload_n dX2_straighten_8 rfl ?_
  refine zr_getfield dX2_straighten_9 fX2_9 kh30 rfl (by decide) ?_
  refine zr_iload_n dX2_straighten_12 rfl ?_
  refine zr_iload_n dX2_straighten_13 rfl ?_
  refine zr_iconst (v := 2) dX2_straighten_14 (by decide) ?_
  refine zr_irem dX2_straighten_15 (by decide) ?_
  refine zr_eqi (x' := 0) (by decide) ?_
  refine zr_i2l dX2_straighten_16 ?_
  refine zr_eql (x' := lI 0) (by decide +kernel) ?_
  refine zr_lastore dX2_straighten_17 kh31 (vp_in_nI (n := 8) (by omega) (by omega)) ?_
  rw [show (8 : Int32).toNatClampNeg = 8 from by decide]
  rw [z64_upd]
  refine zr_sig (fun ks33 e_ks33 => ?_)
  have kh34 : ks33.1 v = .inr (0, [.ref a]) := by rw [e_ks33, zup_ne _ _ (by omega)]; exact kh30
  have kh35 : ks33.1 a = .inl (3, 10, .inr (.inl (z64 (zuI (zuI (zuI (zuI (zuI (zuI (zuI (zuI (zuI w 0 0) 1 1) 2 0) 3 1) 4 0) 5 1) 6 0) 7 1) 8 0)))) := by rw [e_ks33]; exact zup_at _ _ _
  have kF36 := zFr.put kF32 e_ks33 (by first | omega | simp)
  refine zr_iinc (v := 9) (ls' := [some (.ref v), some (.int 9)]) dX2_straighten_18 rfl (by decide) (by decide) rfl ?_
  refine zr_goto (tgt := 2) dX2_straighten_21 (by decide) ?_
  refine zr_iload_n dX2_straighten_2 rfl ?_
  refine zr_bipush (v := 10) dX2_straighten_3 (by decide) ?_
  refine zr_icmp_ge (tgt := 24) dX2_straighten_5 (by decide) (fun c_5 => absurd c_5 (by decide)) (fun c_5 => ?_)
  refine zr_aload_n dX2_straighten_8 rfl ?_
  refine zr_getfield dX2_straighten_9 fX2_9 kh34 rfl (by decide) ?_
  refine zr_iload_n dX2_straighten_12 rfl ?_
  refine zr_iload_n dX2_straighten_13 rfl ?_
  refine zr_iconst (v := 2) dX2_straighten_14 (by decide) ?_
  refine zr_irem dX2_straighten_15 (by decide) ?_
  refine zr_eqi (x' := 1) (by decide) ?_
  refine zr_i2l dX2_straighten_16 ?_
  refine zr_eql (x' := lI 1) (by decide +kernel) ?_
  refine zr_lastore dX2_straighten_17 kh35 (vp_in_nI (n := 9) (by omega) (by omega)) ?_
  rw [show (9 : Int32).toNatClampNeg = 9 from by decide]
  rw [z64_upd]
  refine zr_sig (fun ks37 e_ks37 => ?_)
  have kh38 : ks37.1 v = .inr (0, [.ref a]) := by rw [e_ks37, zup_ne _ _ (by omega)]; exact kh34
  have kh39 : ks37.1 a = .inl (3, 10, .inr (.inl (z64 (zuI (zuI (zuI (zuI (zuI (zuI (zuI (zuI (zuI (zuI w 0 0) 1 1) 2 0) 3 1) 4 0) 5 1) 6 0) 7 1) 8 0) 9 1)))) := by rw [e_ks37]; exact zup_at _ _ _
  have kF40 := zFr.put kF36 e_ks37 (by first | omega | simp)
  refine zr_iinc (v := 10) (ls' := [some (.ref v), some (.int 10)]) dX2_straighten_18 rfl (by decide) (by decide) rfl ?_
  refine zr_goto (tgt := 2) dX2_straighten_21 (by decide) ?_
  refine zr_iload_n dX2_straighten_2 rfl ?_
  refine zr_bipush (v := 10) dX2_straighten_3 (by decide) ?_
  refine zr_icmp_ge (tgt := 24) dX2_straighten_5 (by decide) (fun c_5 => ?_) (fun c_5 => absurd (by decide) c_5)
  exact zr_return dX2_straighten_24 rfl (⟨rfl, kF40, _, by intro k hk; have : k = 0 ∨ k = 1 ∨ k = 2 ∨ k = 3 ∨ k = 4 ∨ k = 5 ∨ k = 6 ∨ k = 7 ∨ k = 8 ∨ k = 9 := (by omega); rcases this with rfl | rfl | rfl | rfl | rfl | rfl | rfl | rfl | rfl | rfl <;> rfl, kh39⟩)

/-- every start of the word keeps the coordinates small -/
def zBw (L : List Int32) : Prop := ∀ M N : List Int32, L = M ++ N → zBd 1152921504606846976 (zcv z0 M) ∨ N = []
theorem zBw.at {L M N : List Int32} {l : Int32} (h : zBw L) (e : L = M ++ l :: N) {w : Nat → Int} (hs : zSm w (zcv z0 M)) : zBd 1152921504606846976 w := by
  intro k hk
  rcases h M (l :: N) e with q | q
  · rw [hs k hk]; exact q k hk
  · cases q
theorem zcv_snoc (w : Nat → Int) (L : List Int32) (l : Int32) : zcv w (L ++ [l]) = zsl l (zcv w L) := by rw [zcv_app]; rfl
set_option maxHeartbeats 400000 in
set_option maxRecDepth 100000 in
theorem l_dw {X : zX} (hX : X.1.stackTraces = false) {σ : zS} {v a x b k : Nat} {e : Nat → Int32} (hva : v ≠ a) (h0 : σ.1 v = .inr (0, [.ref a])) (hw : σ.1 x = .inr (6, [.ref b, .int (nI k)])) (hb : σ.1 b = .inl (0, 16, .inl e)) (hk : k ≤ 16) (hxa : x ≠ a) (hba : b ≠ a) (hl : ∀ y ∈ zP e k, zLt y) (hB : zBw (zP e k)) : ∀ (j i : Nat) (s : zS) (w : Nat → Int), i + j = k → zFr σ s (fun q => q = a) → s.1 a = .inl (3, 10, .inr (.inl (z64 w))) → zSm w (zcv z0 (zP e i)) → zW X mX2_drawWord 3 0 0 (zV (fun s => zFr σ s (fun q => q = a) ∧ ∃ w1, zSm w1 (zcv z0 (zP e k)) ∧ s.1 a = .inl (3, 10, .inr (.inl (z64 w1))))) 6 [some (.ref v), some (.ref x), some (.int (nI i))] [] s := by
  intro j
  induction j with
  | zero =>
    intro i s w hi hF h1 hz
    have kv := zFr.get hF (by omega) h0
    have kx := zFr.get hF (by omega) hw
    have kb := zFr.get hF (by omega) hb
    refine zr_iload_n dX2_drawWord_6 rfl ?_
    refine zr_aload_n dX2_drawWord_7 rfl ?_
    refine zr_getfield dX2_drawWord_8 fX2_18 kx rfl (by decide) ?_
    refine zr_icmp_ge (tgt := 30) dX2_drawWord_11 (by decide) (fun c_11 => ?_) (fun c_11 => absurd ((nI_leI (a := k) (b := i) (by omega) (by omega)).mpr (by omega)) c_11)
    exact zr_return dX2_drawWord_30 rfl (⟨rfl, hF, w, (by rw [show i = k from by omega] at hz; exact hz), h1⟩)
  | succ j ih =>
    intro i s w hi hF h1 hz
    have kv := zFr.get hF (by omega) h0
    have kx := zFr.get hF (by omega) hw
    have kb := zFr.get hF (by omega) hb
    have hlt : zLt (e i) := hl _ (zP_mem e (by omega))
    have hbd : zBd 1152921504606846976 w := hB.at (zP_split e (i := i) (n := k) (by omega)) hz
    refine zr_iload_n dX2_drawWord_6 rfl ?_
    refine zr_aload_n dX2_drawWord_7 rfl ?_
    refine zr_getfield dX2_drawWord_8 fX2_18 kx rfl (by decide) ?_
    refine zr_icmp_ge (tgt := 30) dX2_drawWord_11 (by decide) (fun c_11 => absurd c_11 (fun h => absurd ((nI_leI (a := k) (b := i) (by omega) (by omega)).mp h) (by omega))) (fun c_11 => ?_)
    refine zr_aload_n dX2_drawWord_14 rfl ?_
    refine zr_aload_n dX2_drawWord_15 rfl ?_
    refine zr_getfield dX2_drawWord_16 fX2_24 kx rfl (by decide) ?_
    refine zr_iload_n dX2_drawWord_19 rfl ?_
    refine zr_iaload dX2_drawWord_20 kb (vp_in_nI (n := i) (by omega) (by omega)) ?_
    rw [nI_clamp (n := i) (by omega)]
    refine zr_callVv [] dX2_drawWord_21 vX2_28 (qX2_follow hX (l := (e i)) (by omega) kv h1 (by assumption) (by assumption)) kv (by decide) (by decide) (by decide) rfl rfl (Nat.le_of_ble_eq_true rfl) (by decide) rfl (fun s_kr1 h_kr1 => ?_)
    obtain ⟨F_kr1, g0_kr1⟩ := h_kr1
    have kh2 : s_kr1.1 v = .inr (0, [.ref a]) := zFr.get F_kr1 (by omega) kv
    have kh3 : s_kr1.1 x = .inr (6, [.ref b, .int (nI k)]) := zFr.get F_kr1 (by omega) kx
    have kh4 : s_kr1.1 b = .inl (0, 16, .inl e) := zFr.get F_kr1 (by omega) kb
    have kF5 := zFr.tr hF F_kr1 (by intro q hq; omega)
    refine zr_iinc (v := nI (i + 1)) (ls' := [some (.ref v), some (.ref x), some (.int (nI (i + 1)))]) dX2_drawWord_24 rfl (nI_1 _) (by decide) rfl ?_
    refine zr_goto (tgt := 6) dX2_drawWord_27 (by decide) ?_
    exact ih (i + 1) _ _ (by omega) (kF5) (g0_kr1) (by simp only [zP]; rw [zcv_snoc]; exact zsl_sm hz hlt)

set_option maxHeartbeats 400000 in
set_option maxRecDepth 100000 in
theorem qX2_drawWord {X : zX} (hX : X.1.stackTraces = false) {σ : zS} {v a x b k : Nat} {e : Nat → Int32} {w : Nat → Int} (hva : v ≠ a) (h0 : σ.1 v = .inr (0, [.ref a])) (h1 : σ.1 a = .inl (3, 10, .inr (.inl (z64 w)))) (hw : σ.1 x = .inr (6, [.ref b, .int (nI k)])) (hb : σ.1 b = .inl (0, 16, .inl e)) (hk : k ≤ 16) (hxa : x ≠ a) (hba : b ≠ a) (hl : ∀ y ∈ zP e k, zLt y) (hB : zBw (zP e k)) : zMet X mX2_drawWord yX2_drawWord 3 0 0 [.ref v, .ref x] σ (zV (fun s => zFr σ s (fun q => q = a) ∧ ∃ w1, zSm w1 (zcv z0 (zP e k)) ∧ s.1 a = .inl (3, 10, .inr (.inl (z64 w1))))) := by
  refine zMet_of (ls := [some (.ref v), some (.ref x), none]) rfl (by decide +kernel) rfl (fun h => by cases h) hX (Nat.le_of_ble_eq_true rfl) rfl ?_
  refine zr_aload_n dX2_drawWord_0 rfl ?_
  refine zr_callVv [] dX2_drawWord_1 vX2_15 (qX2_straighten hX (by omega) h0 h1) h0 (by decide) (by decide) (by decide) rfl rfl (Nat.le_of_ble_eq_true rfl) (by decide) rfl (fun s_kr1 h_kr1 => ?_)
  obtain ⟨F_kr1, kw2, kz3, g_kr1⟩ := h_kr1
  have kh4 : s_kr1.1 v = .inr (0, [.ref a]) := zFr.get F_kr1 (by omega) h0
  have kh5 : s_kr1.1 x = .inr (6, [.ref b, .int (nI k)]) := zFr.get F_kr1 (by omega) hw
  have kh6 : s_kr1.1 b = .inl (0, 16, .inl e) := zFr.get F_kr1 (by omega) hb
  have kF7 := zFr.tr zFr.rf (P := fun q => q = a) F_kr1 (by intro q hq; omega)
  refine zr_iconst (v := 0) dX2_drawWord_4 (by decide) ?_
  refine zr_istore_n (ls' := [some (.ref v), some (.ref x), some (.int 0)]) dX2_drawWord_5 rfl (by decide) rfl ?_
  exact l_dw hX hva h0 hw hb hk hxa hba hl hB k 0 _ _ (by omega) kF7 g_kr1 kz3

