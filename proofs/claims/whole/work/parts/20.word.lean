/-! a word: its letters in a row -/
def zbh (f : Nat → Int32) (j l : Int32) : Nat → Int32
  | 0 => -1
  | i + 1 => if zix (f i) = j then (if f i = -l then nI i else -1) else if zix (f i) = j - 1 then -1 else zbh f j l i
/-- where the handle begins that ends at e -/
def zhb (f : Nat → Int32) (e : Nat) : Int32 := zbh f (zix (f e)) (f e) e
def zSum (f : Nat → Int32) : Nat → Int32
  | 0 => 0
  | n + 1 => zSum f n + zsg (f n).toInt64
def zEnd (f : Nat → Int32) (p : Int32) : Nat → Int32
  | 0 => p
  | n + 1 => zpa (zix (f n)) (zEnd f p n)
/-- the first handle's end from e on, k places left -/
def zfe (f : Nat → Int32) (e : Nat) : Nat → Int32
  | 0 => -1
  | k + 1 => if zhb f e = -1 then zfe f (e + 1) k else nI e
def zRP (f : Nat → Int32) : Nat → Nat × (Nat → Int32)
  | 0 => (0, f)
  | i + 1 => if 0 < (zRP f i).1 ∧ (zRP f i).2 ((zRP f i).1 - 1) = -((zRP f i).2 i) then ((zRP f i).1 - 1, (zRP f i).2) else ((zRP f i).1 + 1, upd (zRP f i).2 (zRP f i).1 ((zRP f i).2 i))
theorem zRP_le (f : Nat → Int32) : ∀ i, (zRP f i).1 ≤ i := by
  intro i
  induction i with
  | zero => exact Nat.le_refl _
  | succ i ih =>
    simp only [zRP]
    split
    · dsimp only; omega
    · dsimp only; omega
/-- the crossings of two strands: where they are, the sum -/
def zCr (f : Nat → Int32) (a b : Int32) : Nat → Int32 × Int32 × Int32
  | 0 => (a, b, 0)
  | n + 1 => (zpa (zix (f n)) (zCr f a b n).1, zpa (zix (f n)) (zCr f a b n).2.1, if ¬ (zCr f a b n).1 = (zCr f a b n).2.1 ∧ zpa (zix (f n)) (zCr f a b n).1 = (zCr f a b n).2.1 then (zCr f a b n).2.2 + zsg (f n).toInt64 else (zCr f a b n).2.2)
set_option maxHeartbeats 4000000 in
set_option maxRecDepth 100000 in
theorem l_beginOfHandle {X : zX} (hX : X.1.stackTraces = false) (σ : zS) (a N e d bc bs : Nat) (f : Nat → Int32) (x4 : Option Value) (hd : 1 ≤ d) (h0 : σ.1 a = .inl (0, N, .inl f)) (hN : N < 2 ^ 31) (he : e < N) : ∀ (i : Nat), i ≤ e → zhb f e = zbh f (zix (f e)) (f e) i → zW X mX9_beginOfHandle d bc bs (zI (fun r s => r = zhb f e ∧ s = σ)) 23 [some (.ref a), some (.int (nI e)), some (.int (zix (f e))), some (.int (nI i - 1)), x4] [] σ := by
  intro i
  induction i generalizing x4 with
  | zero =>
    intro hi hz
    refine zr_iload_n dX9_beginOfHandle_23 rfl ?_
    refine zr_if_lt (tgt := 73) dX9_beginOfHandle_24 (by decide) (fun c_24 => ?_) (fun c_24 => absurd (by decide) c_24)
    refine zr_iconst (v := -1) dX9_beginOfHandle_73 (by decide) ?_
    exact zr_ireturn dX9_beginOfHandle_74 rfl (rfl) (⟨_, rfl, hz.symm ▸ rfl, rfl⟩)
  | succ i ih =>
    intro hi hz
    rw [show nI (i + 1) - 1 = nI i from nI_pred i]
    refine zr_iload_n dX9_beginOfHandle_23 rfl ?_
    refine zr_if_lt (tgt := 73) dX9_beginOfHandle_24 (by decide) (fun c_24 => absurd c_24 (nI_pos (by omega))) (fun c_24 => ?_)
    refine zr_aload_n dX9_beginOfHandle_27 rfl ?_
    refine zr_iload_n dX9_beginOfHandle_28 rfl ?_
    refine zr_iaload dX9_beginOfHandle_29 h0 (vp_in_nI (n := i) (by omega) (by omega)) ?_
    rw [nI_clamp (n := i) (by omega)]
    refine zr_callSi [] dX9_beginOfHandle_30 vX9_409 (qX9_indexOf hX σ ((f i))) (by decide) (Nat.zero_le _) (Nat.zero_le _) rfl rfl (by decide) rfl (fun r1 s_r1 h_r1 => ?_)
    obtain ⟨e_r1, rfl⟩ := h_r1
    subst e_r1
    refine zr_istore (ls' := [some (.ref a), some (.int (nI e)), some (.int ((zix (f e)))), some (.int (nI i)), some (.int ((zix (f i))))]) dX9_beginOfHandle_33 (by decide) rfl ?_
    refine zr_iload dX9_beginOfHandle_35 rfl ?_
    refine zr_iload_n dX9_beginOfHandle_37 rfl ?_
    refine zr_icmp_ne (tgt := 57) dX9_beginOfHandle_38 (by decide) (fun c_38 => ?_) (fun c_38 => ?_)
    · refine zr_iload dX9_beginOfHandle_57 rfl ?_
      refine zr_iload_n dX9_beginOfHandle_59 rfl ?_
      refine zr_iconst (v := 1) dX9_beginOfHandle_60 (by decide) ?_
      refine zr_isub dX9_beginOfHandle_61 ?_
      refine zr_icmp_ne (tgt := 67) dX9_beginOfHandle_62 (by decide) (fun c_62 => ?_) (fun c_62 => ?_)
      · refine zr_iinc (v := nI i - 1) (ls' := [some (.ref a), some (.int (nI e)), some (.int ((zix (f e)))), some (.int (nI i - 1)), some (.int ((zix (f i))))]) dX9_beginOfHandle_67 rfl (rfl) (by decide) rfl ?_
        refine zr_goto (tgt := 23) dX9_beginOfHandle_70 (by decide) ?_
    exact ih _ (by omega) (hz.trans (by simp only [zbh]; rw [if_neg c_38, if_neg c_62]))
      · refine zr_iconst (v := -1) dX9_beginOfHandle_65 (by decide) ?_
        exact zr_ireturn dX9_beginOfHandle_66 rfl (rfl) (⟨_, rfl, by rw [hz]; simp only [zbh]; (repeat' split) <;> first | rfl | contradiction | simp_all, rfl⟩)
    · refine zr_aload_n dX9_beginOfHandle_41 rfl ?_
      refine zr_iload_n dX9_beginOfHandle_42 rfl ?_
      refine zr_iaload dX9_beginOfHandle_43 h0 (vp_in_nI (n := i) (by omega) (by omega)) ?_
      rw [nI_clamp (n := i) (by omega)]
      refine zr_aload_n dX9_beginOfHandle_44 rfl ?_
      refine zr_iload_n dX9_beginOfHandle_45 rfl ?_
      refine zr_iaload dX9_beginOfHandle_46 h0 (vp_in_nI (n := e) (by omega) (by omega)) ?_
      rw [nI_clamp (n := e) (by omega)]
      refine zr_ineg dX9_beginOfHandle_47 ?_
      refine zr_icmp_ne (tgt := 55) dX9_beginOfHandle_48 (by decide) (fun c_48 => ?_) (fun c_48 => ?_)
      · refine zr_iconst (v := -1) dX9_beginOfHandle_55 (by decide) ?_
        exact zr_ireturn dX9_beginOfHandle_56 rfl (rfl) (⟨_, rfl, by rw [hz]; simp only [zbh]; (repeat' split) <;> first | rfl | contradiction | simp_all, rfl⟩)
      · refine zr_iload_n dX9_beginOfHandle_51 rfl ?_
        refine zr_goto (tgt := 56) dX9_beginOfHandle_52 (by decide) ?_
        exact zr_ireturn dX9_beginOfHandle_56 rfl (rfl) (⟨_, rfl, by rw [hz]; simp only [zbh]; (repeat' split) <;> first | rfl | contradiction | simp_all, rfl⟩)
