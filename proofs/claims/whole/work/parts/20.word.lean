theorem zr_pSi {X : zX} {M M' : zMd} {d bc bs : Nat} {Q : zO → zS → Prop} {pc : Nat} {ls : List (Option Value)} {st : List Value} {σ : zS} {F : Int32} {idx n d' mc ms : Nat} {y : MethodName} {vs : List Value} (rest : List Value) (hd : decode M.2.1 pc = .ok (.invokestatic idx, 3)) (hk : zLkS M.1 idx y M' n) (hm : zMet X M' y d' mc ms vs σ (zI (fun r s => r = F ∧ s = σ))) (hd' : d' + 1 ≤ d) (h1 : mc ≤ bc) (h2 : ms ≤ bs) (hn : vs.length = n) (hst : st = vs.reverse ++ rest) (hcat : (rest.map fun v => v.category).sum ≤ 8) (htab : M.2.2.2.2.2 = []) (kk : zW X M d (bc - mc) (bs - ms) Q (pc + 3) ls (.int F :: rest) σ) : zW X M d bc bs Q pc ls st σ := zr_callSi rest hd hk hm hd' h1 h2 hn hst hcat htab (fun r σ' h => by rw [h.1, h.2]; exact kk)
theorem zr_pVi {X : zX} {M M' : zMd} {d bc bs : Nat} {Q : zO → zS → Prop} {pc : Nat} {ls : List (Option Value)} {st : List Value} {σ : zS} {F : Int32} {idx n ci d' mc ms b : Nat} {y : MethodName} {vs fs : List Value} (rest : List Value) (hd : decode M.2.1 pc = .ok (.invokevirtual idx, 3)) (hk : zLkV M.1 idx y M' n ci) (hm : zMet X M' y d' mc ms (.ref b :: vs) σ (zI (fun r s => r = F ∧ s = σ))) (hσ : σ.1 b = .inr (ci, fs)) (hd' : d' + 1 ≤ d) (h1 : mc ≤ bc) (h2 : ms ≤ bs) (hn : vs.length = n) (hst : st = vs.reverse ++ .ref b :: rest) (hcat : (rest.map fun v => v.category).sum ≤ 8) (h99 : ci ≠ 99) (htab : M.2.2.2.2.2 = []) (kk : zW X M d (bc - mc) (bs - ms) Q (pc + 3) ls (.int F :: rest) σ) : zW X M d bc bs Q pc ls st σ := zr_callVi rest hd hk hm hσ hd' h1 h2 hn hst hcat h99 htab (fun r σ' h => by rw [h.1, h.2]; exact kk)
theorem zr_pSl {X : zX} {M M' : zMd} {d bc bs : Nat} {Q : zO → zS → Prop} {pc : Nat} {ls : List (Option Value)} {st : List Value} {σ : zS} {F : Int64} {idx n d' mc ms : Nat} {y : MethodName} {vs : List Value} (rest : List Value) (hd : decode M.2.1 pc = .ok (.invokestatic idx, 3)) (hk : zLkS M.1 idx y M' n) (hm : zMet X M' y d' mc ms vs σ (zJ (fun r s => r = F ∧ s = σ))) (hd' : d' + 1 ≤ d) (h1 : mc ≤ bc) (h2 : ms ≤ bs) (hn : vs.length = n) (hst : st = vs.reverse ++ rest) (hcat : (rest.map fun v => v.category).sum ≤ 8) (htab : M.2.2.2.2.2 = []) (kk : zW X M d (bc - mc) (bs - ms) Q (pc + 3) ls (.long F :: rest) σ) : zW X M d bc bs Q pc ls st σ := zr_callSl rest hd hk hm hd' h1 h2 hn hst hcat htab (fun r σ' h => by rw [h.1, h.2]; exact kk)
theorem zr_pVl {X : zX} {M M' : zMd} {d bc bs : Nat} {Q : zO → zS → Prop} {pc : Nat} {ls : List (Option Value)} {st : List Value} {σ : zS} {F : Int64} {idx n ci d' mc ms b : Nat} {y : MethodName} {vs fs : List Value} (rest : List Value) (hd : decode M.2.1 pc = .ok (.invokevirtual idx, 3)) (hk : zLkV M.1 idx y M' n ci) (hm : zMet X M' y d' mc ms (.ref b :: vs) σ (zJ (fun r s => r = F ∧ s = σ))) (hσ : σ.1 b = .inr (ci, fs)) (hd' : d' + 1 ≤ d) (h1 : mc ≤ bc) (h2 : ms ≤ bs) (hn : vs.length = n) (hst : st = vs.reverse ++ .ref b :: rest) (hcat : (rest.map fun v => v.category).sum ≤ 8) (h99 : ci ≠ 99) (htab : M.2.2.2.2.2 = []) (kk : zW X M d (bc - mc) (bs - ms) Q (pc + 3) ls (.long F :: rest) σ) : zW X M d bc bs Q pc ls st σ := zr_callVl rest hd hk hm hσ hd' h1 h2 hn hst hcat h99 htab (fun r σ' h => by rw [h.1, h.2]; exact kk)
theorem z_m1 (x : Int32) : x + (-1) = x - 1 := (Int32.sub_eq_add_neg x 1).symm
/-! a word: its letters in a row -/
def zbh (f : Nat → Int32) (j l : Int32) : Nat → Int32
  | 0 => -1
  | i + 1 => if zix (f i) = j then (if f i = -l then nI i else -1) else if zix (f i) = j - 1 then -1 else zbh f j l i
/-- where the handle begins that ends at e -/
def zhb (f : Nat → Int32) (e : Nat) : Int32 := zbh f (zix (f e)) (f e) e
def zSum (f : Nat → Int32) : Nat → Int32
  | 0 => 0
  | n + 1 => zSum f n + zsg (f n).toInt64
def zEnd (f : Nat → Int32) (p : Int32) : Nat → Int32
  | 0 => p
  | n + 1 => zpa (zix (f n)) (zEnd f p n)
/-- the first handle's end from e on, k places left -/
def zfe (f : Nat → Int32) (e : Nat) : Nat → Int32
  | 0 => -1
  | k + 1 => if zhb f e = -1 then zfe f (e + 1) k else nI e
def zRP (f : Nat → Int32) : Nat → Nat × (Nat → Int32)
  | 0 => (0, f)
  | i + 1 => if 0 < (zRP f i).1 ∧ (zRP f i).2 ((zRP f i).1 - 1) = -((zRP f i).2 i) then ((zRP f i).1 - 1, (zRP f i).2) else ((zRP f i).1 + 1, upd (zRP f i).2 (zRP f i).1 ((zRP f i).2 i))
theorem zRP_le (f : Nat → Int32) : ∀ i, (zRP f i).1 ≤ i := by
  intro i
  induction i with
  | zero => exact Nat.le_refl _
  | succ i ih =>
    simp only [zRP]
    split
    · dsimp only; omega
    · dsimp only; omega
/-- the crossings of two strands: where they are, the sum -/
def zCr (f : Nat → Int32) (a b : Int32) : Nat → Int32 × Int32 × Int32
  | 0 => (a, b, 0)
  | n + 1 => (zpa (zix (f n)) (zCr f a b n).1, zpa (zix (f n)) (zCr f a b n).2.1, if ¬ (zCr f a b n).1 = (zCr f a b n).2.1 ∧ zpa (zix (f n)) (zCr f a b n).1 = (zCr f a b n).2.1 then (zCr f a b n).2.2 + zsg (f n).toInt64 else (zCr f a b n).2.2)
def zPure (f : Nat → Int32) (n : Nat) : Int32 := if zEnd f 1 n = 1 ∧ zEnd f 2 n = 2 ∧ zEnd f 3 n = 3 ∧ zEnd f 4 n = 4 ∧ zEnd f 5 n = 5 then 1 else 0
def zLeast (f : Nat → Int32) (n : Nat) (b : Int32) : Int32 :=
  if zEnd f b n < b ∨ zEnd f (zEnd f b n) n < b ∨ zEnd f (zEnd f (zEnd f b n) n) n < b ∨ zEnd f (zEnd f (zEnd f (zEnd f b n) n) n) n < b ∨ zEnd f (zEnd f (zEnd f (zEnd f (zEnd f b n) n) n) n) n < b then 0 else 1
def zCyc (f : Nat → Int32) (n : Nat) : Nat → Int32
  | 0 => 0
  | i + 1 => if zLeast f n (nI (i + 1)) = 0 then zCyc f n i else zCyc f n i + 1

set_option maxHeartbeats 4000000 in
set_option maxRecDepth 100000 in
theorem l_beginOfHandle {X : zX} (hX : X.1.stackTraces = false) {σ : zS} {a N e : Nat} {f : Nat → Int32} (h0 : σ.1 a = .inl (0, N, .inl f)) (hN : N < 2 ^ 31) (he : e < N) : ∀ (i : Nat) (x4 : Option Value), i ≤ e → zhb f e = zbh f (zix (f e)) (f e) i → zW X mX9_beginOfHandle 1 0 0 (zI (fun r s => r = zhb f e ∧ s = σ)) 23 [some (.ref a), some (.int (nI e)), some (.int (zix (f e))), some (.int (nI i - 1)), x4] [] σ := by
  intro i
  induction i with
  | zero =>
    intro x4 hi hz
    refine zr_iload_n dX9_beginOfHandle_23 rfl ?_
    refine zr_if_lt (tgt := 73) dX9_beginOfHandle_24 (by decide) (fun c_24 => ?_) (fun c_24 => absurd (by decide) c_24)
    refine zr_iconst (v := -1) dX9_beginOfHandle_73 (by decide) ?_
    exact zr_ireturn dX9_beginOfHandle_74 rfl (rfl) (⟨_, rfl, hz.symm ▸ rfl, rfl⟩)
  | succ i ih =>
    intro x4 hi hz
    rw [show nI (i + 1) - 1 = nI i from nI_pred i]
    refine zr_iload_n dX9_beginOfHandle_23 rfl ?_
    refine zr_if_lt (tgt := 73) dX9_beginOfHandle_24 (by decide) (fun c_24 => absurd c_24 (nI_pos (by omega))) (fun c_24 => ?_)
    refine zr_aload_n dX9_beginOfHandle_27 rfl ?_
    refine zr_iload_n dX9_beginOfHandle_28 rfl ?_
    refine zr_iaload dX9_beginOfHandle_29 h0 (vp_in_nI (n := i) (by omega) (by omega)) ?_
    rw [nI_clamp (n := i) (by omega)]
    refine zr_pSi [] dX9_beginOfHandle_30 vX9_408 (qX9_indexOf hX σ ((f i))) (by decide) (by decide) (by decide) rfl rfl (Nat.le_of_ble_eq_true rfl) rfl ?_
    refine zr_istore (ls' := [some (.ref a), some (.int (nI e)), some (.int ((zix (f e)))), some (.int (nI i)), some (.int ((zix (f i))))]) dX9_beginOfHandle_33 (by decide) rfl ?_
    refine zr_iload dX9_beginOfHandle_35 rfl ?_
    refine zr_iload_n dX9_beginOfHandle_37 rfl ?_
    refine zr_icmp_ne (tgt := 57) dX9_beginOfHandle_38 (by decide) (fun c_38 => ?_) (fun c_38 => ?_)
    · refine zr_iload dX9_beginOfHandle_57 rfl ?_
      refine zr_iload_n dX9_beginOfHandle_59 rfl ?_
      refine zr_iconst (v := 1) dX9_beginOfHandle_60 (by decide) ?_
      refine zr_isub dX9_beginOfHandle_61 ?_
      refine zr_icmp_ne (tgt := 67) dX9_beginOfHandle_62 (by decide) (fun c_62 => ?_) (fun c_62 => ?_)
      · refine zr_iinc (v := nI i + (-1)) (ls' := [some (.ref a), some (.int (nI e)), some (.int ((zix (f e)))), some (.int ((nI i + (-1)))), some (.int ((zix (f i))))]) dX9_beginOfHandle_67 rfl (by rfl) (by decide) rfl ?_
        refine zr_goto (tgt := 23) dX9_beginOfHandle_70 (by decide) ?_
        rw [z_m1]; exact ih _ (by omega) (hz.trans (by simp only [zbh]; rw [if_neg c_38, if_neg c_62]))
      · refine zr_iconst (v := -1) dX9_beginOfHandle_65 (by decide) ?_
        exact zr_ireturn dX9_beginOfHandle_66 rfl (rfl) (⟨_, rfl, by rw [hz]; simp only [zbh]; (repeat' split) <;> first | rfl | contradiction | simp_all, rfl⟩)
    · refine zr_aload_n dX9_beginOfHandle_41 rfl ?_
      refine zr_iload_n dX9_beginOfHandle_42 rfl ?_
      refine zr_iaload dX9_beginOfHandle_43 h0 (vp_in_nI (n := i) (by omega) (by omega)) ?_
      rw [nI_clamp (n := i) (by omega)]
      refine zr_aload_n dX9_beginOfHandle_44 rfl ?_
      refine zr_iload_n dX9_beginOfHandle_45 rfl ?_
      refine zr_iaload dX9_beginOfHandle_46 h0 (vp_in_nI (n := e) (by omega) (by omega)) ?_
      rw [nI_clamp (n := e) (by omega)]
      refine zr_ineg dX9_beginOfHandle_47 ?_
      refine zr_icmp_ne (tgt := 55) dX9_beginOfHandle_48 (by decide) (fun c_48 => ?_) (fun c_48 => ?_)
      · refine zr_iconst (v := -1) dX9_beginOfHandle_55 (by decide) ?_
        exact zr_ireturn dX9_beginOfHandle_56 rfl (rfl) (⟨_, rfl, by rw [hz]; simp only [zbh]; (repeat' split) <;> first | rfl | contradiction | simp_all, rfl⟩)
      · refine zr_iload_n dX9_beginOfHandle_51 rfl ?_
        refine zr_goto (tgt := 56) dX9_beginOfHandle_52 (by decide) ?_
        exact zr_ireturn dX9_beginOfHandle_56 rfl (rfl) (⟨_, rfl, by rw [hz]; simp only [zbh]; (repeat' split) <;> first | rfl | contradiction | simp_all, rfl⟩)

set_option maxHeartbeats 4000000 in
set_option maxRecDepth 100000 in
theorem qX9_beginOfHandle {X : zX} (hX : X.1.stackTraces = false) {σ : zS} {a N e : Nat} {f : Nat → Int32} (h0 : σ.1 a = .inl (0, N, .inl f)) (hN : N < 2 ^ 31) (he : e < N) : zMet X mX9_beginOfHandle yX9_beginOfHandle 1 0 0 [.ref a, .int (nI e)] σ (zI (fun r s => r = zhb f e ∧ s = σ)) := by
  refine zMet_of (ls := [some (.ref a), some (.int (nI e)), none, none, none]) rfl (by decide +kernel) rfl (fun h => by cases h) hX (Nat.le_of_ble_eq_true rfl) rfl ?_
  refine zr_iload_n dX9_beginOfHandle_0 rfl ?_
  refine zr_if_lt (tgt := 10) dX9_beginOfHandle_1 (by decide) (fun c_1 => absurd c_1 (fun h => absurd ((nI_ltI (a := e) (b := 0) (by omega) (by omega)).mp h) (by omega))) (fun c_1 => ?_)
  refine zr_iload_n dX9_beginOfHandle_4 rfl ?_
  refine zr_aload_n dX9_beginOfHandle_5 rfl ?_
  refine zr_alen (v := nI N) dX9_beginOfHandle_6 h0 rfl rfl ?_
  refine zr_icmp_lt (tgt := 12) dX9_beginOfHandle_7 (by decide) (fun c_7 => ?_) (fun c_7 => absurd ((nI_ltI (a := e) (b := N) (by omega) (by omega)).mpr (by omega)) c_7)
  refine zr_aload_n dX9_beginOfHandle_12 rfl ?_
  refine zr_iload_n dX9_beginOfHandle_13 rfl ?_
  refine zr_iaload dX9_beginOfHandle_14 h0 (vp_in_nI (n := e) (by omega) (by omega)) ?_
  rw [nI_clamp (n := e) (by omega)]
  refine zr_pSi [] dX9_beginOfHandle_15 vX9_408 (qX9_indexOf hX σ ((f e))) (by decide) (by decide) (by decide) rfl rfl (Nat.le_of_ble_eq_true rfl) rfl ?_
  refine zr_eqi (x' := zix (f e)) (rfl) ?_
  refine zr_istore_n (ls' := [some (.ref a), some (.int (nI e)), some (.int (zix (f e))), none, none]) dX9_beginOfHandle_18 rfl (by decide) rfl ?_
  refine zr_iload_n dX9_beginOfHandle_19 rfl ?_
  refine zr_iconst (v := 1) dX9_beginOfHandle_20 (by decide) ?_
  refine zr_isub dX9_beginOfHandle_21 ?_
  refine zr_eqi (x' := nI e - 1) (rfl) ?_
  refine zr_istore_n (ls' := [some (.ref a), some (.int (nI e)), some (.int (zix (f e))), some (.int (nI e - 1)), none]) dX9_beginOfHandle_22 rfl (by decide) rfl ?_
  exact l_beginOfHandle hX h0 hN he e _ (Nat.le_refl _) rfl

set_option maxHeartbeats 4000000 in
set_option maxRecDepth 100000 in
theorem qX8_isFull {X : zX} (hX : X.1.stackTraces = false) {σ : zS} {w a n : Nat} {f : Nat → Int32} (h0 : σ.1 w = .inr (6, [.ref a, .int (nI n)])) (h1 : σ.1 a = .inl (0, 16, .inl f)) (hn : n ≤ 16) : zMet X mX8_isFull yX8_isFull 0 0 0 [.ref w] σ (zI (fun r s => r = (if n < 16 then 0 else 1) ∧ s = σ)) := by
  refine zMet_of (ls := [some (.ref w)]) rfl (by decide +kernel) rfl (fun h => by cases h) hX (Nat.le_of_ble_eq_true rfl) rfl ?_
  refine zr_aload_n dX8_isFull_0 rfl ?_
  refine zr_getfield dX8_isFull_1 fX8_15 h0 rfl (by decide) ?_
  refine zr_bipush (v := 16) dX8_isFull_4 (by decide) ?_
  refine zr_icmp_lt (tgt := 13) dX8_isFull_6 (by decide) (fun c_6 => ?_) (fun c_6 => ?_)
  · refine zr_iconst (v := 0) dX8_isFull_13 (by decide) ?_
    exact zr_ireturn dX8_isFull_14 rfl (rfl) (⟨_, rfl, by rw [show (16 : Int32) = nI 16 from rfl, nI_ltI (by omega) (by omega)] at c_6; simp [c_6], rfl⟩)
  · refine zr_iconst (v := 1) dX8_isFull_9 (by decide) ?_
    refine zr_goto (tgt := 14) dX8_isFull_10 (by decide) ?_
    exact zr_ireturn dX8_isFull_14 rfl (rfl) (⟨_, rfl, by rw [show (16 : Int32) = nI 16 from rfl, nI_ltI (by omega) (by omega)] at c_6; simp [c_6], rfl⟩)

set_option maxHeartbeats 4000000 in
set_option maxRecDepth 100000 in
theorem qX8_append {X : zX} (hX : X.1.stackTraces = false) {σ : zS} {w a n : Nat} {f : Nat → Int32} (l : Int32) (hwa : w ≠ a) (h0 : σ.1 w = .inr (6, [.ref a, .int (nI n)])) (h1 : σ.1 a = .inl (0, 16, .inl f)) (hn : n < 16) : zMet X mX8_append yX8_append 0 0 0 [.ref w, .int l] σ (zV (fun s => zFr σ s (fun q => q = w ∨ q = a) ∧ s.1 w = .inr (6, [.ref a, .int (nI (n + 1))]) ∧ s.1 a = .inl (0, 16, .inl (upd f n l)))) := by
  refine zMet_of (ls := [some (.ref w), some (.int l)]) rfl (by decide +kernel) rfl (fun h => by cases h) hX (Nat.le_of_ble_eq_true rfl) rfl ?_
  refine zr_aload_n dX8_append_0 rfl ?_
  refine zr_getfield dX8_append_1 fX8_15 h0 rfl (by decide) ?_
  refine zr_bipush (v := 16) dX8_append_4 (by decide) ?_
  refine zr_icmp_ge (tgt := 29) dX8_append_6 (by decide) (fun c_6 => absurd c_6 (fun h => absurd ((nI_leI (a := 16) (b := n) (by omega) (by omega)).mp h) (by omega))) (fun c_6 => ?_)
  refine zr_aload_n dX8_append_9 rfl ?_
  refine zr_getfield dX8_append_10 fX8_9 h0 rfl (by decide) ?_
  refine zr_aload_n dX8_append_13 rfl ?_
  refine zr_getfield dX8_append_14 fX8_15 h0 rfl (by decide) ?_
  refine zr_iload_n dX8_append_17 rfl ?_
  refine zr_iastore dX8_append_18 h1 (vp_in_nI (n := n) (by omega) (by omega)) ?_
  rw [nI_clamp (n := n) (by omega)]
  refine zr_sig (fun s1 e_s1 => ?_)
  have h2 : s1.1 w = .inr (6, [.ref a, .int (nI n)]) := by rw [e_s1, zup_ne _ _ (by omega)]; exact h0
  have h3 : s1.1 a = .inl (0, 16, .inl (upd f n l)) := by rw [e_s1]; exact zup_at _ _ _
  have F4 := zFr.put zFr.rf (P := fun q => q = w ∨ q = a) e_s1 (by first | omega | simp)
  refine zr_aload_n dX8_append_19 rfl ?_
  refine zr_dup dX8_append_20 rfl ?_
  refine zr_getfield dX8_append_21 fX8_15 h2 rfl (by decide) ?_
  refine zr_iconst (v := 1) dX8_append_24 (by decide) ?_
  refine zr_iadd dX8_append_25 ?_
  refine zr_eqi (x' := nI (n + 1)) (nI_add _ _) ?_
  refine zr_putfield (fs' := [.ref a, .int (nI (n + 1))]) dX8_append_26 pX8_15 h2 (by decide) (rfl) (rfl) (Nat.le_of_ble_eq_true rfl) rfl ?_
  refine zr_sig (fun s5 e_s5 => ?_)
  have h6 : s5.1 w = .inr (6, [.ref a, .int (nI (n + 1))]) := by rw [e_s5]; exact zup_at _ _ _
  have h7 : s5.1 a = .inl (0, 16, .inl (upd f n l)) := by rw [e_s5, zup_ne _ _ (by omega)]; exact h3
  have F8 := zFr.put F4 e_s5 (by first | omega | simp)
  exact zr_return dX8_append_29 rfl (⟨rfl, F8, h6, h7⟩)

set_option maxHeartbeats 4000000 in
set_option maxRecDepth 100000 in
theorem qX8_removeLast {X : zX} (hX : X.1.stackTraces = false) {σ : zS} {w a n : Nat} {f : Nat → Int32} (hwa : w ≠ a) (h0 : σ.1 w = .inr (6, [.ref a, .int (nI n)])) (h1 : σ.1 a = .inl (0, 16, .inl f)) (hn : n ≤ 16) (hp : 0 < n) : zMet X mX8_removeLast yX8_removeLast 0 0 0 [.ref w] σ (zI (fun r s => r = f (n - 1) ∧ zFr σ s (fun q => q = w ∨ q = a) ∧ s.1 w = .inr (6, [.ref a, .int (nI (n - 1))]) ∧ s.1 a = .inl (0, 16, .inl f))) := by
  refine zMet_of (ls := [some (.ref w)]) rfl (by decide +kernel) rfl (fun h => by cases h) hX (Nat.le_of_ble_eq_true rfl) rfl ?_
  refine zr_aload_n dX8_removeLast_0 rfl ?_
  refine zr_getfield dX8_removeLast_1 fX8_15 h0 rfl (by decide) ?_
  refine zr_if_ne (tgt := 9) dX8_removeLast_4 (by decide) (fun c_4 => ?_) (fun c_4 => absurd c_4 (fun h => absurd ((nI_eq (a := n) (b := 0) (by omega) (by omega)).mp h) (by omega)))
  refine zr_aload_n dX8_removeLast_9 rfl ?_
  refine zr_dup dX8_removeLast_10 rfl ?_
  refine zr_getfield dX8_removeLast_11 fX8_15 h0 rfl (by decide) ?_
  refine zr_iconst (v := 1) dX8_removeLast_14 (by decide) ?_
  refine zr_isub dX8_removeLast_15 ?_
  refine zr_eqi (x' := nI (n - 1)) (pk_sub (a := n) (b := 1) (by omega)) ?_
  refine zr_putfield (fs' := [.ref a, .int (nI (n - 1))]) dX8_removeLast_16 pX8_15 h0 (by decide) (rfl) (rfl) (Nat.le_of_ble_eq_true rfl) rfl ?_
  refine zr_sig (fun s1 e_s1 => ?_)
  have h2 : s1.1 w = .inr (6, [.ref a, .int (nI (n - 1))]) := by rw [e_s1]; exact zup_at _ _ _
  have h3 : s1.1 a = .inl (0, 16, .inl f) := by rw [e_s1, zup_ne _ _ (by omega)]; exact h1
  have F4 := zFr.put zFr.rf (P := fun q => q = w ∨ q = a) e_s1 (by first | omega | simp)
  refine zr_aload_n dX8_removeLast_19 rfl ?_
  refine zr_getfield dX8_removeLast_20 fX8_9 h2 rfl (by decide) ?_
  refine zr_aload_n dX8_removeLast_23 rfl ?_
  refine zr_getfield dX8_removeLast_24 fX8_15 h2 rfl (by decide) ?_
  refine zr_iaload dX8_removeLast_27 h3 (vp_in_nI (n := n - 1) (by omega) (by omega)) ?_
  rw [nI_clamp (n := n - 1) (by omega)]
  exact zr_ireturn dX8_removeLast_28 rfl (rfl) (⟨_, rfl, rfl, F4, h2, h3⟩)

set_option maxHeartbeats 4000000 in
set_option maxRecDepth 100000 in
theorem l_eofh {X : zX} (hX : X.1.stackTraces = false) {σ : zS} {w a n : Nat} {f : Nat → Int32} (h0 : σ.1 w = .inr (6, [.ref a, .int (nI n)])) (h1 : σ.1 a = .inl (0, 16, .inl f)) (hn : n ≤ 16) : ∀ (k i : Nat) , i + k = n → zfe f 0 n = zfe f i k → zW X mX8_endOfFirstHandle 2 0 0 (zI (fun r s => r = zfe f 0 n ∧ s = σ)) 2 [some (.ref w), some (.int (nI i))] [] σ := by
  intro k
  induction k with
  | zero =>
    intro i  hi hz
    refine zr_iload_n dX8_endOfFirstHandle_2 rfl ?_
    refine zr_aload_n dX8_endOfFirstHandle_3 rfl ?_
    refine zr_getfield dX8_endOfFirstHandle_4 fX8_15 h0 rfl (by decide) ?_
    refine zr_icmp_ge (tgt := 30) dX8_endOfFirstHandle_7 (by decide) (fun c_7 => ?_) (fun c_7 => absurd ((nI_leI (a := n) (b := i) (by omega) (by omega)).mpr (by omega)) c_7)
    refine zr_iconst (v := -1) dX8_endOfFirstHandle_30 (by decide) ?_
    exact zr_ireturn dX8_endOfFirstHandle_31 rfl (rfl) (⟨_, rfl, hz.symm, rfl⟩)
  | succ k ih =>
    intro i  hi hz
    refine zr_iload_n dX8_endOfFirstHandle_2 rfl ?_
    refine zr_aload_n dX8_endOfFirstHandle_3 rfl ?_
    refine zr_getfield dX8_endOfFirstHandle_4 fX8_15 h0 rfl (by decide) ?_
    refine zr_icmp_ge (tgt := 30) dX8_endOfFirstHandle_7 (by decide) (fun c_7 => absurd c_7 (fun h => absurd ((nI_leI (a := n) (b := i) (by omega) (by omega)).mp h) (by omega))) (fun c_7 => ?_)
    refine zr_aload_n dX8_endOfFirstHandle_10 rfl ?_
    refine zr_getfield dX8_endOfFirstHandle_11 fX8_9 h0 rfl (by decide) ?_
    refine zr_iload_n dX8_endOfFirstHandle_14 rfl ?_
    refine zr_pSi [] dX8_endOfFirstHandle_15 vX8_19 (qX9_beginOfHandle hX (e := i) h1 (by decide) (by omega)) (by decide) (by decide) (by decide) rfl rfl (Nat.le_of_ble_eq_true rfl) rfl ?_
    refine zr_iconst (v := -1) dX8_endOfFirstHandle_18 (by decide) ?_
    refine zr_icmp_eq (tgt := 24) dX8_endOfFirstHandle_19 (by decide) (fun c_19 => ?_) (fun c_19 => ?_)
    · refine zr_iinc (v := nI (i + 1)) (ls' := [some (.ref w), some (.int (nI (i + 1)))]) dX8_endOfFirstHandle_24 rfl (nI_1 _) (by decide) rfl ?_
      refine zr_goto (tgt := 2) dX8_endOfFirstHandle_27 (by decide) ?_
      exact ih (i + 1)  (by omega) (by rw [hz]; simp only [zfe]; rw [if_pos c_19])
    · refine zr_iload_n dX8_endOfFirstHandle_22 rfl ?_
      exact zr_ireturn dX8_endOfFirstHandle_23 rfl (rfl) (⟨_, rfl, by rw [hz]; simp only [zfe]; rw [if_neg c_19], rfl⟩)

set_option maxHeartbeats 4000000 in
set_option maxRecDepth 100000 in
theorem qX8_endOfFirstHandle {X : zX} (hX : X.1.stackTraces = false) {σ : zS} {w a n : Nat} {f : Nat → Int32} (h0 : σ.1 w = .inr (6, [.ref a, .int (nI n)])) (h1 : σ.1 a = .inl (0, 16, .inl f)) (hn : n ≤ 16) : zMet X mX8_endOfFirstHandle yX8_endOfFirstHandle 2 0 0 [.ref w] σ (zI (fun r s => r = zfe f 0 n ∧ s = σ)) := by
  refine zMet_of (ls := [some (.ref w), none]) rfl (by decide +kernel) rfl (fun h => by cases h) hX (Nat.le_of_ble_eq_true rfl) rfl ?_
  refine zr_iconst (v := 0) dX8_endOfFirstHandle_0 (by decide) ?_
  refine zr_istore_n (ls' := [some (.ref w), some (.int 0)]) dX8_endOfFirstHandle_1 rfl (by decide) rfl ?_
  exact l_eofh hX h0 h1 hn n 0 (by omega) rfl

set_option maxHeartbeats 4000000 in
set_option maxRecDepth 100000 in
theorem l_sos {X : zX} (hX : X.1.stackTraces = false) {σ : zS} {w a n : Nat} {f : Nat → Int32} (h0 : σ.1 w = .inr (6, [.ref a, .int (nI n)])) (h1 : σ.1 a = .inl (0, 16, .inl f)) (hn : n ≤ 16) : ∀ (k i : Nat) (x : Int32), i + k = n → x = zSum f i → zW X mX8_sumOfSigns 1 0 0 (zI (fun r s => r = zSum f n ∧ s = σ)) 4 [some (.ref w), some (.int x), some (.int (nI i))] [] σ := by
  intro k
  induction k with
  | zero =>
    intro i x hi hx
    refine zr_iload_n dX8_sumOfSigns_4 rfl ?_
    refine zr_aload_n dX8_sumOfSigns_5 rfl ?_
    refine zr_getfield dX8_sumOfSigns_6 fX8_15 h0 rfl (by decide) ?_
    refine zr_icmp_ge (tgt := 31) dX8_sumOfSigns_9 (by decide) (fun c_9 => ?_) (fun c_9 => absurd ((nI_leI (a := n) (b := i) (by omega) (by omega)).mpr (by omega)) c_9)
    refine zr_iload_n dX8_sumOfSigns_31 rfl ?_
    exact zr_ireturn dX8_sumOfSigns_32 rfl (rfl) (⟨_, rfl, by rw [hx, show i = n from by omega], rfl⟩)
  | succ k ih =>
    intro i x hi hx
    refine zr_iload_n dX8_sumOfSigns_4 rfl ?_
    refine zr_aload_n dX8_sumOfSigns_5 rfl ?_
    refine zr_getfield dX8_sumOfSigns_6 fX8_15 h0 rfl (by decide) ?_
    refine zr_icmp_ge (tgt := 31) dX8_sumOfSigns_9 (by decide) (fun c_9 => absurd c_9 (fun h => absurd ((nI_leI (a := n) (b := i) (by omega) (by omega)).mp h) (by omega))) (fun c_9 => ?_)
    refine zr_iload_n dX8_sumOfSigns_12 rfl ?_
    refine zr_aload_n dX8_sumOfSigns_13 rfl ?_
    refine zr_getfield dX8_sumOfSigns_14 fX8_9 h0 rfl (by decide) ?_
    refine zr_iload_n dX8_sumOfSigns_17 rfl ?_
    refine zr_iaload dX8_sumOfSigns_18 h1 (vp_in_nI (n := i) (by omega) (by omega)) ?_
    rw [nI_clamp (n := i) (by omega)]
    refine zr_i2l dX8_sumOfSigns_19 ?_
    refine zr_pSi [.int x] dX8_sumOfSigns_20 vX8_23 (qX9_signOf hX σ (((f i)).toInt64)) (by decide) (by decide) (by decide) rfl rfl (Nat.le_of_ble_eq_true rfl) rfl ?_
    refine zr_iadd dX8_sumOfSigns_23 ?_
    refine zr_istore_n (ls' := [some (.ref w), some (.int ((x + (zsg (((f i)).toInt64))))), some (.int (nI i))]) dX8_sumOfSigns_24 rfl (by decide) rfl ?_
    refine zr_iinc (v := nI (i + 1)) (ls' := [some (.ref w), some (.int ((x + (zsg (((f i)).toInt64))))), some (.int (nI (i + 1)))]) dX8_sumOfSigns_25 rfl (nI_1 _) (by decide) rfl ?_
    refine zr_goto (tgt := 4) dX8_sumOfSigns_28 (by decide) ?_
    exact ih (i + 1) _ (by omega) (by rw [hx]; rfl)

set_option maxHeartbeats 4000000 in
set_option maxRecDepth 100000 in
theorem qX8_sumOfSigns {X : zX} (hX : X.1.stackTraces = false) {σ : zS} {w a n : Nat} {f : Nat → Int32} (h0 : σ.1 w = .inr (6, [.ref a, .int (nI n)])) (h1 : σ.1 a = .inl (0, 16, .inl f)) (hn : n ≤ 16) : zMet X mX8_sumOfSigns yX8_sumOfSigns 1 0 0 [.ref w] σ (zI (fun r s => r = zSum f n ∧ s = σ)) := by
  refine zMet_of (ls := [some (.ref w), none, none]) rfl (by decide +kernel) rfl (fun h => by cases h) hX (Nat.le_of_ble_eq_true rfl) rfl ?_
  refine zr_iconst (v := 0) dX8_sumOfSigns_0 (by decide) ?_
  refine zr_istore_n (ls' := [some (.ref w), some (.int 0), none]) dX8_sumOfSigns_1 rfl (by decide) rfl ?_
  refine zr_iconst (v := 0) dX8_sumOfSigns_2 (by decide) ?_
  refine zr_istore_n (ls' := [some (.ref w), some (.int 0), some (.int 0)]) dX8_sumOfSigns_3 rfl (by decide) rfl ?_
  exact l_sos hX h0 h1 hn n 0 _ (by omega) rfl

set_option maxHeartbeats 4000000 in
set_option maxRecDepth 100000 in
theorem l_endOf {X : zX} (hX : X.1.stackTraces = false) {σ : zS} {w a n : Nat} {f : Nat → Int32} {p : Int32} (h0 : σ.1 w = .inr (6, [.ref a, .int (nI n)])) (h1 : σ.1 a = .inl (0, 16, .inl f)) (hn : n ≤ 16) : ∀ (k i : Nat) (x : Int32), i + k = n → x = zEnd f p i → zW X mX8_endOf 1 0 0 (zI (fun r s => r = zEnd f p n ∧ s = σ)) 4 [some (.ref w), some (.int p), some (.int x), some (.int (nI i))] [] σ := by
  intro k
  induction k with
  | zero =>
    intro i x hi hx
    refine zr_iload_n dX8_endOf_4 rfl ?_
    refine zr_aload_n dX8_endOf_5 rfl ?_
    refine zr_getfield dX8_endOf_6 fX8_15 h0 rfl (by decide) ?_
    refine zr_icmp_ge (tgt := 32) dX8_endOf_9 (by decide) (fun c_9 => ?_) (fun c_9 => absurd ((nI_leI (a := n) (b := i) (by omega) (by omega)).mpr (by omega)) c_9)
    refine zr_iload_n dX8_endOf_32 rfl ?_
    exact zr_ireturn dX8_endOf_33 rfl (rfl) (⟨_, rfl, by rw [hx, show i = n from by omega], rfl⟩)
  | succ k ih =>
    intro i x hi hx
    refine zr_iload_n dX8_endOf_4 rfl ?_
    refine zr_aload_n dX8_endOf_5 rfl ?_
    refine zr_getfield dX8_endOf_6 fX8_15 h0 rfl (by decide) ?_
    refine zr_icmp_ge (tgt := 32) dX8_endOf_9 (by decide) (fun c_9 => absurd c_9 (fun h => absurd ((nI_leI (a := n) (b := i) (by omega) (by omega)).mp h) (by omega))) (fun c_9 => ?_)
    refine zr_aload_n dX8_endOf_12 rfl ?_
    refine zr_getfield dX8_endOf_13 fX8_9 h0 rfl (by decide) ?_
    refine zr_iload_n dX8_endOf_16 rfl ?_
    refine zr_iaload dX8_endOf_17 h1 (vp_in_nI (n := i) (by omega) (by omega)) ?_
    rw [nI_clamp (n := i) (by omega)]
    refine zr_pSi [] dX8_endOf_18 vX8_27 (qX9_indexOf hX σ ((f i))) (by decide) (by decide) (by decide) rfl rfl (Nat.le_of_ble_eq_true rfl) rfl ?_
    refine zr_iload_n dX8_endOf_21 rfl ?_
    refine zr_pSi [] dX8_endOf_22 vX8_31 (qX9_positionAfter hX σ ((zix (f i))) (x)) (by decide) (by decide) (by decide) rfl rfl (Nat.le_of_ble_eq_true rfl) rfl ?_
    refine zr_istore_n (ls' := [some (.ref w), some (.int p), some (.int ((zpa (zix (f i)) x))), some (.int (nI i))]) dX8_endOf_25 rfl (by decide) rfl ?_
    refine zr_iinc (v := nI (i + 1)) (ls' := [some (.ref w), some (.int p), some (.int ((zpa (zix (f i)) x))), some (.int (nI (i + 1)))]) dX8_endOf_26 rfl (nI_1 _) (by decide) rfl ?_
    refine zr_goto (tgt := 4) dX8_endOf_29 (by decide) ?_
    exact ih (i + 1) _ (by omega) (by rw [hx]; rfl)

set_option maxHeartbeats 4000000 in
set_option maxRecDepth 100000 in
theorem qX8_endOf {X : zX} (hX : X.1.stackTraces = false) {σ : zS} {w a n : Nat} {f : Nat → Int32} (h0 : σ.1 w = .inr (6, [.ref a, .int (nI n)])) (h1 : σ.1 a = .inl (0, 16, .inl f)) (hn : n ≤ 16) (p : Int32) : zMet X mX8_endOf yX8_endOf 1 0 0 [.ref w, .int p] σ (zI (fun r s => r = zEnd f p n ∧ s = σ)) := by
  refine zMet_of (ls := [some (.ref w), some (.int p), none, none]) rfl (by decide +kernel) rfl (fun h => by cases h) hX (Nat.le_of_ble_eq_true rfl) rfl ?_
  refine zr_iload_n dX8_endOf_0 rfl ?_
  refine zr_istore_n (ls' := [some (.ref w), some (.int p), some (.int p), none]) dX8_endOf_1 rfl (by decide) rfl ?_
  refine zr_iconst (v := 0) dX8_endOf_2 (by decide) ?_
  refine zr_istore_n (ls' := [some (.ref w), some (.int p), some (.int p), some (.int 0)]) dX8_endOf_3 rfl (by decide) rfl ?_
  exact l_endOf hX h0 h1 hn n 0 _ (by omega) rfl

set_option maxHeartbeats 4000000 in
set_option maxRecDepth 100000 in
theorem qX8_isPure {X : zX} (hX : X.1.stackTraces = false) {σ : zS} {w a n : Nat} {f : Nat → Int32} (h0 : σ.1 w = .inr (6, [.ref a, .int (nI n)])) (h1 : σ.1 a = .inl (0, 16, .inl f)) (hn : n ≤ 16) : zMet X mX8_isPure yX8_isPure 2 0 0 [.ref w] σ (zI (fun r s => r = zPure f n ∧ s = σ)) := by
  refine zMet_of (ls := [some (.ref w), none]) rfl (by decide +kernel) rfl (fun h => by cases h) hX (Nat.le_of_ble_eq_true rfl) rfl ?_
  refine zr_iconst (v := 1) dX8_isPure_0 (by decide) ?_
  refine zr_istore_n (ls' := [some (.ref w), some (.int 1)]) dX8_isPure_1 rfl (by decide) rfl ?_
  refine zr_iload_n dX8_isPure_2 rfl ?_
  refine zr_iconst (v := 5) dX8_isPure_3 (by decide) ?_
  refine zr_icmp_gt (tgt := 24) dX8_isPure_4 (by decide) (fun c_4 => absurd c_4 (by decide)) (fun c_4 => ?_)
  refine zr_aload_n dX8_isPure_7 rfl ?_
  refine zr_iload_n dX8_isPure_8 rfl ?_
  refine zr_pVi [] dX8_isPure_9 vX8_35 (qX8_endOf hX h0 h1 (by omega) (1)) h0 (by decide) (by decide) (by decide) rfl rfl (Nat.le_of_ble_eq_true rfl) (by decide) rfl ?_
  refine zr_iload_n dX8_isPure_12 rfl ?_
  refine zr_icmp_eq (tgt := 18) dX8_isPure_13 (by decide) (fun c_13 => ?_) (fun c_13 => ?_)
  · refine zr_iinc (v := 2) (ls' := [some (.ref w), some (.int 2)]) dX8_isPure_18 rfl (by decide) (by decide) rfl ?_
    refine zr_goto (tgt := 2) dX8_isPure_21 (by decide) ?_
    refine zr_iload_n dX8_isPure_2 rfl ?_
    refine zr_iconst (v := 5) dX8_isPure_3 (by decide) ?_
    refine zr_icmp_gt (tgt := 24) dX8_isPure_4 (by decide) (fun c_4 => absurd c_4 (by decide)) (fun c_4 => ?_)
    refine zr_aload_n dX8_isPure_7 rfl ?_
    refine zr_iload_n dX8_isPure_8 rfl ?_
    refine zr_pVi [] dX8_isPure_9 vX8_35 (qX8_endOf hX h0 h1 (by omega) (2)) h0 (by decide) (by decide) (by decide) rfl rfl (Nat.le_of_ble_eq_true rfl) (by decide) rfl ?_
    refine zr_iload_n dX8_isPure_12 rfl ?_
    refine zr_icmp_eq (tgt := 18) dX8_isPure_13 (by decide) (fun c_13 => ?_) (fun c_13 => ?_)
    · refine zr_iinc (v := 3) (ls' := [some (.ref w), some (.int 3)]) dX8_isPure_18 rfl (by decide) (by decide) rfl ?_
      refine zr_goto (tgt := 2) dX8_isPure_21 (by decide) ?_
      refine zr_iload_n dX8_isPure_2 rfl ?_
      refine zr_iconst (v := 5) dX8_isPure_3 (by decide) ?_
      refine zr_icmp_gt (tgt := 24) dX8_isPure_4 (by decide) (fun c_4 => absurd c_4 (by decide)) (fun c_4 => ?_)
      refine zr_aload_n dX8_isPure_7 rfl ?_
      refine zr_iload_n dX8_isPure_8 rfl ?_
      refine zr_pVi [] dX8_isPure_9 vX8_35 (qX8_endOf hX h0 h1 (by omega) (3)) h0 (by decide) (by decide) (by decide) rfl rfl (Nat.le_of_ble_eq_true rfl) (by decide) rfl ?_
      refine zr_iload_n dX8_isPure_12 rfl ?_
      refine zr_icmp_eq (tgt := 18) dX8_isPure_13 (by decide) (fun c_13 => ?_) (fun c_13 => ?_)
      · refine zr_iinc (v := 4) (ls' := [some (.ref w), some (.int 4)]) dX8_isPure_18 rfl (by decide) (by decide) rfl ?_
        refine zr_goto (tgt := 2) dX8_isPure_21 (by decide) ?_
        refine zr_iload_n dX8_isPure_2 rfl ?_
        refine zr_iconst (v := 5) dX8_isPure_3 (by decide) ?_
        refine zr_icmp_gt (tgt := 24) dX8_isPure_4 (by decide) (fun c_4 => absurd c_4 (by decide)) (fun c_4 => ?_)
        refine zr_aload_n dX8_isPure_7 rfl ?_
        refine zr_iload_n dX8_isPure_8 rfl ?_
        refine zr_pVi [] dX8_isPure_9 vX8_35 (qX8_endOf hX h0 h1 (by omega) (4)) h0 (by decide) (by decide) (by decide) rfl rfl (Nat.le_of_ble_eq_true rfl) (by decide) rfl ?_
        refine zr_iload_n dX8_isPure_12 rfl ?_
        refine zr_icmp_eq (tgt := 18) dX8_isPure_13 (by decide) (fun c_13 => ?_) (fun c_13 => ?_)
        · refine zr_iinc (v := 5) (ls' := [some (.ref w), some (.int 5)]) dX8_isPure_18 rfl (by decide) (by decide) rfl ?_
          refine zr_goto (tgt := 2) dX8_isPure_21 (by decide) ?_
          refine zr_iload_n dX8_isPure_2 rfl ?_
          refine zr_iconst (v := 5) dX8_isPure_3 (by decide) ?_
          refine zr_icmp_gt (tgt := 24) dX8_isPure_4 (by decide) (fun c_4 => absurd c_4 (by decide)) (fun c_4 => ?_)
          refine zr_aload_n dX8_isPure_7 rfl ?_
          refine zr_iload_n dX8_isPure_8 rfl ?_
          refine zr_pVi [] dX8_isPure_9 vX8_35 (qX8_endOf hX h0 h1 (by omega) (5)) h0 (by decide) (by decide) (by decide) rfl rfl (Nat.le_of_ble_eq_true rfl) (by decide) rfl ?_
          refine zr_iload_n dX8_isPure_12 rfl ?_
          refine zr_icmp_eq (tgt := 18) dX8_isPure_13 (by decide) (fun c_13 => ?_) (fun c_13 => ?_)
          · refine zr_iinc (v := 6) (ls' := [some (.ref w), some (.int 6)]) dX8_isPure_18 rfl (by decide) (by decide) rfl ?_
            refine zr_goto (tgt := 2) dX8_isPure_21 (by decide) ?_
            refine zr_iload_n dX8_isPure_2 rfl ?_
            refine zr_iconst (v := 5) dX8_isPure_3 (by decide) ?_
            refine zr_icmp_gt (tgt := 24) dX8_isPure_4 (by decide) (fun c_4 => ?_) (fun c_4 => absurd (by decide) c_4)
            refine zr_iconst (v := 1) dX8_isPure_24 (by decide) ?_
            exact zr_ireturn dX8_isPure_25 rfl (rfl) (⟨_, rfl, by unfold zPure; (repeat' split) <;> first | rfl | (exfalso; simp_all; done) | (simp_all; done), rfl⟩)
          · refine zr_iconst (v := 0) dX8_isPure_16 (by decide) ?_
            exact zr_ireturn dX8_isPure_17 rfl (rfl) (⟨_, rfl, by unfold zPure; (repeat' split) <;> first | rfl | (exfalso; simp_all; done) | (simp_all; done), rfl⟩)
        · refine zr_iconst (v := 0) dX8_isPure_16 (by decide) ?_
          exact zr_ireturn dX8_isPure_17 rfl (rfl) (⟨_, rfl, by unfold zPure; (repeat' split) <;> first | rfl | (exfalso; simp_all; done) | (simp_all; done), rfl⟩)
      · refine zr_iconst (v := 0) dX8_isPure_16 (by decide) ?_
        exact zr_ireturn dX8_isPure_17 rfl (rfl) (⟨_, rfl, by unfold zPure; (repeat' split) <;> first | rfl | (exfalso; simp_all; done) | (simp_all; done), rfl⟩)
    · refine zr_iconst (v := 0) dX8_isPure_16 (by decide) ?_
      exact zr_ireturn dX8_isPure_17 rfl (rfl) (⟨_, rfl, by unfold zPure; (repeat' split) <;> first | rfl | (exfalso; simp_all; done) | (simp_all; done), rfl⟩)
  · refine zr_iconst (v := 0) dX8_isPure_16 (by decide) ?_
    exact zr_ireturn dX8_isPure_17 rfl (rfl) (⟨_, rfl, by unfold zPure; (repeat' split) <;> first | rfl | (exfalso; simp_all; done) | (simp_all; done), rfl⟩)

set_option maxHeartbeats 4000000 in
set_option maxRecDepth 100000 in
theorem qX8_isLeastOfCycle {X : zX} (hX : X.1.stackTraces = false) {σ : zS} {w a n : Nat} {f : Nat → Int32} (h0 : σ.1 w = .inr (6, [.ref a, .int (nI n)])) (h1 : σ.1 a = .inl (0, 16, .inl f)) (hn : n ≤ 16) (p : Int32) : zMet X mX8_isLeastOfCycle yX8_isLeastOfCycle 2 0 0 [.ref w, .int p] σ (zI (fun r s => r = zLeast f n p ∧ s = σ)) := by
  refine zMet_of (ls := [some (.ref w), some (.int p), none, none]) rfl (by decide +kernel) rfl (fun h => by cases h) hX (Nat.le_of_ble_eq_true rfl) rfl ?_
  refine zr_iload_n dX8_isLeastOfCycle_0 rfl ?_
  refine zr_istore_n (ls' := [some (.ref w), some (.int p), some (.int p), none]) dX8_isLeastOfCycle_1 rfl (by decide) rfl ?_
  refine zr_iconst (v := 0) dX8_isLeastOfCycle_2 (by decide) ?_
  refine zr_istore_n (ls' := [some (.ref w), some (.int p), some (.int p), some (.int 0)]) dX8_isLeastOfCycle_3 rfl (by decide) rfl ?_
  refine zr_iload_n dX8_isLeastOfCycle_4 rfl ?_
  refine zr_iconst (v := 5) dX8_isLeastOfCycle_5 (by decide) ?_
  refine zr_icmp_ge (tgt := 28) dX8_isLeastOfCycle_6 (by decide) (fun c_6 => absurd c_6 (by decide)) (fun c_6 => ?_)
  refine zr_aload_n dX8_isLeastOfCycle_9 rfl ?_
  refine zr_iload_n dX8_isLeastOfCycle_10 rfl ?_
  refine zr_pVi [] dX8_isLeastOfCycle_11 vX8_35 (qX8_endOf hX h0 h1 (by omega) (p)) h0 (by decide) (by decide) (by decide) rfl rfl (Nat.le_of_ble_eq_true rfl) (by decide) rfl ?_
  refine zr_istore_n (ls' := [some (.ref w), some (.int p), some (.int ((zEnd f p n))), some (.int 0)]) dX8_isLeastOfCycle_14 rfl (by decide) rfl ?_
  refine zr_iload_n dX8_isLeastOfCycle_15 rfl ?_
  refine zr_iload_n dX8_isLeastOfCycle_16 rfl ?_
  refine zr_icmp_ge (tgt := 22) dX8_isLeastOfCycle_17 (by decide) (fun c_17 => ?_) (fun c_17 => ?_)
  · refine zr_iinc (v := 1) (ls' := [some (.ref w), some (.int p), some (.int ((zEnd f p n))), some (.int 1)]) dX8_isLeastOfCycle_22 rfl (by decide) (by decide) rfl ?_
    refine zr_goto (tgt := 4) dX8_isLeastOfCycle_25 (by decide) ?_
    refine zr_iload_n dX8_isLeastOfCycle_4 rfl ?_
    refine zr_iconst (v := 5) dX8_isLeastOfCycle_5 (by decide) ?_
    refine zr_icmp_ge (tgt := 28) dX8_isLeastOfCycle_6 (by decide) (fun c_6 => absurd c_6 (by decide)) (fun c_6 => ?_)
    refine zr_aload_n dX8_isLeastOfCycle_9 rfl ?_
    refine zr_iload_n dX8_isLeastOfCycle_10 rfl ?_
    refine zr_pVi [] dX8_isLeastOfCycle_11 vX8_35 (qX8_endOf hX h0 h1 (by omega) ((zEnd f p n))) h0 (by decide) (by decide) (by decide) rfl rfl (Nat.le_of_ble_eq_true rfl) (by decide) rfl ?_
    refine zr_istore_n (ls' := [some (.ref w), some (.int p), some (.int ((zEnd f (zEnd f p n) n))), some (.int 1)]) dX8_isLeastOfCycle_14 rfl (by decide) rfl ?_
    refine zr_iload_n dX8_isLeastOfCycle_15 rfl ?_
    refine zr_iload_n dX8_isLeastOfCycle_16 rfl ?_
    refine zr_icmp_ge (tgt := 22) dX8_isLeastOfCycle_17 (by decide) (fun c_17 => ?_) (fun c_17 => ?_)
    · refine zr_iinc (v := 2) (ls' := [some (.ref w), some (.int p), some (.int ((zEnd f (zEnd f p n) n))), some (.int 2)]) dX8_isLeastOfCycle_22 rfl (by decide) (by decide) rfl ?_
      refine zr_goto (tgt := 4) dX8_isLeastOfCycle_25 (by decide) ?_
      refine zr_iload_n dX8_isLeastOfCycle_4 rfl ?_
      refine zr_iconst (v := 5) dX8_isLeastOfCycle_5 (by decide) ?_
      refine zr_icmp_ge (tgt := 28) dX8_isLeastOfCycle_6 (by decide) (fun c_6 => absurd c_6 (by decide)) (fun c_6 => ?_)
      refine zr_aload_n dX8_isLeastOfCycle_9 rfl ?_
      refine zr_iload_n dX8_isLeastOfCycle_10 rfl ?_
      refine zr_pVi [] dX8_isLeastOfCycle_11 vX8_35 (qX8_endOf hX h0 h1 (by omega) ((zEnd f (zEnd f p n) n))) h0 (by decide) (by decide) (by decide) rfl rfl (Nat.le_of_ble_eq_true rfl) (by decide) rfl ?_
      refine zr_istore_n (ls' := [some (.ref w), some (.int p), some (.int ((zEnd f (zEnd f (zEnd f p n) n) n))), some (.int 2)]) dX8_isLeastOfCycle_14 rfl (by decide) rfl ?_
      refine zr_iload_n dX8_isLeastOfCycle_15 rfl ?_
      refine zr_iload_n dX8_isLeastOfCycle_16 rfl ?_
      refine zr_icmp_ge (tgt := 22) dX8_isLeastOfCycle_17 (by decide) (fun c_17 => ?_) (fun c_17 => ?_)
      · refine zr_iinc (v := 3) (ls' := [some (.ref w), some (.int p), some (.int ((zEnd f (zEnd f (zEnd f p n) n) n))), some (.int 3)]) dX8_isLeastOfCycle_22 rfl (by decide) (by decide) rfl ?_
        refine zr_goto (tgt := 4) dX8_isLeastOfCycle_25 (by decide) ?_
        refine zr_iload_n dX8_isLeastOfCycle_4 rfl ?_
        refine zr_iconst (v := 5) dX8_isLeastOfCycle_5 (by decide) ?_
        refine zr_icmp_ge (tgt := 28) dX8_isLeastOfCycle_6 (by decide) (fun c_6 => absurd c_6 (by decide)) (fun c_6 => ?_)
        refine zr_aload_n dX8_isLeastOfCycle_9 rfl ?_
        refine zr_iload_n dX8_isLeastOfCycle_10 rfl ?_
        refine zr_pVi [] dX8_isLeastOfCycle_11 vX8_35 (qX8_endOf hX h0 h1 (by omega) ((zEnd f (zEnd f (zEnd f p n) n) n))) h0 (by decide) (by decide) (by decide) rfl rfl (Nat.le_of_ble_eq_true rfl) (by decide) rfl ?_
        refine zr_istore_n (ls' := [some (.ref w), some (.int p), some (.int ((zEnd f (zEnd f (zEnd f (zEnd f p n) n) n) n))), some (.int 3)]) dX8_isLeastOfCycle_14 rfl (by decide) rfl ?_
        refine zr_iload_n dX8_isLeastOfCycle_15 rfl ?_
        refine zr_iload_n dX8_isLeastOfCycle_16 rfl ?_
        refine zr_icmp_ge (tgt := 22) dX8_isLeastOfCycle_17 (by decide) (fun c_17 => ?_) (fun c_17 => ?_)
        · refine zr_iinc (v := 4) (ls' := [some (.ref w), some (.int p), some (.int ((zEnd f (zEnd f (zEnd f (zEnd f p n) n) n) n))), some (.int 4)]) dX8_isLeastOfCycle_22 rfl (by decide) (by decide) rfl ?_
          refine zr_goto (tgt := 4) dX8_isLeastOfCycle_25 (by decide) ?_
          refine zr_iload_n dX8_isLeastOfCycle_4 rfl ?_
          refine zr_iconst (v := 5) dX8_isLeastOfCycle_5 (by decide) ?_
          refine zr_icmp_ge (tgt := 28) dX8_isLeastOfCycle_6 (by decide) (fun c_6 => absurd c_6 (by decide)) (fun c_6 => ?_)
          refine zr_aload_n dX8_isLeastOfCycle_9 rfl ?_
          refine zr_iload_n dX8_isLeastOfCycle_10 rfl ?_
          refine zr_pVi [] dX8_isLeastOfCycle_11 vX8_35 (qX8_endOf hX h0 h1 (by omega) ((zEnd f (zEnd f (zEnd f (zEnd f p n) n) n) n))) h0 (by decide) (by decide) (by decide) rfl rfl (Nat.le_of_ble_eq_true rfl) (by decide) rfl ?_
          refine zr_istore_n (ls' := [some (.ref w), some (.int p), some (.int ((zEnd f (zEnd f (zEnd f (zEnd f (zEnd f p n) n) n) n) n))), some (.int 4)]) dX8_isLeastOfCycle_14 rfl (by decide) rfl ?_
          refine zr_iload_n dX8_isLeastOfCycle_15 rfl ?_
          refine zr_iload_n dX8_isLeastOfCycle_16 rfl ?_
          refine zr_icmp_ge (tgt := 22) dX8_isLeastOfCycle_17 (by decide) (fun c_17 => ?_) (fun c_17 => ?_)
          · refine zr_iinc (v := 5) (ls' := [some (.ref w), some (.int p), some (.int ((zEnd f (zEnd f (zEnd f (zEnd f (zEnd f p n) n) n) n) n))), some (.int 5)]) dX8_isLeastOfCycle_22 rfl (by decide) (by decide) rfl ?_
            refine zr_goto (tgt := 4) dX8_isLeastOfCycle_25 (by decide) ?_
            refine zr_iload_n dX8_isLeastOfCycle_4 rfl ?_
            refine zr_iconst (v := 5) dX8_isLeastOfCycle_5 (by decide) ?_
            refine zr_icmp_ge (tgt := 28) dX8_isLeastOfCycle_6 (by decide) (fun c_6 => ?_) (fun c_6 => absurd (by decide) c_6)
            refine zr_iconst (v := 1) dX8_isLeastOfCycle_28 (by decide) ?_
            exact zr_ireturn dX8_isLeastOfCycle_29 rfl (rfl) (⟨_, rfl, by unfold zLeast; (repeat' split) <;> first | rfl | (exfalso; (simp only [Int32.lt_iff_toInt_lt, Int32.le_iff_toInt_le, Int64.lt_iff_toInt_lt, Int64.le_iff_toInt_le, ← Int32.toInt_inj, ← Int64.toInt_inj, Int32.reduceToInt, Int64.reduceToInt] at *; omega)) | (rename_i q; rcases q with q | q | q | q | q <;> exact absurd q (Int32.not_lt.mpr (by assumption))), rfl⟩)
          · refine zr_iconst (v := 0) dX8_isLeastOfCycle_20 (by decide) ?_
            exact zr_ireturn dX8_isLeastOfCycle_21 rfl (rfl) (⟨_, rfl, by unfold zLeast; (repeat' split) <;> first | rfl | (exfalso; (simp only [Int32.lt_iff_toInt_lt, Int32.le_iff_toInt_le, Int64.lt_iff_toInt_lt, Int64.le_iff_toInt_le, ← Int32.toInt_inj, ← Int64.toInt_inj, Int32.reduceToInt, Int64.reduceToInt] at *; omega)) | (rename_i q; rcases q with q | q | q | q | q <;> exact absurd q (Int32.not_lt.mpr (by assumption))), rfl⟩)
        · refine zr_iconst (v := 0) dX8_isLeastOfCycle_20 (by decide) ?_
          exact zr_ireturn dX8_isLeastOfCycle_21 rfl (rfl) (⟨_, rfl, by unfold zLeast; (repeat' split) <;> first | rfl | (exfalso; (simp only [Int32.lt_iff_toInt_lt, Int32.le_iff_toInt_le, Int64.lt_iff_toInt_lt, Int64.le_iff_toInt_le, ← Int32.toInt_inj, ← Int64.toInt_inj, Int32.reduceToInt, Int64.reduceToInt] at *; omega)) | (rename_i q; rcases q with q | q | q | q | q <;> exact absurd q (Int32.not_lt.mpr (by assumption))), rfl⟩)
      · refine zr_iconst (v := 0) dX8_isLeastOfCycle_20 (by decide) ?_
        exact zr_ireturn dX8_isLeastOfCycle_21 rfl (rfl) (⟨_, rfl, by unfold zLeast; (repeat' split) <;> first | rfl | (exfalso; (simp only [Int32.lt_iff_toInt_lt, Int32.le_iff_toInt_le, Int64.lt_iff_toInt_lt, Int64.le_iff_toInt_le, ← Int32.toInt_inj, ← Int64.toInt_inj, Int32.reduceToInt, Int64.reduceToInt] at *; omega)) | (rename_i q; rcases q with q | q | q | q | q <;> exact absurd q (Int32.not_lt.mpr (by assumption))), rfl⟩)
    · refine zr_iconst (v := 0) dX8_isLeastOfCycle_20 (by decide) ?_
      exact zr_ireturn dX8_isLeastOfCycle_21 rfl (rfl) (⟨_, rfl, by unfold zLeast; (repeat' split) <;> first | rfl | (exfalso; (simp only [Int32.lt_iff_toInt_lt, Int32.le_iff_toInt_le, Int64.lt_iff_toInt_lt, Int64.le_iff_toInt_le, ← Int32.toInt_inj, ← Int64.toInt_inj, Int32.reduceToInt, Int64.reduceToInt] at *; omega)) | (rename_i q; rcases q with q | q | q | q | q <;> exact absurd q (Int32.not_lt.mpr (by assumption))), rfl⟩)
  · refine zr_iconst (v := 0) dX8_isLeastOfCycle_20 (by decide) ?_
    exact zr_ireturn dX8_isLeastOfCycle_21 rfl (rfl) (⟨_, rfl, by unfold zLeast; (repeat' split) <;> first | rfl | (exfalso; (simp only [Int32.lt_iff_toInt_lt, Int32.le_iff_toInt_le, Int64.lt_iff_toInt_lt, Int64.le_iff_toInt_le, ← Int32.toInt_inj, ← Int64.toInt_inj, Int32.reduceToInt, Int64.reduceToInt] at *; omega)) | (rename_i q; rcases q with q | q | q | q | q <;> exact absurd q (Int32.not_lt.mpr (by assumption))), rfl⟩)

set_option maxHeartbeats 4000000 in
set_option maxRecDepth 100000 in
theorem l_cyc {X : zX} (hX : X.1.stackTraces = false) {σ : zS} {w a n : Nat} {f : Nat → Int32} (h0 : σ.1 w = .inr (6, [.ref a, .int (nI n)])) (h1 : σ.1 a = .inl (0, 16, .inl f)) (hn : n ≤ 16) : ∀ (k i : Nat) (x : Int32), i + k = 5 → x = zCyc f n i → zW X mX8_countCycles 3 0 0 (zI (fun r s => r = zCyc f n 5 ∧ s = σ)) 4 [some (.ref w), some (.int x), some (.int (nI (i + 1)))] [] σ := by
  intro k
  induction k with
  | zero =>
    intro i x hi hx
    refine zr_iload_n dX8_countCycles_4 rfl ?_
    refine zr_iconst (v := 5) dX8_countCycles_5 (by decide) ?_
    refine zr_icmp_gt (tgt := 26) dX8_countCycles_6 (by decide) (fun c_6 => ?_) (fun c_6 => absurd ((nI_ltI (a := 5) (b := i + 1) (by omega) (by omega)).mpr (by omega)) c_6)
    refine zr_iload_n dX8_countCycles_26 rfl ?_
    exact zr_ireturn dX8_countCycles_27 rfl (rfl) (⟨_, rfl, by rw [hx, show i = 5 from by omega], rfl⟩)
  | succ k ih =>
    intro i x hi hx
    refine zr_iload_n dX8_countCycles_4 rfl ?_
    refine zr_iconst (v := 5) dX8_countCycles_5 (by decide) ?_
    refine zr_icmp_gt (tgt := 26) dX8_countCycles_6 (by decide) (fun c_6 => absurd c_6 (fun h => absurd ((nI_ltI (a := 5) (b := i + 1) (by omega) (by omega)).mp h) (by omega))) (fun c_6 => ?_)
    refine zr_aload_n dX8_countCycles_9 rfl ?_
    refine zr_iload_n dX8_countCycles_10 rfl ?_
    refine zr_pVi [] dX8_countCycles_11 vX8_38 (qX8_isLeastOfCycle hX h0 h1 (by omega) (nI (i + 1))) h0 (by decide) (by decide) (by decide) rfl rfl (Nat.le_of_ble_eq_true rfl) (by decide) rfl ?_
    refine zr_if_eq (tgt := 20) dX8_countCycles_14 (by decide) (fun c_14 => ?_) (fun c_14 => ?_)
    · refine zr_iinc (v := nI (i + 1 + 1)) (ls' := [some (.ref w), some (.int x), some (.int (nI (i + 1 + 1)))]) dX8_countCycles_20 rfl (nI_1 _) (by decide) rfl ?_
      refine zr_goto (tgt := 4) dX8_countCycles_23 (by decide) ?_
      exact ih (i + 1) _ (by omega) (by simp only [zCyc]; first | rw [if_pos c_14, hx] | rw [if_neg c_14, hx])
    · refine zr_iinc (v := x + 1) (ls' := [some (.ref w), some (.int ((x + 1))), some (.int (nI (i + 1)))]) dX8_countCycles_17 rfl (by rfl) (by decide) rfl ?_
      refine zr_iinc (v := nI (i + 1 + 1)) (ls' := [some (.ref w), some (.int ((x + 1))), some (.int (nI (i + 1 + 1)))]) dX8_countCycles_20 rfl (nI_1 _) (by decide) rfl ?_
      refine zr_goto (tgt := 4) dX8_countCycles_23 (by decide) ?_
      exact ih (i + 1) _ (by omega) (by simp only [zCyc]; first | rw [if_pos c_14, hx] | rw [if_neg c_14, hx])

set_option maxHeartbeats 4000000 in
set_option maxRecDepth 100000 in
theorem qX8_countCycles {X : zX} (hX : X.1.stackTraces = false) {σ : zS} {w a n : Nat} {f : Nat → Int32} (h0 : σ.1 w = .inr (6, [.ref a, .int (nI n)])) (h1 : σ.1 a = .inl (0, 16, .inl f)) (hn : n ≤ 16) : zMet X mX8_countCycles yX8_countCycles 3 0 0 [.ref w] σ (zI (fun r s => r = zCyc f n 5 ∧ s = σ)) := by
  refine zMet_of (ls := [some (.ref w), none, none]) rfl (by decide +kernel) rfl (fun h => by cases h) hX (Nat.le_of_ble_eq_true rfl) rfl ?_
  refine zr_iconst (v := 0) dX8_countCycles_0 (by decide) ?_
  refine zr_istore_n (ls' := [some (.ref w), some (.int 0), none]) dX8_countCycles_1 rfl (by decide) rfl ?_
  refine zr_iconst (v := 1) dX8_countCycles_2 (by decide) ?_
  refine zr_istore_n (ls' := [some (.ref w), some (.int 0), some (.int 1)]) dX8_countCycles_3 rfl (by decide) rfl ?_
  exact l_cyc hX h0 h1 hn 5 0 _ (by omega) rfl

set_option maxHeartbeats 4000000 in
set_option maxRecDepth 100000 in
theorem l_soc {X : zX} (hX : X.1.stackTraces = false) {σ : zS} {w a n : Nat} {f : Nat → Int32} {b c : Int32} (h0 : σ.1 w = .inr (6, [.ref a, .int (nI n)])) (h1 : σ.1 a = .inl (0, 16, .inl f)) (hn : n ≤ 16) : ∀ (k i : Nat) (x : Int32) (y : Int32) (z : Int32) (x7 x8 : Option Value), i + k = n → x = (zCr f b c i).1 → y = (zCr f b c i).2.1 → z = (zCr f b c i).2.2 → zW X mX8_sumOfCrossings 1 0 0 (zI (fun r s => r = (zCr f b c n).2.2 ∧ s = σ)) 11 [some (.ref w), some (.int b), some (.int c), some (.int x), some (.int y), some (.int z), some (.int (nI i)), x7, x8] [] σ := by
  intro k
  induction k with
  | zero =>
    intro i x y z x7 x8 hi hx hy hz
    refine zr_iload dX8_sumOfCrossings_11 rfl ?_
    refine zr_aload_n dX8_sumOfCrossings_13 rfl ?_
    refine zr_getfield dX8_sumOfCrossings_14 fX8_15 h0 rfl (by decide) ?_
    refine zr_icmp_ge (tgt := 87) dX8_sumOfCrossings_17 (by decide) (fun c_17 => ?_) (fun c_17 => absurd ((nI_leI (a := n) (b := i) (by omega) (by omega)).mpr (by omega)) c_17)
    refine zr_iload dX8_sumOfCrossings_87 rfl ?_
    exact zr_ireturn dX8_sumOfCrossings_89 rfl (rfl) (⟨_, rfl, by rw [hz, show i = n from by omega], rfl⟩)
  | succ k ih =>
    intro i x y z x7 x8 hi hx hy hz
    refine zr_iload dX8_sumOfCrossings_11 rfl ?_
    refine zr_aload_n dX8_sumOfCrossings_13 rfl ?_
    refine zr_getfield dX8_sumOfCrossings_14 fX8_15 h0 rfl (by decide) ?_
    refine zr_icmp_ge (tgt := 87) dX8_sumOfCrossings_17 (by decide) (fun c_17 => absurd c_17 (fun h => absurd ((nI_leI (a := n) (b := i) (by omega) (by omega)).mp h) (by omega))) (fun c_17 => ?_)
    refine zr_aload_n dX8_sumOfCrossings_20 rfl ?_
    refine zr_getfield dX8_sumOfCrossings_21 fX8_9 h0 rfl (by decide) ?_
    refine zr_iload dX8_sumOfCrossings_24 rfl ?_
    refine zr_iaload dX8_sumOfCrossings_26 h1 (vp_in_nI (n := i) (by omega) (by omega)) ?_
    rw [nI_clamp (n := i) (by omega)]
    refine zr_pSi [] dX8_sumOfCrossings_27 vX8_27 (qX9_indexOf hX σ ((f i))) (by decide) (by decide) (by decide) rfl rfl (Nat.le_of_ble_eq_true rfl) rfl ?_
    refine zr_istore (ls' := [some (.ref w), some (.int b), some (.int c), some (.int x), some (.int y), some (.int z), some (.int (nI i)), some (.int ((zix (f i)))), x8]) dX8_sumOfCrossings_30 (by decide) rfl ?_
    refine zr_iload dX8_sumOfCrossings_32 rfl ?_
    refine zr_iload_n dX8_sumOfCrossings_34 rfl ?_
    refine zr_pSi [] dX8_sumOfCrossings_35 vX8_31 (qX9_positionAfter hX σ ((zix (f i))) (x)) (by decide) (by decide) (by decide) rfl rfl (Nat.le_of_ble_eq_true rfl) rfl ?_
    refine zr_istore (ls' := [some (.ref w), some (.int b), some (.int c), some (.int x), some (.int y), some (.int z), some (.int (nI i)), some (.int ((zix (f i)))), some (.int ((zpa (zix (f i)) x)))]) dX8_sumOfCrossings_38 (by decide) rfl ?_
    refine zr_iload_n dX8_sumOfCrossings_40 rfl ?_
    refine zr_iload dX8_sumOfCrossings_41 rfl ?_
    refine zr_icmp_eq (tgt := 69) dX8_sumOfCrossings_43 (by decide) (fun c_43 => ?_) (fun c_43 => ?_)
    · refine zr_iload dX8_sumOfCrossings_69 rfl ?_
      refine zr_iload dX8_sumOfCrossings_71 rfl ?_
      refine zr_pSi [] dX8_sumOfCrossings_73 vX8_31 (qX9_positionAfter hX σ ((zix (f i))) (y)) (by decide) (by decide) (by decide) rfl rfl (Nat.le_of_ble_eq_true rfl) rfl ?_
      refine zr_istore (ls' := [some (.ref w), some (.int b), some (.int c), some (.int x), some (.int ((zpa (zix (f i)) y))), some (.int z), some (.int (nI i)), some (.int ((zix (f i)))), some (.int ((zpa (zix (f i)) x)))]) dX8_sumOfCrossings_76 (by decide) rfl ?_
      refine zr_iload dX8_sumOfCrossings_78 rfl ?_
      refine zr_istore_n (ls' := [some (.ref w), some (.int b), some (.int c), some (.int ((zpa (zix (f i)) x))), some (.int ((zpa (zix (f i)) y))), some (.int z), some (.int (nI i)), some (.int ((zix (f i)))), some (.int ((zpa (zix (f i)) x)))]) dX8_sumOfCrossings_80 rfl (by decide) rfl ?_
      refine zr_iinc (v := nI (i + 1)) (ls' := [some (.ref w), some (.int b), some (.int c), some (.int ((zpa (zix (f i)) x))), some (.int ((zpa (zix (f i)) y))), some (.int z), some (.int (nI (i + 1))), some (.int ((zix (f i)))), some (.int ((zpa (zix (f i)) x)))]) dX8_sumOfCrossings_81 rfl (nI_1 _) (by decide) rfl ?_
      refine zr_goto (tgt := 11) dX8_sumOfCrossings_84 (by decide) ?_
      exact ih (i + 1) _ _ _ _ _ (by omega) (by rw [hx]; rfl) (by rw [hy]; rfl) (by subst hx; subst hy; subst hz; simp only [zCr]; (repeat' split) <;> first | rfl | (exfalso; simp_all; done))
    · refine zr_iload dX8_sumOfCrossings_46 rfl ?_
      refine zr_iload dX8_sumOfCrossings_48 rfl ?_
      refine zr_icmp_ne (tgt := 69) dX8_sumOfCrossings_50 (by decide) (fun c_50 => ?_) (fun c_50 => ?_)
      · refine zr_iload dX8_sumOfCrossings_69 rfl ?_
        refine zr_iload dX8_sumOfCrossings_71 rfl ?_
        refine zr_pSi [] dX8_sumOfCrossings_73 vX8_31 (qX9_positionAfter hX σ ((zix (f i))) (y)) (by decide) (by decide) (by decide) rfl rfl (Nat.le_of_ble_eq_true rfl) rfl ?_
        refine zr_istore (ls' := [some (.ref w), some (.int b), some (.int c), some (.int x), some (.int ((zpa (zix (f i)) y))), some (.int z), some (.int (nI i)), some (.int ((zix (f i)))), some (.int ((zpa (zix (f i)) x)))]) dX8_sumOfCrossings_76 (by decide) rfl ?_
        refine zr_iload dX8_sumOfCrossings_78 rfl ?_
        refine zr_istore_n (ls' := [some (.ref w), some (.int b), some (.int c), some (.int ((zpa (zix (f i)) x))), some (.int ((zpa (zix (f i)) y))), some (.int z), some (.int (nI i)), some (.int ((zix (f i)))), some (.int ((zpa (zix (f i)) x)))]) dX8_sumOfCrossings_80 rfl (by decide) rfl ?_
        refine zr_iinc (v := nI (i + 1)) (ls' := [some (.ref w), some (.int b), some (.int c), some (.int ((zpa (zix (f i)) x))), some (.int ((zpa (zix (f i)) y))), some (.int z), some (.int (nI (i + 1))), some (.int ((zix (f i)))), some (.int ((zpa (zix (f i)) x)))]) dX8_sumOfCrossings_81 rfl (nI_1 _) (by decide) rfl ?_
        refine zr_goto (tgt := 11) dX8_sumOfCrossings_84 (by decide) ?_
        exact ih (i + 1) _ _ _ _ _ (by omega) (by rw [hx]; rfl) (by rw [hy]; rfl) (by subst hx; subst hy; subst hz; simp only [zCr]; (repeat' split) <;> first | rfl | (exfalso; simp_all; done))
      · refine zr_iload dX8_sumOfCrossings_53 rfl ?_
        refine zr_aload_n dX8_sumOfCrossings_55 rfl ?_
        refine zr_getfield dX8_sumOfCrossings_56 fX8_9 h0 rfl (by decide) ?_
        refine zr_iload dX8_sumOfCrossings_59 rfl ?_
        refine zr_iaload dX8_sumOfCrossings_61 h1 (vp_in_nI (n := i) (by omega) (by omega)) ?_
        rw [nI_clamp (n := i) (by omega)]
        refine zr_i2l dX8_sumOfCrossings_62 ?_
        refine zr_pSi [.int z] dX8_sumOfCrossings_63 vX8_23 (qX9_signOf hX σ (((f i)).toInt64)) (by decide) (by decide) (by decide) rfl rfl (Nat.le_of_ble_eq_true rfl) rfl ?_
        refine zr_iadd dX8_sumOfCrossings_66 ?_
        refine zr_istore (ls' := [some (.ref w), some (.int b), some (.int c), some (.int x), some (.int y), some (.int ((z + (zsg (((f i)).toInt64))))), some (.int (nI i)), some (.int ((zix (f i)))), some (.int ((zpa (zix (f i)) x)))]) dX8_sumOfCrossings_67 (by decide) rfl ?_
        refine zr_iload dX8_sumOfCrossings_69 rfl ?_
        refine zr_iload dX8_sumOfCrossings_71 rfl ?_
        refine zr_pSi [] dX8_sumOfCrossings_73 vX8_31 (qX9_positionAfter hX σ ((zix (f i))) (y)) (by decide) (by decide) (by decide) rfl rfl (Nat.le_of_ble_eq_true rfl) rfl ?_
        refine zr_istore (ls' := [some (.ref w), some (.int b), some (.int c), some (.int x), some (.int ((zpa (zix (f i)) y))), some (.int ((z + (zsg (((f i)).toInt64))))), some (.int (nI i)), some (.int ((zix (f i)))), some (.int ((zpa (zix (f i)) x)))]) dX8_sumOfCrossings_76 (by decide) rfl ?_
        refine zr_iload dX8_sumOfCrossings_78 rfl ?_
        refine zr_istore_n (ls' := [some (.ref w), some (.int b), some (.int c), some (.int ((zpa (zix (f i)) x))), some (.int ((zpa (zix (f i)) y))), some (.int ((z + (zsg (((f i)).toInt64))))), some (.int (nI i)), some (.int ((zix (f i)))), some (.int ((zpa (zix (f i)) x)))]) dX8_sumOfCrossings_80 rfl (by decide) rfl ?_
        refine zr_iinc (v := nI (i + 1)) (ls' := [some (.ref w), some (.int b), some (.int c), some (.int ((zpa (zix (f i)) x))), some (.int ((zpa (zix (f i)) y))), some (.int ((z + (zsg (((f i)).toInt64))))), some (.int (nI (i + 1))), some (.int ((zix (f i)))), some (.int ((zpa (zix (f i)) x)))]) dX8_sumOfCrossings_81 rfl (nI_1 _) (by decide) rfl ?_
        refine zr_goto (tgt := 11) dX8_sumOfCrossings_84 (by decide) ?_
        exact ih (i + 1) _ _ _ _ _ (by omega) (by rw [hx]; rfl) (by rw [hy]; rfl) (by subst hx; subst hy; subst hz; simp only [zCr]; (repeat' split) <;> first | rfl | (exfalso; simp_all; done))

set_option maxHeartbeats 4000000 in
set_option maxRecDepth 100000 in
theorem qX8_sumOfCrossings {X : zX} (hX : X.1.stackTraces = false) {σ : zS} {w a n : Nat} {f : Nat → Int32} (h0 : σ.1 w = .inr (6, [.ref a, .int (nI n)])) (h1 : σ.1 a = .inl (0, 16, .inl f)) (hn : n ≤ 16) (b c : Int32) : zMet X mX8_sumOfCrossings yX8_sumOfCrossings 1 0 0 [.ref w, .int b, .int c] σ (zI (fun r s => r = (zCr f b c n).2.2 ∧ s = σ)) := by
  refine zMet_of (ls := [some (.ref w), some (.int b), some (.int c), none, none, none, none, none, none]) rfl (by decide +kernel) rfl (fun h => by cases h) hX (Nat.le_of_ble_eq_true rfl) rfl ?_
  refine zr_iload_n dX8_sumOfCrossings_0 rfl ?_
  refine zr_istore_n (ls' := [some (.ref w), some (.int b), some (.int c), some (.int b), none, none, none, none, none]) dX8_sumOfCrossings_1 rfl (by decide) rfl ?_
  refine zr_iload_n dX8_sumOfCrossings_2 rfl ?_
  refine zr_istore (ls' := [some (.ref w), some (.int b), some (.int c), some (.int b), some (.int c), none, none, none, none]) dX8_sumOfCrossings_3 (by decide) rfl ?_
  refine zr_iconst (v := 0) dX8_sumOfCrossings_5 (by decide) ?_
  refine zr_istore (ls' := [some (.ref w), some (.int b), some (.int c), some (.int b), some (.int c), some (.int 0), none, none, none]) dX8_sumOfCrossings_6 (by decide) rfl ?_
  refine zr_iconst (v := 0) dX8_sumOfCrossings_8 (by decide) ?_
  refine zr_istore (ls' := [some (.ref w), some (.int b), some (.int c), some (.int b), some (.int c), some (.int 0), some (.int 0), none, none]) dX8_sumOfCrossings_9 (by decide) rfl ?_
  exact l_soc hX h0 h1 hn n 0 _ _ _ _ _ (by omega) rfl rfl rfl

