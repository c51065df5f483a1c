/-! rows of letters as lists -/
def zP (f : Nat → Int32) : Nat → List Int32
  | 0 => []
  | n + 1 => zP f n ++ [f n]
def zSl (f : Nat → Int32) (i : Nat) : Nat → List Int32
  | 0 => []
  | k + 1 => zSl f i k ++ [f (i + k)]
def zA_ (g : Nat → Int32) : Nat → List Int32
  | 0 => []
  | m + 1 => g m :: zA_ g m
def wv (W : List Int32) : Nat → Int32 := fun k => W.getD k 0
theorem zP_len (f : Nat → Int32) : ∀ n, (zP f n).length = n
  | 0 => rfl
  | n + 1 => by simp [zP, zP_len f n]
theorem zSl_len (f : Nat → Int32) (i : Nat) : ∀ n, (zSl f i n).length = n
  | 0 => rfl
  | n + 1 => by simp [zSl, zSl_len f i n]
theorem zA_len (f : Nat → Int32) : ∀ n, (zA_ f n).length = n
  | 0 => rfl
  | n + 1 => by simp [zA_, zA_len f n]
theorem zP_congr {f g : Nat → Int32} : ∀ {n : Nat}, (∀ k, k < n → f k = g k) → zP f n = zP g n
  | 0, _ => rfl
  | n + 1, h => by simp only [zP]; rw [zP_congr (n := n) (fun k hk => h k (by omega)), h n (by omega)]
theorem zA_congr {f g : Nat → Int32} : ∀ {n : Nat}, (∀ k, k < n → f k = g k) → zA_ f n = zA_ g n
  | 0, _ => rfl
  | n + 1, h => by simp only [zA_]; rw [zA_congr (n := n) (fun k hk => h k (by omega)), h n (by omega)]
theorem zP_get {f : Nat → Int32} : ∀ {n k : Nat}, k < n → (zP f n).getD k 0 = f k
  | 0, k, h => absurd h (Nat.not_lt_zero k)
  | n + 1, k, h => by
    simp only [zP]
    by_cases e : k < n
    · rw [List.getD_eq_getElem?_getD, List.getElem?_append_left (by rw [zP_len]; exact e), ← List.getD_eq_getElem?_getD]; exact zP_get e
    · have e1 : k = n := by omega
      subst e1
      rw [List.getD_eq_getElem?_getD, List.getElem?_append_right (by rw [zP_len]; omega), zP_len, Nat.sub_self]; rfl
theorem zP_take (f : Nat → Int32) : ∀ {n a : Nat}, a ≤ n → (zP f n).take a = zP f a
  | 0, a, h => by
    have : a = 0 := by omega
    subst this; rfl
  | n + 1, a, h => by
    simp only [zP]
    by_cases e : a ≤ n
    · rw [List.take_append_of_le_length (by rw [zP_len]; exact e)]; exact zP_take f e
    · have e1 : a = n + 1 := by omega
      subst e1
      rw [List.take_of_length_le (by simp [zP_len])]; rfl
theorem zP_drop (f : Nat → Int32) : ∀ {n a : Nat}, a ≤ n → (zP f n).drop a = zSl f a (n - a)
  | 0, a, h => by
    have : a = 0 := by omega
    subst this; rfl
  | n + 1, a, h => by
    simp only [zP]
    by_cases e : a ≤ n
    · rw [List.drop_append_of_le_length (by rw [zP_len]; exact e), zP_drop f e, show n + 1 - a = (n - a) + 1 from by omega]
      simp only [zSl]; rw [show a + (n - a) = n from by omega]
    · have e1 : a = n + 1 := by omega
      subst e1
      rw [List.drop_of_length_le (by simp [zP_len]), Nat.sub_self]; rfl
theorem upd_at (f : Nat → Int32) (k : Nat) (x : Int32) : upd f k x k = x := by simp [upd]
theorem upd_ne (f : Nat → Int32) {k j : Nat} (x : Int32) (h : j ≠ k) : upd f k x j = f j := by simp [upd, h]
theorem zA_push (g : Nat → Int32) (m : Nat) (l : Int32) : zA_ (upd g m l) (m + 1) = l :: zA_ g m := by
  simp only [zA_]; rw [upd_at, zA_congr (g := g) (fun k hk => upd_ne g l (by omega))]
theorem zP_push (g : Nat → Int32) (m : Nat) (l : Int32) : zP (upd g m l) (m + 1) = zP g m ++ [l] := by
  simp only [zP]; rw [upd_at, zP_congr (g := g) (fun k hk => upd_ne g l (by omega))]
theorem zbh_congr {f g : Nat → Int32} (j l : Int32) : ∀ {i : Nat}, (∀ k, k < i → f k = g k) → zbh f j l i = zbh g j l i
  | 0, _ => rfl
  | i + 1, h => by simp only [zbh]; rw [zbh_congr j l (i := i) (fun k hk => h k (by omega)), h i (by omega)]
theorem zhb_congr {f g : Nat → Int32} {e : Nat} (h : ∀ k, k ≤ e → f k = g k) : zhb f e = zhb g e := by
  unfold zhb; rw [h e (Nat.le_refl _)]; exact zbh_congr _ _ (fun k hk => h k (by omega))
theorem zbh_cases (f : Nat → Int32) (j l : Int32) : ∀ i : Nat, zbh f j l i = -1 ∨ ∃ a, a < i ∧ zbh f j l i = nI a ∧ f a = -l ∧ zix (f a) = j ∧ ∀ k, a < k → k < i → ¬ zix (f k) = j ∧ ¬ zix (f k) = j - 1
  | 0 => Or.inl rfl
  | i + 1 => by
    simp only [zbh]
    by_cases h1 : zix (f i) = j
    · rw [if_pos h1]
      by_cases h2 : f i = -l
      · rw [if_pos h2]; exact Or.inr ⟨i, by omega, rfl, h2, h1, fun k h3 h4 => by omega⟩
      · rw [if_neg h2]; exact Or.inl rfl
    · rw [if_neg h1]
      by_cases h3 : zix (f i) = j - 1
      · rw [if_pos h3]; exact Or.inl rfl
      · rw [if_neg h3]
        rcases zbh_cases f j l i with h | ⟨a, g1, g2, g3, g4, g5⟩
        · exact Or.inl h
        · refine Or.inr ⟨a, by omega, g2, g3, g4, fun k h4 h5 => ?_⟩
          by_cases e : k = i
          · subst e; exact ⟨h1, h3⟩
          · exact g5 k h4 (by omega)
def zrp (x y : Int32) : List Int32 := if zix y = zix x + 1 then [-(zsg x.toInt64) * (zix x + 1), zsg y.toInt64 * zix x, zsg x.toInt64 * (zix x + 1)] else [y]
def zinn (P : List Int32) (a : Nat) : List Int32 := (P.drop (a + 1)).flatMap (zrp (P.getD a 0))
/-- where the handle begins that ends with x after P -/
def zha (P : List Int32) (x : Int32) : Int32 := zbh (wv P) (zix x) x P.length
def zTk (K : List Int32 → List Int32 → Option (Nat × List Int32)) (r : Nat) : List Int32 → List Int32 → Option (Nat × List Int32)
  | P, [] => some (r, P)
  | P, x :: Q => if zha P x = -1 then zTk K r (P ++ [x]) Q else K (P.take (zha P x).toNatClampNeg) (zinn P (zha P x).toNatClampNeg ++ Q)
def zRn : Nat → List Int32 → List Int32 → Option (Nat × List Int32)
  | 0 => zTk (fun _ _ => none) 0
  | r + 1 => zTk (fun P Q => if 400 < P.length + Q.length then none else zRn r P Q) (r + 1)
theorem zha_P {f : Nat → Int32} {n : Nat} (x : Int32) : zha (zP f n) x = zbh f (zix x) x n := by
  unfold zha; rw [zP_len]; exact zbh_congr _ _ (fun k hk => zP_get hk)
theorem zinn_P {f : Nat → Int32} {n a : Nat} (h : a < n) : zinn (zP f n) a = (zSl f (a + 1) (n - (a + 1))).flatMap (zrp (f a)) := by
  unfold zinn; rw [zP_drop f (by omega), zP_get h]
def zct (v : Int32) (L : List Int32) : Nat := L.countP (fun y => decide (y = v ∨ y = -v))
/-- a copy of i letters of g over f -/
def zcpy (f g : Nat → Int32) (i : Nat) : Nat → Int32 := fun k => if k < i then g k else f k
theorem zcpy_0 (f g : Nat → Int32) : zcpy f g 0 = f := by funext k; simp [zcpy]
theorem zcpy_s (f g : Nat → Int32) (i : Nat) : upd (zcpy f g i) i (g i) = zcpy f g (i + 1) := by
  funext k
  simp only [upd, zcpy]
  by_cases h1 : k = i
  · subst h1; rw [if_pos rfl, if_pos (by omega)]
  · rw [if_neg h1]
    by_cases h2 : k < i
    · rw [if_pos h2, if_pos (by omega)]
    · rw [if_neg h2, if_neg (by omega)]

set_option maxHeartbeats 4000000 in
set_option maxRecDepth 100000 in
theorem l_copyRow {X : zX} (hX : X.1.stackTraces = false) {σ : zS} {w a b m N : Nat} {f g : Nat → Int32} {v : Value} (h0 : σ.1 w = .inr (6, [.ref a, v])) (h1 : σ.1 a = .inl (0, 16, .inl f)) (h2 : σ.1 b = .inl (0, N, .inl g)) (hwa : w ≠ a) (hbw : b ≠ w) (hba : b ≠ a) (hm : m ≤ 16) (hN : m ≤ N) (hN2 : N < 2 ^ 31) : ∀ (k i : Nat) (s : zS), i + k = m → zFr σ s (fun q => q = w ∨ q = a) → s.1 w = .inr (6, [.ref a, .int (nI i)]) → s.1 a = .inl (0, 16, .inl (zcpy f g i)) → zW X mX8_copyRow 1 0 0 (zV (fun s => zFr σ s (fun q => q = w ∨ q = a) ∧ s.1 w = .inr (6, [.ref a, .int (nI m)]) ∧ s.1 a = .inl (0, 16, .inl (zcpy f g m)))) 7 [some (.ref w), some (.ref b), some (.int (nI m)), some (.int (nI i))] [] s := by
  intro k
  induction k with
  | zero =>
    intro i s hi hF hw ha
    have hb := zFr.get hF (by omega) h2
    refine zr_iload_n dX8_copyRow_7 rfl ?_
    refine zr_iload_n dX8_copyRow_8 rfl ?_
    refine zr_icmp_ge (tgt := 25) dX8_copyRow_9 (by decide) (fun c_9 => ?_) (fun c_9 => absurd ((nI_leI (a := m) (b := i) (by omega) (by omega)).mpr (by omega)) c_9)
    exact zr_return dX8_copyRow_25 rfl (by have e : i = m := (by omega); subst e; exact ⟨rfl, hF, hw, ha⟩)
  | succ k ih =>
    intro i s hi hF hw ha
    have hb := zFr.get hF (by omega) h2
    refine zr_iload_n dX8_copyRow_7 rfl ?_
    refine zr_iload_n dX8_copyRow_8 rfl ?_
    refine zr_icmp_ge (tgt := 25) dX8_copyRow_9 (by decide) (fun c_9 => absurd c_9 (fun h => absurd ((nI_leI (a := m) (b := i) (by omega) (by omega)).mp h) (by omega))) (fun c_9 => ?_)
    refine zr_aload_n dX8_copyRow_12 rfl ?_
    refine zr_aload_n dX8_copyRow_13 rfl ?_
    refine zr_iload_n dX8_copyRow_14 rfl ?_
    refine zr_iaload dX8_copyRow_15 hb (vp_in_nI (n := i) (by omega) (by omega)) ?_
    rw [nI_clamp (n := i) (by omega)]
    refine zr_callVv [] dX8_copyRow_16 vX8_46 (qX8_append hX (n := i) (g i) (by omega) hw ha (by omega)) hw (by decide) (by decide) (by decide) rfl rfl (Nat.le_of_ble_eq_true rfl) (by decide) rfl (fun s_kr1 h_kr1 => ?_)
    obtain ⟨F_kr1, g0_kr1, g1_kr1⟩ := h_kr1
    have kh2 : s_kr1.1 b = .inl (0, N, .inl g) := zFr.get F_kr1 (by omega) hb
    have kF3 := zFr.tr hF F_kr1 (by intro q hq; omega)
    refine zr_iinc (v := nI (i + 1)) (ls' := [some (.ref w), some (.ref b), some (.int (nI m)), some (.int (nI (i + 1)))]) dX8_copyRow_19 rfl (nI_1 _) (by decide) rfl ?_
    refine zr_goto (tgt := 7) dX8_copyRow_22 (by decide) ?_
    exact ih (i + 1) _ (by omega) (kF3) (g0_kr1) (by rw [← zcpy_s]; exact g1_kr1)

set_option maxHeartbeats 4000000 in
set_option maxRecDepth 100000 in
theorem qX8_copyRow {X : zX} (hX : X.1.stackTraces = false) {σ : zS} {w a b m N : Nat} {f g : Nat → Int32} {v : Value} (h0 : σ.1 w = .inr (6, [.ref a, v])) (h1 : σ.1 a = .inl (0, 16, .inl f)) (h2 : σ.1 b = .inl (0, N, .inl g)) (hwa : w ≠ a) (hbw : b ≠ w) (hba : b ≠ a) (hm : m ≤ 16) (hN : m ≤ N) (hN2 : N < 2 ^ 31) : zMet X mX8_copyRow yX8_copyRow 1 0 0 [.ref w, .ref b, .int (nI m)] σ (zV (fun s => zFr σ s (fun q => q = w ∨ q = a) ∧ s.1 w = .inr (6, [.ref a, .int (nI m)]) ∧ s.1 a = .inl (0, 16, .inl (zcpy f g m)))) := by
  refine zMet_of (ls := [some (.ref w), some (.ref b), some (.int (nI m)), none]) rfl (by decide +kernel) rfl (fun h => by cases h) hX (Nat.le_of_ble_eq_true rfl) rfl ?_
  refine zr_aload_n dX8_copyRow_0 rfl ?_
  refine zr_iconst (v := 0) dX8_copyRow_1 (by decide) ?_
  refine zr_putfield (fs' := [.ref a, .int 0]) dX8_copyRow_2 pX8_15 h0 (by decide) (rfl) (rfl) (Nat.le_of_ble_eq_true rfl) rfl ?_
  refine zr_sig (fun ks1 e_ks1 => ?_)
  have kh2 : ks1.1 w = .inr (6, [.ref a, .int 0]) := by rw [e_ks1]; exact zup_at _ _ _
  have kh3 : ks1.1 a = .inl (0, 16, .inl f) := by rw [e_ks1, zup_ne _ _ (by omega)]; exact h1
  have kh4 : ks1.1 b = .inl (0, N, .inl g) := by rw [e_ks1, zup_ne _ _ (by omega)]; exact h2
  have kF5 := zFr.put zFr.rf (P := fun q => q = w ∨ q = a) e_ks1 (by first | omega | simp)
  refine zr_iconst (v := 0) dX8_copyRow_5 (by decide) ?_
  refine zr_istore_n (ls' := [some (.ref w), some (.ref b), some (.int (nI m)), some (.int 0)]) dX8_copyRow_6 rfl (by decide) rfl ?_
  exact l_copyRow hX h0 h1 h2 hwa hbw hba hm hN hN2 m 0 _ (by omega) kF5 kh2 (by rw [zcpy_0]; exact kh3)

set_option maxHeartbeats 4000000 in
set_option maxRecDepth 100000 in
theorem qX8_copyFrom {X : zX} (hX : X.1.stackTraces = false) {σ : zS} {w a b c m : Nat} {f g : Nat → Int32} {v : Value} (h0 : σ.1 w = .inr (6, [.ref a, v])) (h1 : σ.1 a = .inl (0, 16, .inl f)) (h3 : σ.1 c = .inr (6, [.ref b, .int (nI m)])) (h2 : σ.1 b = .inl (0, 16, .inl g)) (hwa : w ≠ a) (hbw : b ≠ w) (hba : b ≠ a) (hm : m ≤ 16) : zMet X mX8_copyFrom yX8_copyFrom 2 0 0 [.ref w, .ref c] σ (zV (fun s => zFr σ s (fun q => q = w ∨ q = a) ∧ s.1 w = .inr (6, [.ref a, .int (nI m)]) ∧ s.1 a = .inl (0, 16, .inl (zcpy f g m)))) := by
  refine zMet_of (ls := [some (.ref w), some (.ref c)]) rfl (by decide +kernel) rfl (fun h => by cases h) hX (Nat.le_of_ble_eq_true rfl) rfl ?_
  refine zr_aload_n dX8_copyFrom_0 rfl ?_
  refine zr_aload_n dX8_copyFrom_1 rfl ?_
  refine zr_getfield dX8_copyFrom_2 fX8_9 h3 rfl (by decide) ?_
  refine zr_aload_n dX8_copyFrom_5 rfl ?_
  refine zr_getfield dX8_copyFrom_6 fX8_15 h3 rfl (by decide) ?_
  exact zr_callVv [] dX8_copyFrom_9 vX8_42 (qX8_copyRow hX h0 h1 h2 hwa hbw hba hm hm (by decide)) h0 (by decide) (by decide) (by decide) rfl rfl (Nat.le_of_ble_eq_true rfl) (by decide) rfl (fun s h => zr_return dX8_copyFrom_12 rfl ⟨rfl, h⟩)

set_option maxHeartbeats 4000000 in
set_option maxRecDepth 100000 in
theorem l_rp {X : zX} (hX : X.1.stackTraces = false) {σ : zS} {w a n : Nat} {f : Nat → Int32} (hwa : w ≠ a) (h0 : σ.1 w = .inr (6, [.ref a, .int (nI n)])) (h1 : σ.1 a = .inl (0, 16, .inl f)) (hn : n ≤ 16) : ∀ (k i : Nat) (s : zS) (m : Nat) (h : Nat → Int32), i + k = n → (zRP f i).1 = m → (zRP f i).2 = h → m ≤ i → zFr σ s (fun q => q = w ∨ q = a) → s.1 w = .inr (6, [.ref a, .int (nI n)]) → s.1 a = .inl (0, 16, .inl h) → zW X mX8_removePairs 0 0 0 (zI (fun r s => r = nI (n - (zRP f n).1) ∧ zFr σ s (fun q => q = w ∨ q = a) ∧ s.1 w = .inr (6, [.ref a, .int (nI (zRP f n).1)]) ∧ s.1 a = .inl (0, 16, .inl (zRP f n).2))) 4 [some (.ref w), some (.int (nI m)), some (.int (nI i))] [] s := by
  intro k
  induction k with
  | zero =>
    intro i s m h hi hm hh hmi hF hw ha
    refine zr_iload_n dX8_removePairs_4 rfl ?_
    refine zr_aload_n dX8_removePairs_5 rfl ?_
    refine zr_getfield dX8_removePairs_6 fX8_15 hw rfl (by decide) ?_
    refine zr_icmp_ge (tgt := 61) dX8_removePairs_9 (by decide) (fun c_9 => ?_) (fun c_9 => absurd ((nI_leI (a := n) (b := i) (by omega) (by omega)).mpr (by omega)) c_9)
    refine zr_aload_n dX8_removePairs_61 rfl ?_
    refine zr_getfield dX8_removePairs_62 fX8_15 hw rfl (by decide) ?_
    refine zr_iload_n dX8_removePairs_65 rfl ?_
    refine zr_isub dX8_removePairs_66 ?_
    refine zr_eqi (x' := nI (n - m)) (pk_sub (a := n) (b := m) (by omega)) ?_
    refine zr_istore_n (ls' := [some (.ref w), some (.int (nI m)), some (.int (nI (n - m)))]) dX8_removePairs_67 rfl (by decide) rfl ?_
    refine zr_aload_n dX8_removePairs_68 rfl ?_
    refine zr_iload_n dX8_removePairs_69 rfl ?_
    refine zr_putfield (fs' := [.ref a, .int (nI m)]) dX8_removePairs_70 pX8_15 hw (by decide) (rfl) (rfl) (Nat.le_of_ble_eq_true rfl) rfl ?_
    refine zr_sig (fun ks1 e_ks1 => ?_)
    have kh2 : ks1.1 w = .inr (6, [.ref a, .int (nI m)]) := by rw [e_ks1]; exact zup_at _ _ _
    have kh3 : ks1.1 a = .inl (0, 16, .inl h) := by rw [e_ks1, zup_ne _ _ (by omega)]; exact ha
    have kF4 := zFr.put hF e_ks1 (by first | omega | simp)
    refine zr_iload_n dX8_removePairs_73 rfl ?_
    exact zr_ireturn dX8_removePairs_74 rfl (rfl) (by have e : i = n := (by omega); subst e; subst hm; subst hh; exact ⟨_, rfl, rfl, kF4, kh2, kh3⟩)
  | succ k ih =>
    intro i s m h hi hm hh hmi hF hw ha
    refine zr_iload_n dX8_removePairs_4 rfl ?_
    refine zr_aload_n dX8_removePairs_5 rfl ?_
    refine zr_getfield dX8_removePairs_6 fX8_15 hw rfl (by decide) ?_
    refine zr_icmp_ge (tgt := 61) dX8_removePairs_9 (by decide) (fun c_9 => absurd c_9 (fun h => absurd ((nI_leI (a := n) (b := i) (by omega) (by omega)).mp h) (by omega))) (fun c_9 => ?_)
    refine zr_iload_n dX8_removePairs_12 rfl ?_
    refine zr_if_le (tgt := 40) dX8_removePairs_13 (by decide) (fun c_13 => ?_) (fun c_13 => ?_)
    · refine zr_aload_n dX8_removePairs_40 rfl ?_
      refine zr_getfield dX8_removePairs_41 fX8_9 hw rfl (by decide) ?_
      refine zr_iload_n dX8_removePairs_44 rfl ?_
      refine zr_aload_n dX8_removePairs_45 rfl ?_
      refine zr_getfield dX8_removePairs_46 fX8_9 hw rfl (by decide) ?_
      refine zr_iload_n dX8_removePairs_49 rfl ?_
      refine zr_iaload dX8_removePairs_50 ha (vp_in_nI (n := i) (by omega) (by omega)) ?_
      rw [nI_clamp (n := i) (by omega)]
      refine zr_iastore dX8_removePairs_51 ha (vp_in_nI (n := m) (by omega) (by omega)) ?_
      rw [nI_clamp (n := m) (by omega)]
      refine zr_sig (fun ks1 e_ks1 => ?_)
      have kh2 : ks1.1 w = .inr (6, [.ref a, .int (nI n)]) := by rw [e_ks1, zup_ne _ _ (by omega)]; exact hw
      have kh3 : ks1.1 a = .inl (0, 16, .inl (upd h m (h i))) := by rw [e_ks1]; exact zup_at _ _ _
      have kF4 := zFr.put hF e_ks1 (by first | omega | simp)
      refine zr_iinc (v := nI (m + 1)) (ls' := [some (.ref w), some (.int (nI (m + 1))), some (.int (nI i))]) dX8_removePairs_52 rfl (nI_1 _) (by decide) rfl ?_
      refine zr_iinc (v := nI (i + 1)) (ls' := [some (.ref w), some (.int (nI (m + 1))), some (.int (nI (i + 1)))]) dX8_removePairs_55 rfl (nI_1 _) (by decide) rfl ?_
      refine zr_goto (tgt := 4) dX8_removePairs_58 (by decide) ?_
      exact ih (i + 1) _ _ _ (by omega) (by simp only [zRP]; rw [hm, hh, if_neg (fun q => absurd ((nI_leI (a := m) (b := 0) (by omega) (by omega)).mp c_13) (by omega))]) (by simp only [zRP]; rw [hm, hh, if_neg (fun q => absurd ((nI_leI (a := m) (b := 0) (by omega) (by omega)).mp c_13) (by omega))]) (by omega) (kF4) (kh2) (kh3)
    · have c13 : 0 < m := Nat.not_le.mp (fun q => c_13 ((nI_leI (a := m) (b := 0) (by omega) (by omega)).mpr q))
      refine zr_aload_n dX8_removePairs_16 rfl ?_
      refine zr_getfield dX8_removePairs_17 fX8_9 hw rfl (by decide) ?_
      refine zr_iload_n dX8_removePairs_20 rfl ?_
      refine zr_iconst (v := 1) dX8_removePairs_21 (by decide) ?_
      refine zr_isub dX8_removePairs_22 ?_
      refine zr_eqi (x' := nI (m - 1)) (pk_sub (a := m) (b := 1) (by omega)) ?_
      refine zr_iaload dX8_removePairs_23 ha (vp_in_nI (n := m - 1) (by omega) (by omega)) ?_
      rw [nI_clamp (n := m - 1) (by omega)]
      refine zr_aload_n dX8_removePairs_24 rfl ?_
      refine zr_getfield dX8_removePairs_25 fX8_9 hw rfl (by decide) ?_
      refine zr_iload_n dX8_removePairs_28 rfl ?_
      refine zr_iaload dX8_removePairs_29 ha (vp_in_nI (n := i) (by omega) (by omega)) ?_
      rw [nI_clamp (n := i) (by omega)]
      refine zr_ineg dX8_removePairs_30 ?_
      refine zr_icmp_ne (tgt := 40) dX8_removePairs_31 (by decide) (fun c_31 => ?_) (fun c_31 => ?_)
      · refine zr_aload_n dX8_removePairs_40 rfl ?_
        refine zr_getfield dX8_removePairs_41 fX8_9 hw rfl (by decide) ?_
        refine zr_iload_n dX8_removePairs_44 rfl ?_
        refine zr_aload_n dX8_removePairs_45 rfl ?_
        refine zr_getfield dX8_removePairs_46 fX8_9 hw rfl (by decide) ?_
        refine zr_iload_n dX8_removePairs_49 rfl ?_
        refine zr_iaload dX8_removePairs_50 ha (vp_in_nI (n := i) (by omega) (by omega)) ?_
        rw [nI_clamp (n := i) (by omega)]
        refine zr_iastore dX8_removePairs_51 ha (vp_in_nI (n := m) (by omega) (by omega)) ?_
        rw [nI_clamp (n := m) (by omega)]
        refine zr_sig (fun ks5 e_ks5 => ?_)
        have kh6 : ks5.1 w = .inr (6, [.ref a, .int (nI n)]) := by rw [e_ks5, zup_ne _ _ (by omega)]; exact hw
        have kh7 : ks5.1 a = .inl (0, 16, .inl (upd h m (h i))) := by rw [e_ks5]; exact zup_at _ _ _
        have kF8 := zFr.put hF e_ks5 (by first | omega | simp)
        refine zr_iinc (v := nI (m + 1)) (ls' := [some (.ref w), some (.int (nI (m + 1))), some (.int (nI i))]) dX8_removePairs_52 rfl (nI_1 _) (by decide) rfl ?_
        refine zr_iinc (v := nI (i + 1)) (ls' := [some (.ref w), some (.int (nI (m + 1))), some (.int (nI (i + 1)))]) dX8_removePairs_55 rfl (nI_1 _) (by decide) rfl ?_
        refine zr_goto (tgt := 4) dX8_removePairs_58 (by decide) ?_
        exact ih (i + 1) _ _ _ (by omega) (by simp only [zRP]; rw [hm, hh, if_neg (fun q => c_31 q.2)]) (by simp only [zRP]; rw [hm, hh, if_neg (fun q => c_31 q.2)]) (by omega) (kF8) (kh6) (kh7)
      · refine zr_iinc (v := nI (m - 1)) (ls' := [some (.ref w), some (.int (nI (m - 1))), some (.int (nI i))]) dX8_removePairs_34 rfl ((z_m1 _).trans (pk_sub (a := m) (b := 1) (by omega))) (by decide) rfl ?_
        refine zr_goto (tgt := 55) dX8_removePairs_37 (by decide) ?_
        refine zr_iinc (v := nI (i + 1)) (ls' := [some (.ref w), some (.int (nI (m - 1))), some (.int (nI (i + 1)))]) dX8_removePairs_55 rfl (nI_1 _) (by decide) rfl ?_
        refine zr_goto (tgt := 4) dX8_removePairs_58 (by decide) ?_
        exact ih (i + 1) _ _ _ (by omega) (by simp only [zRP]; rw [hm, hh, if_pos ⟨c13, c_31⟩]) (by simp only [zRP]; rw [hm, hh, if_pos ⟨c13, c_31⟩]) (by omega) (hF) (hw) (ha)

set_option maxHeartbeats 4000000 in
set_option maxRecDepth 100000 in
theorem qX8_removePairs {X : zX} (hX : X.1.stackTraces = false) {σ : zS} {w a n : Nat} {f : Nat → Int32} (hwa : w ≠ a) (h0 : σ.1 w = .inr (6, [.ref a, .int (nI n)])) (h1 : σ.1 a = .inl (0, 16, .inl f)) (hn : n ≤ 16) : zMet X mX8_removePairs yX8_removePairs 0 0 0 [.ref w] σ (zI (fun r s => r = nI (n - (zRP f n).1) ∧ zFr σ s (fun q => q = w ∨ q = a) ∧ s.1 w = .inr (6, [.ref a, .int (nI (zRP f n).1)]) ∧ s.1 a = .inl (0, 16, .inl (zRP f n).2))) := by
  refine zMet_of (ls := [some (.ref w), none, none]) rfl (by decide +kernel) rfl (fun h => by cases h) hX (Nat.le_of_ble_eq_true rfl) rfl ?_
  refine zr_iconst (v := 0) dX8_removePairs_0 (by decide) ?_
  refine zr_istore_n (ls' := [some (.ref w), some (.int 0), none]) dX8_removePairs_1 rfl (by decide) rfl ?_
  refine zr_iconst (v := 0) dX8_removePairs_2 (by decide) ?_
  refine zr_istore_n (ls' := [some (.ref w), some (.int 0), some (.int 0)]) dX8_removePairs_3 rfl (by decide) rfl ?_
  exact l_rp hX hwa h0 h1 hn n 0 _ 0 f (by omega) rfl rfl (by omega) zFr.rf h0 h1

