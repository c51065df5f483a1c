theorem zRn_no {r a : Nat} {P Q : List Int32} {x : Int32} (h : zha P x = nI a) (ha : a < P.length) (hP : P.length < 2 ^ 31) (hq : r = 0 ∨ 400 < a + ((zinn P a).length + Q.length)) : zRn r P (x :: Q) = none := by
  rcases hq with rfl | hq
  · exact zRn_0 (by rw [h]; exact nI_ne a (by omega))
  · cases r with
    | zero => exact zRn_0 (by rw [h]; exact nI_ne a (by omega))
    | succ r => rw [zRn_s h ha hP, if_pos hq]
set_option maxHeartbeats 400000 in
set_option maxRecDepth 100000 in
theorem l_run {X : zX} (hX : X.1.stackTraces = false) {σ : zS} {r d h : Nat} {O : Option (Nat × List Int32)} (hrd : r ≠ d) (hrh : r ≠ h) (hdh : d ≠ h) : ∀ (u t : Nat) (s : zS) (f g : Nat → Int32) (n m c : Nat) (x2 : Option Value), m + 401 * (2000 - c) < u → c ≤ 2000 → t + m ≤ 400 * (c + 1) → n + m ≤ 400 → zFr σ s (fun q => q = r ∨ q = d ∨ q = h) → s.1 r = .inr (4, [.ref d, .ref h, .int (nI n), .int (nI m), .int (nI c), .int 0]) → s.1 d = .inl (0, 400, .inl f) → s.1 h = .inl (0, 400, .inl g) → (∀ y ∈ zP f n, zLt y) → (∀ y ∈ zA_ g m, zLt y) → zRn (2000 - c) (zP f n) (zA_ g m) = O → zW X mX6_run 3 0 0 (zV (fun t => zFr σ t (fun q => q = r ∨ q = d ∨ q = h) ∧ zRd r d h O t)) 2 [some (.ref r), some (.int (nI t)), x2] [] s := by
  intro u
  induction u with
  | zero => intro t s f g n m c x2 hu; omega
  | succ u ih =>
    intro t s f g n m c x2 hu hc ht hn hF h0 h1 h2 hlP hlA hO
    refine zr_iload_n dX6_run_2 rfl ?_
    refine zr_ldcI dX6_run_3 lcX6_62 ?_
    refine zr_icmp_ge (tgt := 56) dX6_run_5 (by decide) (fun c_5 => absurd c_5 (fun q => absurd ((nI_leI (a := 1000000) (b := t) (by omega) (by omega)).mp q) (by omega))) (fun c_5 => ?_)
    refine zr_aload_n dX6_run_8 rfl ?_
    refine zr_getfield dX6_run_9 fX6_22 h0 rfl (by decide) ?_
    refine zr_if_le (tgt := 56) dX6_run_12 (by decide) (fun c_12 => ?_) (fun c_12 => ?_)
    · refine zr_aload_n dX6_run_56 rfl ?_
      refine zr_getfield dX6_run_57 fX6_22 h0 rfl (by decide) ?_
      refine zr_if_le (tgt := 68) dX6_run_60 (by decide) (fun c_60 => ?_) (fun c_60 => absurd (c_12) c_60)
      exact zr_return dX6_run_68 rfl (by have e : m = 0 := Nat.le_zero.mp ((nI_leI (a := m) (b := 0) (by omega) (by omega)).mp c_12); subst e; exact ⟨rfl, hF, f, g, n, 0, c, 0, h0, h1, h2, by rw [← hO, show zA_ g 0 = [] from rfl, zRn_nil]; exact ⟨rfl, rfl, by omega, (show c + (2000 - c) = 2000 by omega)⟩⟩)
    · have hm : 0 < m := Nat.not_le.mp (fun q => c_12 ((nI_leI (a := m) (b := 0) (by omega) (by omega)).mpr q)); rw [zA_pos hm] at hO hlA
      refine zr_aload_n dX6_run_15 rfl ?_
      refine zr_getfield dX6_run_16 fX6_28 h0 rfl (by decide) ?_
      refine zr_if_ne (tgt := 56) dX6_run_19 (by decide) (fun c_19 => absurd (by decide) c_19) (fun c_19 => ?_)
      refine zr_aload_n dX6_run_22 rfl ?_
      refine zr_callVv [] dX6_run_23 vX6_63 (qX6_takeNext hX (n := n) (m := m) (by omega) (by omega) (by omega) h0 h1 h2 (by omega) (by omega) (by omega)) h0 (by decide) (by decide) (by decide) rfl rfl (Nat.le_of_ble_eq_true rfl) (by decide) rfl (fun s_kr1 h_kr1 => ?_)
      obtain ⟨F_kr1, g0_kr1, g1_kr1⟩ := h_kr1
      have kh2 : s_kr1.1 h = .inl (0, 400, .inl g) := zFr.get F_kr1 (by omega) h2
      have kF3 := zFr.tr hF F_kr1 (by intro q hq; omega)
      have hlx : zLt (g (m - 1)) := hlA _ List.mem_cons_self; have hlA' : ∀ y ∈ zA_ g (m - 1), zLt y := fun y hy => hlA y (List.mem_cons_of_mem _ hy); have hlP' : ∀ y ∈ zP (upd f n (g (m - 1))) (n + 1), zLt y := (by rw [zP_push]; intro y hy; rcases List.mem_append.mp hy with q | q; exact hlP y q; rw [List.mem_singleton.mp q]; exact hlx); have hzp : zP (upd f n (g (m - 1))) n = zP f n := zP_congr (fun k hk => upd_ne f _ (by omega))
      refine zr_aload_n dX6_run_26 rfl ?_
      refine zr_getfield dX6_run_27 fX6_9 g0_kr1 rfl (by decide) ?_
      refine zr_aload_n dX6_run_30 rfl ?_
      refine zr_getfield dX6_run_31 fX6_18 g0_kr1 rfl (by decide) ?_
      refine zr_iconst (v := 1) dX6_run_34 (by decide) ?_
      refine zr_isub dX6_run_35 ?_
      refine zr_eqi (x' := nI n) (nI_pred n) ?_
      refine zr_pSi [] dX6_run_36 vX6_66 (qX9_beginOfHandle hX (e := n) g1_kr1 (by decide) (by omega)) (by decide) (by decide) (by decide) rfl rfl (Nat.le_of_ble_eq_true rfl) rfl ?_
      refine zr_eqi (x' := (zha (zP f n) (g (m - 1)))) (zhb_upd f n (g (m - 1))) ?_
      refine zr_istore_n (ls' := [some (.ref r), some (.int (nI t)), some (.int ((zha (zP f n) (g (m - 1)))))]) dX6_run_39 rfl (by decide) rfl ?_
      refine zr_iload_n dX6_run_40 rfl ?_
      refine zr_iconst (v := -1) dX6_run_41 (by decide) ?_
      refine zr_icmp_eq (tgt := 50) dX6_run_42 (by decide) (fun c_42 => ?_) (fun c_42 => ?_)
      · refine zr_iinc (v := nI (t + 1)) (ls' := [some (.ref r), some (.int (nI (t + 1))), some (.int ((zha (zP f n) (g (m - 1)))))]) dX6_run_50 rfl (nI_1 _) (by decide) rfl ?_
        refine zr_goto (tgt := 2) dX6_run_53 (by decide) ?_
        exact ih (t + 1) _ _ g (n + 1) (m - 1) c _ (by omega) hc (by omega) (by omega) kF3 g0_kr1 g1_kr1 kh2 hlP' hlA' (by rw [zP_push, ← zRn_take c_42]; exact hO)
      · obtain ⟨a, ha, ea⟩ := zha_at c_42
        rw [zP_len] at ha
        rw [ea]
        refine zr_aload_n dX6_run_45 rfl ?_
        refine zr_iload_n dX6_run_46 rfl ?_
        by_cases hq : 2000 ≤ c ∨ 400 < a + ((zinn (zP (upd f n (g (m - 1))) n) a).length + (m - 1))
        · have hOn : O = none := by rw [← hO]; exact zRn_no ea (by rw [zP_len]; omega) (by rw [zP_len]; omega) (hq.imp (fun q => by omega) (fun q => by rw [zA_len, ← hzp]; exact q))
          refine zr_callVv [] dX6_run_47 vX6_70 (qR_no hX (k := n) (a := a) (m := m - 1) hrd hrh hdh g0_kr1 g1_kr1 kh2 (by omega) (by omega) ha (by rw [upd_ne f _ (by omega)]; exact hlP _ (zP_mem f ha)) hc hq) g0_kr1 (by decide) (by decide) (by decide) rfl rfl (Nat.le_of_ble_eq_true rfl) (by decide) rfl (fun s_kr4 h_kr4 => ?_)
          obtain ⟨F_kr4, g0_kr4⟩ := h_kr4
          have kh5 : s_kr4.1 d = .inl (0, 400, .inl (upd f n (g (m - 1)))) := zFr.get F_kr4 (by omega) g1_kr1
          have kh6 : s_kr4.1 h = .inl (0, 400, .inl g) := zFr.get F_kr4 (by omega) kh2
          have kF7 := zFr.tr kF3 F_kr4 (by intro q hq; omega)
          refine zr_iinc (v := nI (t + 1)) (ls' := [some (.ref r), some (.int (nI (t + 1))), some (.int (nI a))]) dX6_run_50 rfl (nI_1 _) (by decide) rfl ?_
          refine zr_goto (tgt := 2) dX6_run_53 (by decide) ?_
          refine zr_iload_n dX6_run_2 rfl ?_
          refine zr_ldcI dX6_run_3 lcX6_62 ?_
          refine zr_icmp_ge (tgt := 56) dX6_run_5 (by decide) (fun c_5 => absurd c_5 (fun q => absurd ((nI_leI (a := 1000000) (b := t + 1) (by omega) (by omega)).mp q) (by omega))) (fun c_5 => ?_)
          refine zr_aload_n dX6_run_8 rfl ?_
          refine zr_getfield dX6_run_9 fX6_22 g0_kr4 rfl (by decide) ?_
          refine zr_if_le (tgt := 56) dX6_run_12 (by decide) (fun c_12 => ?_) (fun c_12 => ?_)
          · refine zr_aload_n dX6_run_56 rfl ?_
            refine zr_getfield dX6_run_57 fX6_22 g0_kr4 rfl (by decide) ?_
            refine zr_if_le (tgt := 68) dX6_run_60 (by decide) (fun c_60 => ?_) (fun c_60 => absurd (c_12) c_60)
            exact zr_return dX6_run_68 rfl (⟨rfl, kF7, _, _, _, _, _, _, g0_kr4, kh5, kh6, by rw [hOn]⟩)
          · refine zr_aload_n dX6_run_15 rfl ?_
            refine zr_getfield dX6_run_16 fX6_28 g0_kr4 rfl (by decide) ?_
            refine zr_if_ne (tgt := 56) dX6_run_19 (by decide) (fun c_19 => ?_) (fun c_19 => absurd c_19 (by decide))
            refine zr_aload_n dX6_run_56 rfl ?_
            refine zr_getfield dX6_run_57 fX6_22 g0_kr4 rfl (by decide) ?_
            refine zr_if_le (tgt := 68) dX6_run_60 (by decide) (fun c_60 => absurd c_60 (c_12)) (fun c_60 => ?_)
            refine zr_aload_n dX6_run_63 rfl ?_
            refine zr_iconst (v := 1) dX6_run_64 (by decide) ?_
            refine zr_putfield (fs' := [.ref d, .ref h, .int (nI (n + 1)), .int (nI (m - 1)), .int (nI c), .int 1]) dX6_run_65 pX6_28 g0_kr4 (by decide) (rfl) (rfl) (Nat.le_of_ble_eq_true rfl) rfl ?_
            refine zr_sig (fun ks8 e_ks8 => ?_)
            have kh9 : ks8.1 r = .inr (4, [.ref d, .ref h, .int (nI (n + 1)), .int (nI (m - 1)), .int (nI c), .int 1]) := by rw [e_ks8]; exact zup_at _ _ _
            have kh10 : ks8.1 d = .inl (0, 400, .inl (upd f n (g (m - 1)))) := by rw [e_ks8, zup_ne _ _ (by omega)]; exact kh5
            have kh11 : ks8.1 h = .inl (0, 400, .inl g) := by rw [e_ks8, zup_ne _ _ (by omega)]; exact kh6
            have kF12 := zFr.put kF7 e_ks8 (by first | omega | simp)
            exact zr_return dX6_run_68 rfl (⟨rfl, kF12, _, _, _, _, _, _, kh9, kh10, kh11, by rw [hOn]⟩)
        · refine zr_callVv [] dX6_run_47 vX6_70 (qR_ok hX (k := n) (a := a) (m := m - 1) hrd hrh hdh g0_kr1 g1_kr1 kh2 (by omega) (by omega) ha (by rw [upd_ne f _ (by omega)]; exact hlP _ (zP_mem f ha)) (by omega) (by omega)) g0_kr1 (by decide) (by decide) (by decide) rfl rfl (Nat.le_of_ble_eq_true rfl) (by decide) rfl (fun s_kr13 h_kr13 => ?_)
          obtain ⟨kg14, F_kr13, g0_kr13, g1_kr13, kz15⟩ := h_kr13
          have kh16 : s_kr13.1 d = .inl (0, 400, .inl (upd f n (g (m - 1)))) := zFr.get F_kr13 (by omega) g1_kr1
          have kF17 := zFr.tr kF3 F_kr13 (by intro q hq; omega)
          refine zr_iinc (v := nI (t + 1)) (ls' := [some (.ref r), some (.int (nI (t + 1))), some (.int (nI a))]) dX6_run_50 rfl (nI_1 _) (by decide) rfl ?_
          refine zr_goto (tgt := 2) dX6_run_53 (by decide) ?_
          exact ih (t + 1) _ _ kg14 a _ (c + 1) _ (by omega) (by omega) (by omega) (by omega) kF17 g0_kr13 kh16 g1_kr13 (by rw [zP_congr (g := f) (fun k hk => upd_ne f _ (by omega))]; exact fun y hy => hlP y (by rw [← zP_take f (n := n) (a := a) (by omega)] at hy; exact List.mem_of_mem_take hy)) (by rw [kz15, hzp]; intro y hy; rcases List.mem_append.mp hy with q | q; exact zinn_lt hlP (by rw [zP_len]; exact ha) y q; exact hlA' y q) (by rw [kz15, hzp, ← hO, show 2000 - c = (2000 - (c + 1)) + 1 from by omega, zRn_s ea (by rw [zP_len]; omega) (by rw [zP_len]; omega), if_neg (by rw [zA_len, ← hzp]; omega), zP_take f (by omega), zP_congr (g := f) (fun k hk => upd_ne f _ (by omega))])

set_option maxHeartbeats 400000 in
set_option maxRecDepth 100000 in
theorem qX6_run {X : zX} (hX : X.1.stackTraces = false) {σ : zS} {r d h m : Nat} {f g : Nat → Int32} (hrd : r ≠ d) (hrh : r ≠ h) (hdh : d ≠ h) (h0 : σ.1 r = .inr (4, [.ref d, .ref h, .int (nI 0), .int (nI m), .int (nI 0), .int 0])) (h1 : σ.1 d = .inl (0, 400, .inl f)) (h2 : σ.1 h = .inl (0, 400, .inl g)) (hm : m ≤ 400) (hl : ∀ y ∈ zA_ g m, zLt y) : zMet X mX6_run yX6_run 3 0 0 [.ref r] σ (zV (fun t => zFr σ t (fun q => q = r ∨ q = d ∨ q = h) ∧ zRd r d h (zRn 2000 [] (zA_ g m)) t)) := by
  refine zMet_of (ls := [some (.ref r), none, none]) rfl (by decide +kernel) rfl (fun h => by cases h) hX (Nat.le_of_ble_eq_true rfl) rfl ?_
  refine zr_iconst (v := 0) dX6_run_0 (by decide) ?_
  refine zr_istore_n (ls' := [some (.ref r), some (.int 0), none]) dX6_run_1 rfl (by decide) rfl ?_
  exact l_run hX hrd hrh hdh (m + 401 * 2000 + 1) 0 σ f g 0 m 0 _ (by omega) (by omega) (by omega) (by omega) zFr.rf h0 h1 h2 (fun y hy => by cases hy) hl rfl

set_option maxHeartbeats 400000 in
set_option maxRecDepth 100000 in
theorem qX6_relaxWord {X : zX} (hX : X.1.stackTraces = false) {σ : zS} {r d h : Nat} {f g : Nat → Int32} {v2 v3 v4 v5 : Value} {w a k : Nat} {e : Nat → Int32} (hrd : r ≠ d) (hrh : r ≠ h) (hdh : d ≠ h) (h0 : σ.1 r = .inr (4, [.ref d, .ref h, v2, v3, v4, v5])) (h1 : σ.1 d = .inl (0, 400, .inl f)) (h2 : σ.1 h = .inl (0, 400, .inl g)) (hw : σ.1 w = .inr (6, [.ref a, .int (nI k)])) (ha : σ.1 a = .inl (0, 16, .inl e)) (hk : k ≤ 16) (hwr : w ≠ r) (hwh : w ≠ h) (har : a ≠ r) (hah : a ≠ h) (hl : ∀ y ∈ zP e k, zLt y) : zMet X mX6_relaxWord yX6_relaxWord 4 0 0 [.ref r, .ref w] σ (zV (fun t => zFr σ t (fun q => q = r ∨ q = d ∨ q = h) ∧ zRd r d h (zRn 2000 [] (zP e k)) t)) := by
  refine zMet_of (ls := [some (.ref r), some (.ref w)]) rfl (by decide +kernel) rfl (fun h => by cases h) hX (Nat.le_of_ble_eq_true rfl) rfl ?_
  refine zr_aload_n dX6_relaxWord_0 rfl ?_
  refine zr_callVv [] dX6_relaxWord_1 vX6_32 (qX6_begin hX h0) h0 (by decide) (by decide) (by decide) rfl rfl (Nat.le_of_ble_eq_true rfl) (by decide) rfl (fun s_kr1 h_kr1 => ?_)
  obtain ⟨F_kr1, g0_kr1⟩ := h_kr1
  have kh2 : s_kr1.1 d = .inl (0, 400, .inl f) := zFr.get F_kr1 (by omega) h1
  have kh3 : s_kr1.1 h = .inl (0, 400, .inl g) := zFr.get F_kr1 (by omega) h2
  have kh4 : s_kr1.1 w = .inr (6, [.ref a, .int (nI k)]) := zFr.get F_kr1 (by omega) hw
  have kh5 : s_kr1.1 a = .inl (0, 16, .inl e) := zFr.get F_kr1 (by omega) ha
  have kF6 := zFr.tr zFr.rf (P := fun q => q = r ∨ q = d ∨ q = h) F_kr1 (by intro q hq; omega)
  refine zr_aload_n dX6_relaxWord_4 rfl ?_
  refine zr_aload_n dX6_relaxWord_5 rfl ?_
  refine zr_callVv [] dX6_relaxWord_6 vX6_35 (qX6_putAhead hX (m := 0) (k := k) (by omega) g0_kr1 kh3 (by omega) kh4 kh5 (by omega) (by omega) (by omega) (by omega) (by omega)) g0_kr1 (by decide) (by decide) (by decide) rfl rfl (Nat.le_of_ble_eq_true rfl) (by decide) rfl (fun s_kr7 h_kr7 => ?_)
  obtain ⟨kg8, F_kr7, g0_kr7, g1_kr7, kz9⟩ := h_kr7
  have kh10 : s_kr7.1 d = .inl (0, 400, .inl f) := zFr.get F_kr7 (by omega) kh2
  have kh11 : s_kr7.1 w = .inr (6, [.ref a, .int (nI k)]) := zFr.get F_kr7 (by omega) kh4
  have kh12 : s_kr7.1 a = .inl (0, 16, .inl e) := zFr.get F_kr7 (by omega) kh5
  have kF13 := zFr.tr kF6 F_kr7 (by intro q hq; omega)
  refine zr_aload_n dX6_relaxWord_9 rfl ?_
  exact zr_callVv [] dX6_relaxWord_10 vX6_39 (qX6_run hX hrd hrh hdh g0_kr7 kh10 g1_kr7 (by omega) (by rw [kz9]; simpa [zA_] using hl)) g0_kr7 (by decide) (by decide) (by decide) rfl rfl (Nat.le_of_ble_eq_true rfl) (by decide) rfl (fun s h => zr_return dX6_relaxWord_13 rfl ⟨rfl, zFr.tr kF13 h.1 (by intro q hq; omega), by have q := h.2; rw [kz9] at q; simpa [zA_] using q⟩)

theorem zA_neg (e : Nat → Int32) (i : Nat) : zA_ (fun j => -(e j)) (i + 1) = -(e i) :: zA_ (fun j => -(e j)) i := rfl
/-- the word of a quotient: the inverse of the one, and then the other -/
def zQw (e1 : Nat → Int32) (k1 : Nat) (e2 : Nat → Int32) (k2 : Nat) : List Int32 := zA_ (fun j => -(e1 j)) k1 ++ zP e2 k2
set_option maxHeartbeats 400000 in
set_option maxRecDepth 100000 in
theorem l_rq {X : zX} (hX : X.1.stackTraces = false) {σ : zS} {r d h : Nat} {w a k w2 k2 : Nat} {e e2 : Nat → Int32} (hrd : r ≠ d) (hrh : r ≠ h) (hdh : d ≠ h) (hw : σ.1 w = .inr (6, [.ref a, .int (nI k)])) (ha : σ.1 a = .inl (0, 16, .inl e)) (hk : k ≤ 16) (hwr : w ≠ r) (hwh : w ≠ h) (har : a ≠ r) (hah : a ≠ h) (hk2 : k2 ≤ 16) (hwd : w ≠ d) (had : a ≠ d) (hl : ∀ y ∈ zQw e k e2 k2, zLt y) : ∀ (j i : Nat) (s : zS) (m : Nat) (f : Nat → Int32) (g : Nat → Int32), i + j = k → m = k2 + i → zFr σ s (fun q => q = r ∨ q = d ∨ q = h) → s.1 r = .inr (4, [.ref d, .ref h, .int (nI 0), .int (nI m), .int (nI 0), .int 0]) → s.1 d = .inl (0, 400, .inl f) → s.1 h = .inl (0, 400, .inl g) → zA_ g m = zQw e i e2 k2 → zW X mX6_relaxQuotient 4 0 0 (zV (fun t => zFr σ t (fun q => q = r ∨ q = d ∨ q = h) ∧ zRd r d h (zRn 2000 [] (zQw e k e2 k2)) t)) 11 [some (.ref r), some (.ref w), some (.ref w2), some (.int (nI i))] [] s := by
  intro j
  induction j with
  | zero =>
    intro i s m f g hi hm hF h0 h1 h2 hz
    have kw := zFr.get hF (by omega) hw
    have ka := zFr.get hF (by omega) ha
    refine zr_iload_n dX6_relaxQuotient_11 rfl ?_
    refine zr_aload_n dX6_relaxQuotient_12 rfl ?_
    refine zr_getfield dX6_relaxQuotient_13 fX6_42 kw rfl (by decide) ?_
    refine zr_icmp_ge (tgt := 36) dX6_relaxQuotient_16 (by decide) (fun c_16 => ?_) (fun c_16 => absurd ((nI_leI (a := k) (b := i) (by omega) (by omega)).mpr (by omega)) c_16)
    refine zr_aload_n dX6_relaxQuotient_36 rfl ?_
    exact zr_callVv [] dX6_relaxQuotient_37 vX6_39 (qX6_run hX hrd hrh hdh h0 h1 h2 (by omega) (by rw [hz]; rw [show i = k from by omega]; exact hl)) h0 (by decide) (by decide) (by decide) rfl rfl (Nat.le_of_ble_eq_true rfl) (by decide) rfl (fun s h => zr_return dX6_relaxQuotient_40 rfl ⟨rfl, zFr.tr hF h.1 (by intro q hq; omega), by have q := h.2; rw [hz, show i = k from by omega] at q; exact q⟩)
  | succ j ih =>
    intro i s m f g hi hm hF h0 h1 h2 hz
    have kw := zFr.get hF (by omega) hw
    have ka := zFr.get hF (by omega) ha
    refine zr_iload_n dX6_relaxQuotient_11 rfl ?_
    refine zr_aload_n dX6_relaxQuotient_12 rfl ?_
    refine zr_getfield dX6_relaxQuotient_13 fX6_42 kw rfl (by decide) ?_
    refine zr_icmp_ge (tgt := 36) dX6_relaxQuotient_16 (by decide) (fun c_16 => absurd c_16 (fun h => absurd ((nI_leI (a := k) (b := i) (by omega) (by omega)).mp h) (by omega))) (fun c_16 => ?_)
    refine zr_aload_n dX6_relaxQuotient_19 rfl ?_
    refine zr_aload_n dX6_relaxQuotient_20 rfl ?_
    refine zr_getfield dX6_relaxQuotient_21 fX6_47 kw rfl (by decide) ?_
    refine zr_iload_n dX6_relaxQuotient_24 rfl ?_
    refine zr_iaload dX6_relaxQuotient_25 ka (vp_in_nI (n := i) (by omega) (by omega)) ?_
    rw [nI_clamp (n := i) (by omega)]
    refine zr_ineg dX6_relaxQuotient_26 ?_
    refine zr_callVv [] dX6_relaxQuotient_27 vX6_50 (qX6_push hX (m := m) (-(e i)) (by omega) h0 h2 (by omega)) h0 (by decide) (by decide) (by decide) rfl rfl (Nat.le_of_ble_eq_true rfl) (by decide) rfl (fun s_kr1 h_kr1 => ?_)
    obtain ⟨F_kr1, g0_kr1, g1_kr1⟩ := h_kr1
    have kh2 : s_kr1.1 d = .inl (0, 400, .inl f) := zFr.get F_kr1 (by omega) h1
    have kh3 : s_kr1.1 w = .inr (6, [.ref a, .int (nI k)]) := zFr.get F_kr1 (by omega) kw
    have kh4 : s_kr1.1 a = .inl (0, 16, .inl e) := zFr.get F_kr1 (by omega) ka
    have kF5 := zFr.tr hF F_kr1 (by intro q hq; omega)
    refine zr_iinc (v := nI (i + 1)) (ls' := [some (.ref r), some (.ref w), some (.ref w2), some (.int (nI (i + 1)))]) dX6_relaxQuotient_30 rfl (nI_1 _) (by decide) rfl ?_
    refine zr_goto (tgt := 11) dX6_relaxQuotient_33 (by decide) ?_
    exact ih (i + 1) _ _ _ _ (by omega) (by omega) (kF5) (g0_kr1) (kh2) (g1_kr1) (by rw [zA_push, hz]; rfl)

set_option maxHeartbeats 400000 in
set_option maxRecDepth 100000 in
theorem qX6_relaxQuotient {X : zX} (hX : X.1.stackTraces = false) {σ : zS} {r d h : Nat} {f g : Nat → Int32} {v2 v3 v4 v5 : Value} {w a k w2 a2 k2 : Nat} {e e2 : Nat → Int32} (hrd : r ≠ d) (hrh : r ≠ h) (hdh : d ≠ h) (h0 : σ.1 r = .inr (4, [.ref d, .ref h, v2, v3, v4, v5])) (h1 : σ.1 d = .inl (0, 400, .inl f)) (h2 : σ.1 h = .inl (0, 400, .inl g)) (hw : σ.1 w = .inr (6, [.ref a, .int (nI k)])) (ha : σ.1 a = .inl (0, 16, .inl e)) (hk : k ≤ 16) (hwr : w ≠ r) (hwh : w ≠ h) (har : a ≠ r) (hah : a ≠ h) (hw2 : σ.1 w2 = .inr (6, [.ref a2, .int (nI k2)])) (ha2 : σ.1 a2 = .inl (0, 16, .inl e2)) (hk2 : k2 ≤ 16) (hw2r : w2 ≠ r) (hw2h : w2 ≠ h) (ha2r : a2 ≠ r) (ha2h : a2 ≠ h) (hwd : w ≠ d) (had : a ≠ d) (hl : ∀ y ∈ zQw e k e2 k2, zLt y) : zMet X mX6_relaxQuotient yX6_relaxQuotient 4 0 0 [.ref r, .ref w, .ref w2] σ (zV (fun t => zFr σ t (fun q => q = r ∨ q = d ∨ q = h) ∧ zRd r d h (zRn 2000 [] (zQw e k e2 k2)) t)) := by
  refine zMet_of (ls := [some (.ref r), some (.ref w), some (.ref w2), none]) rfl (by decide +kernel) rfl (fun h => by cases h) hX (Nat.le_of_ble_eq_true rfl) rfl ?_
  refine zr_aload_n dX6_relaxQuotient_0 rfl ?_
  refine zr_callVv [] dX6_relaxQuotient_1 vX6_32 (qX6_begin hX h0) h0 (by decide) (by decide) (by decide) rfl rfl (Nat.le_of_ble_eq_true rfl) (by decide) rfl (fun s_kr1 h_kr1 => ?_)
  obtain ⟨F_kr1, g0_kr1⟩ := h_kr1
  have kh2 : s_kr1.1 d = .inl (0, 400, .inl f) := zFr.get F_kr1 (by omega) h1
  have kh3 : s_kr1.1 h = .inl (0, 400, .inl g) := zFr.get F_kr1 (by omega) h2
  have kh4 : s_kr1.1 w = .inr (6, [.ref a, .int (nI k)]) := zFr.get F_kr1 (by omega) hw
  have kh5 : s_kr1.1 a = .inl (0, 16, .inl e) := zFr.get F_kr1 (by omega) ha
  have kh6 : s_kr1.1 w2 = .inr (6, [.ref a2, .int (nI k2)]) := zFr.get F_kr1 (by omega) hw2
  have kh7 : s_kr1.1 a2 = .inl (0, 16, .inl e2) := zFr.get F_kr1 (by omega) ha2
  have kF8 := zFr.tr zFr.rf (P := fun q => q = r ∨ q = d ∨ q = h) F_kr1 (by intro q hq; omega)
  refine zr_aload_n dX6_relaxQuotient_4 rfl ?_
  refine zr_aload_n dX6_relaxQuotient_5 rfl ?_
  refine zr_callVv [] dX6_relaxQuotient_6 vX6_35 (qX6_putAhead hX (m := 0) (k := k2) (by omega) g0_kr1 kh3 (by omega) kh6 kh7 (by omega) (by omega) (by omega) (by omega) (by omega)) g0_kr1 (by decide) (by decide) (by decide) rfl rfl (Nat.le_of_ble_eq_true rfl) (by decide) rfl (fun s_kr9 h_kr9 => ?_)
  obtain ⟨kg10, F_kr9, g0_kr9, g1_kr9, kz11⟩ := h_kr9
  have kh12 : s_kr9.1 d = .inl (0, 400, .inl f) := zFr.get F_kr9 (by omega) kh2
  have kh13 : s_kr9.1 w = .inr (6, [.ref a, .int (nI k)]) := zFr.get F_kr9 (by omega) kh4
  have kh14 : s_kr9.1 a = .inl (0, 16, .inl e) := zFr.get F_kr9 (by omega) kh5
  have kh15 : s_kr9.1 w2 = .inr (6, [.ref a2, .int (nI k2)]) := zFr.get F_kr9 (by omega) kh6
  have kh16 : s_kr9.1 a2 = .inl (0, 16, .inl e2) := zFr.get F_kr9 (by omega) kh7
  have kF17 := zFr.tr kF8 F_kr9 (by intro q hq; omega)
  refine zr_iconst (v := 0) dX6_relaxQuotient_9 (by decide) ?_
  refine zr_istore_n (ls' := [some (.ref r), some (.ref w), some (.ref w2), some (.int 0)]) dX6_relaxQuotient_10 rfl (by decide) rfl ?_
  exact l_rq hX hrd hrh hdh hw ha hk hwr hwh har hah hk2 hwd had hl k 0 _ _ _ _ (by omega) (by omega) (kF17) g0_kr9 kh12 g1_kr9 (by rw [kz11]; simp only [zA_, zQw, List.append_nil, List.nil_append])

/-- the letter of least index that comes first -/
def zlm (f : Nat → Int32) : Nat → Int32
  | 0 => 0
  | i + 1 => if zlm f i = 0 ∨ zix (f i) < zix (zlm f i) then f i else zlm f i
set_option maxHeartbeats 400000 in
set_option maxRecDepth 100000 in
theorem l_sod {X : zX} (hX : X.1.stackTraces = false) {σ : zS} {r d h n : Nat} {f : Nat → Int32} {v3 v4 v5 : Value} (h0 : σ.1 r = .inr (4, [.ref d, .ref h, .int (nI n), v3, v4, v5])) (h1 : σ.1 d = .inl (0, 400, .inl f)) (hn : n ≤ 400) : ∀ (k i : Nat) (x : Int32), i + k = n → x = zlm f i → zW X mX6_signOfDone 1 0 0 (zI (fun x s => x = zsg (zlm f n).toInt64 ∧ s = σ)) 4 [some (.ref r), some (.int x), some (.int (nI i))] [] σ := by
  intro k
  induction k with
  | zero =>
    intro i x hi hx
    refine zr_iload_n dX6_signOfDone_4 rfl ?_
    refine zr_aload_n dX6_signOfDone_5 rfl ?_
    refine zr_getfield dX6_signOfDone_6 fX6_18 h0 rfl (by decide) ?_
    refine zr_icmp_ge (tgt := 45) dX6_signOfDone_9 (by decide) (fun c_9 => ?_) (fun c_9 => absurd ((nI_leI (a := n) (b := i) (by omega) (by omega)).mpr (by omega)) c_9)
    refine zr_iload_n dX6_signOfDone_45 rfl ?_
    refine zr_i2l dX6_signOfDone_46 ?_
    refine zr_pSi [] dX6_signOfDone_47 vX6_58 (qX9_signOf hX σ ((x).toInt64)) (by decide) (by decide) (by decide) rfl rfl (Nat.le_of_ble_eq_true rfl) rfl ?_
    exact zr_ireturn dX6_signOfDone_50 rfl (rfl) (⟨_, rfl, by rw [hx, show i = n from by omega], rfl⟩)
  | succ k ih =>
    intro i x hi hx
    refine zr_iload_n dX6_signOfDone_4 rfl ?_
    refine zr_aload_n dX6_signOfDone_5 rfl ?_
    refine zr_getfield dX6_signOfDone_6 fX6_18 h0 rfl (by decide) ?_
    refine zr_icmp_ge (tgt := 45) dX6_signOfDone_9 (by decide) (fun c_9 => absurd c_9 (fun h => absurd ((nI_leI (a := n) (b := i) (by omega) (by omega)).mp h) (by omega))) (fun c_9 => ?_)
    refine zr_iload_n dX6_signOfDone_12 rfl ?_
    refine zr_if_eq (tgt := 32) dX6_signOfDone_13 (by decide) (fun c_13 => ?_) (fun c_13 => ?_)
    · refine zr_aload_n dX6_signOfDone_32 rfl ?_
      refine zr_getfield dX6_signOfDone_33 fX6_9 h0 rfl (by decide) ?_
      refine zr_iload_n dX6_signOfDone_36 rfl ?_
      refine zr_iaload dX6_signOfDone_37 h1 (vp_in_nI (n := i) (by omega) (by omega)) ?_
      rw [nI_clamp (n := i) (by omega)]
      refine zr_istore_n (ls' := [some (.ref r), some (.int ((f i))), some (.int (nI i))]) dX6_signOfDone_38 rfl (by decide) rfl ?_
      refine zr_iinc (v := nI (i + 1)) (ls' := [some (.ref r), some (.int ((f i))), some (.int (nI (i + 1)))]) dX6_signOfDone_39 rfl (nI_1 _) (by decide) rfl ?_
      refine zr_goto (tgt := 4) dX6_signOfDone_42 (by decide) ?_
      exact ih (i + 1) _ (by omega) (by simp only [zlm]; rw [← hx, if_pos (Or.inl c_13)])
    · refine zr_aload_n dX6_signOfDone_16 rfl ?_
      refine zr_getfield dX6_signOfDone_17 fX6_9 h0 rfl (by decide) ?_
      refine zr_iload_n dX6_signOfDone_20 rfl ?_
      refine zr_iaload dX6_signOfDone_21 h1 (vp_in_nI (n := i) (by omega) (by omega)) ?_
      rw [nI_clamp (n := i) (by omega)]
      refine zr_pSi [] dX6_signOfDone_22 vX6_54 (qX9_indexOf hX σ ((f i))) (by decide) (by decide) (by decide) rfl rfl (Nat.le_of_ble_eq_true rfl) rfl ?_
      refine zr_iload_n dX6_signOfDone_25 rfl ?_
      refine zr_pSi [.int ((zix (f i)))] dX6_signOfDone_26 vX6_54 (qX9_indexOf hX σ (x)) (by decide) (by decide) (by decide) rfl rfl (Nat.le_of_ble_eq_true rfl) rfl ?_
      refine zr_icmp_ge (tgt := 39) dX6_signOfDone_29 (by decide) (fun c_29 => ?_) (fun c_29 => ?_)
      · refine zr_iinc (v := nI (i + 1)) (ls' := [some (.ref r), some (.int x), some (.int (nI (i + 1)))]) dX6_signOfDone_39 rfl (nI_1 _) (by decide) rfl ?_
        refine zr_goto (tgt := 4) dX6_signOfDone_42 (by decide) ?_
        exact ih (i + 1) _ (by omega) (by simp only [zlm]; rw [← hx, if_neg (fun q => q.elim c_13 (Int32.not_lt.mpr c_29))])
      · refine zr_aload_n dX6_signOfDone_32 rfl ?_
        refine zr_getfield dX6_signOfDone_33 fX6_9 h0 rfl (by decide) ?_
        refine zr_iload_n dX6_signOfDone_36 rfl ?_
        refine zr_iaload dX6_signOfDone_37 h1 (vp_in_nI (n := i) (by omega) (by omega)) ?_
        rw [nI_clamp (n := i) (by omega)]
        refine zr_istore_n (ls' := [some (.ref r), some (.int ((f i))), some (.int (nI i))]) dX6_signOfDone_38 rfl (by decide) rfl ?_
        refine zr_iinc (v := nI (i + 1)) (ls' := [some (.ref r), some (.int ((f i))), some (.int (nI (i + 1)))]) dX6_signOfDone_39 rfl (nI_1 _) (by decide) rfl ?_
        refine zr_goto (tgt := 4) dX6_signOfDone_42 (by decide) ?_
        exact ih (i + 1) _ (by omega) (by simp only [zlm]; rw [← hx, if_pos (Or.inr (Int32.not_le.mp c_29))])

set_option maxHeartbeats 400000 in
set_option maxRecDepth 100000 in
theorem qX6_signOfDone {X : zX} (hX : X.1.stackTraces = false) {σ : zS} {r d h n : Nat} {f : Nat → Int32} {v3 v4 v5 : Value} (h0 : σ.1 r = .inr (4, [.ref d, .ref h, .int (nI n), v3, v4, v5])) (h1 : σ.1 d = .inl (0, 400, .inl f)) (hn : n ≤ 400) : zMet X mX6_signOfDone yX6_signOfDone 1 0 0 [.ref r] σ (zI (fun x s => x = zsg (zlm f n).toInt64 ∧ s = σ)) := by
  refine zMet_of (ls := [some (.ref r), none, none]) rfl (by decide +kernel) rfl (fun h => by cases h) hX (Nat.le_of_ble_eq_true rfl) rfl ?_
  refine zr_iconst (v := 0) dX6_signOfDone_0 (by decide) ?_
  refine zr_istore_n (ls' := [some (.ref r), some (.int 0), none]) dX6_signOfDone_1 rfl (by decide) rfl ?_
  refine zr_iconst (v := 0) dX6_signOfDone_2 (by decide) ?_
  refine zr_istore_n (ls' := [some (.ref r), some (.int 0), some (.int 0)]) dX6_signOfDone_3 rfl (by decide) rfl ?_
  exact l_sod hX h0 h1 hn n 0 _ (by omega) rfl

