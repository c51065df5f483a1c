/-! the reference reads a command, all of them -/
theorem zdig2 {x : Int32} (h1 : 48 ≤ x) (h2 : x ≤ 57) : x - 48 = nI (x - 48).toNatClampNeg := by
  obtain ⟨k, hk, e⟩ := zdig h1 h2
  rw [e, nI_clamp (by omega)]
set_option maxHeartbeats 400000 in
set_option maxRecDepth 100000 in
theorem qX10_commandHere {X : zX} (hX : X.1.stackTraces = false) {σ : zS} {y : Nat} {F : Nat → Int32} {ip td : Nat → Int32} {n a t : Nat} (h0 : σ.1 y = zmO y (upd (upd F 25 (nI a)) 27 (nI t))) (h5 : σ.1 (y + 5) = .inl (0, 60, .inl ip)) (fn : F 13 = nI n) (hn : n ≤ 60) (ha : a ≤ n) (h11 : σ.1 (y + 11) = .inl (0, 93, .inl td)) (ht : t ≤ 12) : zMet X mX10_commandHere yX10_commandHere 5 0 0 [.ref y] σ (zI (fun y_ s => (((zrc ip n a).1 = true ∧ y_ = 1) ∨ ((zrc ip n a).1 = false ∧ y_ = 0)) ∧ zFr σ s (fun q => q = y ∨ q = y + 11) ∧ s.1 y = zmO y (upd (upd F 25 (nI ((zrc ip n a).2.1))) 27 (nI t)) ∧ ∃ td1, s.1 (y + 11) = .inl (0, 93, .inl td1) ∧ (∀ q, q < 3 * t → td1 q = td q) ∧ ((zrc ip n a).1 = true → zTl td1 t (zrc ip n a).2.2))) := by
  refine zMet_of (ls := [some (.ref y), none]) rfl (by decide +kernel) rfl (fun h => by cases h) hX (Nat.le_of_ble_eq_true rfl) rfl ?_
  refine zr_iconst (v := 3) dX10_commandHere_0 (by decide) ?_
  refine zr_aload_n dX10_commandHere_1 rfl ?_
  refine zr_getM (v := .int (nI t)) dX10_commandHere_2 fX10_234 h0 rfl ?_
  refine zr_imul dX10_commandHere_5 ?_
  refine zr_eqi (x' := nI (3 * t)) (pk_mul 3 t) ?_
  refine zr_iconst (v := 1) dX10_commandHere_6 (by decide) ?_
  refine zr_iadd dX10_commandHere_7 ?_
  refine zr_eqi (x' := nI ((3 * t) + 1)) (nI_add (3 * t) 1) ?_
  refine zr_istore_n (ls' := [some (.ref y), some (.int (nI ((3 * t) + 1)))]) dX10_commandHere_8 rfl (by decide) rfl ?_
  refine zr_aload_n dX10_commandHere_9 rfl ?_
  refine zr_bipush (v := 111) dX10_commandHere_10 (by decide) ?_
  by_cases hk12 : a < n ∧ ip a = 111
  · refine zr_callVi [] dX10_commandHere_12 vX10_244 (qX10_skips1 hX (a := a) (c := 111) h0 h5 fn hn (by omega) hk12) h0 (by decide) (by decide) (by decide) rfl rfl (Nat.le_of_ble_eq_true rfl) (by decide) rfl (fun kr1 s_kr1 h_kr1 => ?_)
    obtain ⟨e_kr1, F_kr1, g0_kr1⟩ := h_kr1
    have kh2 : s_kr1.1 (y + 5) = .inl (0, 60, .inl ip) := zFr.get F_kr1 (by omega) h5
    have kh3 : s_kr1.1 (y + 11) = .inl (0, 93, .inl td) := zFr.get F_kr1 (by omega) h11
    have kF4 := zFr.tr zFr.rf (P := (fun q => q = y ∨ q = y + 11)) F_kr1 (by intro q hq; omega)
    obtain rfl := e_kr1.symm
    refine zr_if_eq (tgt := 26) dX10_commandHere_15 (by decide) (fun c_15 => absurd c_15 (by decide)) (fun c_15 => ?_)
    refine zr_aload_n dX10_commandHere_18 rfl ?_
    refine zr_iconst (v := 0) dX10_commandHere_19 (by decide) ?_
    refine zr_ldcM2 (i := 0) (tx := "pen") dX10_commandHere_20 rfl (by decide) ?_
    have nn := zcm_n ip n (zLw 7) (a + 1) (by omega)
    refine zr_callVi [] dX10_commandHere_22 vX10_249 (qX10_isWord hX (a := a + 1) (w := 7) (v := 0) g0_kr1 kh2 fn hn (by omega) kh3 (by omega) ht) g0_kr1 (by decide) (by decide) (by decide) rfl rfl (Nat.le_of_ble_eq_true rfl) (by decide) rfl (fun kr5 s_kr5 h_kr5 => ?_)
    obtain ⟨e_kr5, F_kr5, g0_kr5, g1_kr5⟩ := h_kr5
    have kh6 : s_kr5.1 (y + 5) = .inl (0, 60, .inl ip) := zFr.get F_kr5 (by omega) kh2
    have kF7 := zFr.tr kF4 F_kr5 (by intro q hq; omega)
    obtain rfl := e_kr5.symm
    refine zr_ireturn dX10_commandHere_25 rfl (by split <;> rfl) ?_
    by_cases em : zcm ip n (a + 1) (zLw 7) = zTXn 7
    · have ez := zrc_o hk12 em
      exact ⟨_, rfl, Or.inl ⟨by rw [ez], if_pos em⟩, kF7, by rw [ez]; exact g0_kr5, _, g1_kr5, fun q hq => upd_ne _ _ (by omega), fun _ => by rw [ez]; exact ⟨upd_at _ _ _, fun q => absurd rfl q, fun q => absurd (show (0 : Nat) = 1 from q) (by decide)⟩⟩
    · have ez := zrc_on hk12 em
      exact ⟨_, rfl, Or.inr ⟨by rw [ez], if_neg em⟩, kF7, by rw [ez]; exact g0_kr5, _, g1_kr5, fun q hq => upd_ne _ _ (by omega), fun q => by rw [ez] at q; cases q⟩
  · refine zr_pVi [] dX10_commandHere_12 vX10_244 (qX10_skips0 hX (a := a) (c := 111) h0 h5 fn hn (by omega) hk12 (by decide)) h0 (by decide) (by decide) (by decide) rfl rfl (Nat.le_of_ble_eq_true rfl) (by decide) rfl ?_
    refine zr_if_eq (tgt := 26) dX10_commandHere_15 (by decide) (fun c_15 => ?_) (fun c_15 => absurd (by decide) c_15)
    refine zr_aload_n dX10_commandHere_26 rfl ?_
    refine zr_bipush (v := 114) dX10_commandHere_27 (by decide) ?_
    by_cases hk29 : a < n ∧ ip a = 114
    · refine zr_callVi [] dX10_commandHere_29 vX10_244 (qX10_skips1 hX (a := a) (c := 114) h0 h5 fn hn (by omega) hk29) h0 (by decide) (by decide) (by decide) rfl rfl (Nat.le_of_ble_eq_true rfl) (by decide) rfl (fun kr8 s_kr8 h_kr8 => ?_)
      obtain ⟨e_kr8, F_kr8, g0_kr8⟩ := h_kr8
      have kh9 : s_kr8.1 (y + 5) = .inl (0, 60, .inl ip) := zFr.get F_kr8 (by omega) h5
      have kh10 : s_kr8.1 (y + 11) = .inl (0, 93, .inl td) := zFr.get F_kr8 (by omega) h11
      have kF11 := zFr.tr zFr.rf (P := (fun q => q = y ∨ q = y + 11)) F_kr8 (by intro q hq; omega)
      obtain rfl := e_kr8.symm
      refine zr_if_eq (tgt := 59) dX10_commandHere_32 (by decide) (fun c_32 => absurd c_32 (by decide)) (fun c_32 => ?_)
      refine zr_aload_n dX10_commandHere_35 rfl ?_
      refine zr_iconst (v := 4) dX10_commandHere_36 (by decide) ?_
      refine zr_ldcM2 (i := 1) (tx := "elax") dX10_commandHere_37 rfl (by decide) ?_
      have nn := zcm_n ip n (zLw 8) (a + 1) (by omega)
      refine zr_callVi [] dX10_commandHere_39 vX10_249 (qX10_isWord hX (a := a + 1) (w := 8) (v := 4) g0_kr8 kh9 fn hn (by omega) kh10 (by omega) ht) g0_kr8 (by decide) (by decide) (by decide) rfl rfl (Nat.le_of_ble_eq_true rfl) (by decide) rfl (fun kr12 s_kr12 h_kr12 => ?_)
      obtain ⟨e_kr12, F_kr12, g0_kr12, g1_kr12⟩ := h_kr12
      have kh13 : s_kr12.1 (y + 5) = .inl (0, 60, .inl ip) := zFr.get F_kr12 (by omega) kh9
      have kF14 := zFr.tr kF11 F_kr12 (by intro q hq; omega)
      obtain rfl := e_kr12.symm
      refine zr_if_eq (tgt := 57) dX10_commandHere_42 (by decide) (fun c_42 => ?_) (fun c_42 => ?_)
      · refine zr_iconst (v := 0) dX10_commandHere_57 (by decide) ?_
        refine zr_ireturn dX10_commandHere_58 rfl (rfl) ?_
        have hp0 : zcm ip n a [114] = [114].length := zcm_ye hk29
        have oth : ∀ i, i < 7 → i ≠ 4 → zcm ip n a (zLw i) ≤ [114].length ∧ ¬ zcm ip n a (zLw i) = zTXn i := zoth1 hk29.2 (by decide +kernel)
        have ez := zwo4.miss hp0 oth (fun q => absurd (c_42.symm.trans (if_pos q)) (by decide))
        exact ⟨_, rfl, Or.inr ⟨by rw [ez], rfl⟩, kF14, by rw [ez]; exact g0_kr12, _, g1_kr12, fun q hq => upd_ne _ _ (by omega), fun q => by rw [ez] at q; cases q⟩
      · have em : zcm ip n (a + 1) (zLw 8) = zTXn 8 := Classical.not_not.mp (fun q => c_42 (if_neg q))
        rw [em] at nn
        rw [em] at g0_kr12
        refine zr_aload_n dX10_commandHere_45 rfl ?_
        refine zr_iload_n dX10_commandHere_46 rfl ?_
        refine zr_callVi [] dX10_commandHere_47 vX10_255 (qX10_figure hX (a := a + 1 + zTXn 8) (p := (3 * t) + 1) g0_kr12 kh13 fn hn (by omega) g1_kr12 (by omega)) g0_kr12 (by decide) (by decide) (by decide) rfl rfl (Nat.le_of_ble_eq_true rfl) (by decide) rfl (fun kr15 s_kr15 h_kr15 => ?_)
        obtain ⟨e_kr15, F_kr15, g0_kr15, g1_kr15⟩ := h_kr15
        have kh16 : s_kr15.1 (y + 5) = .inl (0, 60, .inl ip) := zFr.get F_kr15 (by omega) kh13
        have kF17 := zFr.tr kF14 F_kr15 (by intro q hq; omega)
        obtain rfl := e_kr15.symm
        refine zr_if_eq (tgt := 57) dX10_commandHere_50 (by decide) (fun c_50 => ?_) (fun c_50 => ?_)
        · refine zr_iconst (v := 0) dX10_commandHere_57 (by decide) ?_
          refine zr_ireturn dX10_commandHere_58 rfl (rfl) ?_
          have hp0 : zcm ip n a [114] = [114].length := zcm_ye hk29
          have oth : ∀ i, i < 7 → i ≠ 4 → zcm ip n a (zLw i) ≤ [114].length ∧ ¬ zcm ip n a (zLw i) = zTXn i := zoth1 hk29.2 (by decide +kernel)
          have eg : ¬ (zfg ip n (a + 1 + zTXn 8)).1 = true := fun q => absurd (c_50.symm.trans (if_pos q)) (by decide)
          have ez := zwo4.nofig hp0 oth em eg
          exact ⟨_, rfl, Or.inr ⟨ez.1, rfl⟩, kF17, by rw [ez.2]; exact g0_kr15, _, g1_kr15, fun q hq => by rw [if_neg eg]; exact upd_ne _ _ (by omega), fun q => by rw [ez.1] at q; cases q⟩
        · have eg : (zfg ip n (a + 1 + zTXn 8)).1 = true := Classical.not_not.mp (fun q => c_50 (if_neg q))
          have gn := (zfg_at (f := ip) (n := n) (b := a + 1 + zTXn 8) (by omega)).2
          refine zr_iconst (v := 1) dX10_commandHere_53 (by decide) ?_
          refine zr_goto (tgt := 58) dX10_commandHere_54 (by decide) ?_
          refine zr_ireturn dX10_commandHere_58 rfl (rfl) ?_
          have hp0 : zcm ip n a [114] = [114].length := zcm_ye hk29
          have oth : ∀ i, i < 7 → i ≠ 4 → zcm ip n a (zLw i) ≤ [114].length ∧ ¬ zcm ip n a (zLw i) = zTXn i := zoth1 hk29.2 (by decide +kernel)
          have ez := zwo4.fig hp0 oth em eg (by decide)
          exact ⟨_, rfl, Or.inl ⟨by rw [ez], rfl⟩, kF17, by rw [ez]; exact g0_kr15, _, g1_kr15, fun q hq => by rw [if_pos eg, upd_ne _ _ (by omega)]; exact upd_ne _ _ (by omega), fun _ => by rw [ez, if_pos eg]; exact ⟨(upd_ne _ _ (by omega)).trans (upd_at _ _ _), fun _ => (upd_at _ _ _).trans (zdig2 (zfg_t eg).2.1.2.1 (zfg_t eg).2.1.2.2), fun q => absurd (show (4 : Nat) = 1 from q) (by decide)⟩⟩
    · refine zr_pVi [] dX10_commandHere_29 vX10_244 (qX10_skips0 hX (a := a) (c := 114) h0 h5 fn hn (by omega) hk29 (by decide)) h0 (by decide) (by decide) (by decide) rfl rfl (Nat.le_of_ble_eq_true rfl) (by decide) rfl ?_
      refine zr_if_eq (tgt := 59) dX10_commandHere_32 (by decide) (fun c_32 => ?_) (fun c_32 => absurd (by decide) c_32)
      refine zr_aload_n dX10_commandHere_59 rfl ?_
      refine zr_bipush (v := 100) dX10_commandHere_60 (by decide) ?_
      by_cases hk62 : a < n ∧ ip a = 100
      · refine zr_callVi [] dX10_commandHere_62 vX10_244 (qX10_skips1 hX (a := a) (c := 100) h0 h5 fn hn (by omega) hk62) h0 (by decide) (by decide) (by decide) rfl rfl (Nat.le_of_ble_eq_true rfl) (by decide) rfl (fun kr18 s_kr18 h_kr18 => ?_)
        obtain ⟨e_kr18, F_kr18, g0_kr18⟩ := h_kr18
        have kh19 : s_kr18.1 (y + 5) = .inl (0, 60, .inl ip) := zFr.get F_kr18 (by omega) h5
        have kh20 : s_kr18.1 (y + 11) = .inl (0, 93, .inl td) := zFr.get F_kr18 (by omega) h11
        have kF21 := zFr.tr zFr.rf (P := (fun q => q = y ∨ q = y + 11)) F_kr18 (by intro q hq; omega)
        obtain rfl := e_kr18.symm
        refine zr_if_eq (tgt := 93) dX10_commandHere_65 (by decide) (fun c_65 => absurd c_65 (by decide)) (fun c_65 => ?_)
        refine zr_aload_n dX10_commandHere_68 rfl ?_
        refine zr_iconst (v := 5) dX10_commandHere_69 (by decide) ?_
        refine zr_ldcM (i := 2) (tx := "ecide") dX10_commandHere_70 rfl (by decide) ?_
        have nn := zcm_n ip n (zLw 9) (a + 1) (by omega)
        refine zr_callVi [] dX10_commandHere_73 vX10_249 (qX10_isWord hX (a := a + 1) (w := 9) (v := 5) g0_kr18 kh19 fn hn (by omega) kh20 (by omega) ht) g0_kr18 (by decide) (by decide) (by decide) rfl rfl (Nat.le_of_ble_eq_true rfl) (by decide) rfl (fun kr22 s_kr22 h_kr22 => ?_)
        obtain ⟨e_kr22, F_kr22, g0_kr22, g1_kr22⟩ := h_kr22
        have kh23 : s_kr22.1 (y + 5) = .inl (0, 60, .inl ip) := zFr.get F_kr22 (by omega) kh19
        have kF24 := zFr.tr kF21 F_kr22 (by intro q hq; omega)
        obtain rfl := e_kr22.symm
        refine zr_if_eq (tgt := 91) dX10_commandHere_76 (by decide) (fun c_76 => ?_) (fun c_76 => ?_)
        · refine zr_iconst (v := 0) dX10_commandHere_91 (by decide) ?_
          refine zr_ireturn dX10_commandHere_92 rfl (rfl) ?_
          have hp0 : zcm ip n a [100] = [100].length := zcm_ye hk62
          have oth : ∀ i, i < 7 → i ≠ 5 → zcm ip n a (zLw i) ≤ [100].length ∧ ¬ zcm ip n a (zLw i) = zTXn i := zoth1 hk62.2 (by decide +kernel)
          have ez := zwo5.miss hp0 oth (fun q => absurd (c_76.symm.trans (if_pos q)) (by decide))
          exact ⟨_, rfl, Or.inr ⟨by rw [ez], rfl⟩, kF24, by rw [ez]; exact g0_kr22, _, g1_kr22, fun q hq => upd_ne _ _ (by omega), fun q => by rw [ez] at q; cases q⟩
        · have em : zcm ip n (a + 1) (zLw 9) = zTXn 9 := Classical.not_not.mp (fun q => c_76 (if_neg q))
          rw [em] at nn
          rw [em] at g0_kr22
          refine zr_aload_n dX10_commandHere_79 rfl ?_
          refine zr_iload_n dX10_commandHere_80 rfl ?_
          refine zr_callVi [] dX10_commandHere_81 vX10_255 (qX10_figure hX (a := a + 1 + zTXn 9) (p := (3 * t) + 1) g0_kr22 kh23 fn hn (by omega) g1_kr22 (by omega)) g0_kr22 (by decide) (by decide) (by decide) rfl rfl (Nat.le_of_ble_eq_true rfl) (by decide) rfl (fun kr25 s_kr25 h_kr25 => ?_)
          obtain ⟨e_kr25, F_kr25, g0_kr25, g1_kr25⟩ := h_kr25
          have kh26 : s_kr25.1 (y + 5) = .inl (0, 60, .inl ip) := zFr.get F_kr25 (by omega) kh23
          have kF27 := zFr.tr kF24 F_kr25 (by intro q hq; omega)
          obtain rfl := e_kr25.symm
          refine zr_if_eq (tgt := 91) dX10_commandHere_84 (by decide) (fun c_84 => ?_) (fun c_84 => ?_)
          · refine zr_iconst (v := 0) dX10_commandHere_91 (by decide) ?_
            refine zr_ireturn dX10_commandHere_92 rfl (rfl) ?_
            have hp0 : zcm ip n a [100] = [100].length := zcm_ye hk62
            have oth : ∀ i, i < 7 → i ≠ 5 → zcm ip n a (zLw i) ≤ [100].length ∧ ¬ zcm ip n a (zLw i) = zTXn i := zoth1 hk62.2 (by decide +kernel)
            have eg : ¬ (zfg ip n (a + 1 + zTXn 9)).1 = true := fun q => absurd (c_84.symm.trans (if_pos q)) (by decide)
            have ez := zwo5.nofig hp0 oth em eg
            exact ⟨_, rfl, Or.inr ⟨ez.1, rfl⟩, kF27, by rw [ez.2]; exact g0_kr25, _, g1_kr25, fun q hq => by rw [if_neg eg]; exact upd_ne _ _ (by omega), fun q => by rw [ez.1] at q; cases q⟩
          · have eg : (zfg ip n (a + 1 + zTXn 9)).1 = true := Classical.not_not.mp (fun q => c_84 (if_neg q))
            have gn := (zfg_at (f := ip) (n := n) (b := a + 1 + zTXn 9) (by omega)).2
            refine zr_iconst (v := 1) dX10_commandHere_87 (by decide) ?_
            refine zr_goto (tgt := 92) dX10_commandHere_88 (by decide) ?_
            refine zr_ireturn dX10_commandHere_92 rfl (rfl) ?_
            have hp0 : zcm ip n a [100] = [100].length := zcm_ye hk62
            have oth : ∀ i, i < 7 → i ≠ 5 → zcm ip n a (zLw i) ≤ [100].length ∧ ¬ zcm ip n a (zLw i) = zTXn i := zoth1 hk62.2 (by decide +kernel)
            have ez := zwo5.fig hp0 oth em eg (by decide)
            exact ⟨_, rfl, Or.inl ⟨by rw [ez], rfl⟩, kF27, by rw [ez]; exact g0_kr25, _, g1_kr25, fun q hq => by rw [if_pos eg, upd_ne _ _ (by omega)]; exact upd_ne _ _ (by omega), fun _ => by rw [ez, if_pos eg]; exact ⟨(upd_ne _ _ (by omega)).trans (upd_at _ _ _), fun _ => (upd_at _ _ _).trans (zdig2 (zfg_t eg).2.1.2.1 (zfg_t eg).2.1.2.2), fun q => absurd (show (5 : Nat) = 1 from q) (by decide)⟩⟩
      · refine zr_pVi [] dX10_commandHere_62 vX10_244 (qX10_skips0 hX (a := a) (c := 100) h0 h5 fn hn (by omega) hk62 (by decide)) h0 (by decide) (by decide) (by decide) rfl rfl (Nat.le_of_ble_eq_true rfl) (by decide) rfl ?_
        refine zr_if_eq (tgt := 93) dX10_commandHere_65 (by decide) (fun c_65 => ?_) (fun c_65 => absurd (by decide) c_65)
        refine zr_aload_n dX10_commandHere_93 rfl ?_
        refine zr_bipush (v := 97) dX10_commandHere_94 (by decide) ?_
        by_cases hk96 : a < n ∧ ip a = 97
        · refine zr_callVi [] dX10_commandHere_96 vX10_244 (qX10_skips1 hX (a := a) (c := 97) h0 h5 fn hn (by omega) hk96) h0 (by decide) (by decide) (by decide) rfl rfl (Nat.le_of_ble_eq_true rfl) (by decide) rfl (fun kr28 s_kr28 h_kr28 => ?_)
          obtain ⟨e_kr28, F_kr28, g0_kr28⟩ := h_kr28
          have kh29 : s_kr28.1 (y + 5) = .inl (0, 60, .inl ip) := zFr.get F_kr28 (by omega) h5
          have kh30 : s_kr28.1 (y + 11) = .inl (0, 93, .inl td) := zFr.get F_kr28 (by omega) h11
          have kF31 := zFr.tr zFr.rf (P := (fun q => q = y ∨ q = y + 11)) F_kr28 (by intro q hq; omega)
          obtain rfl := e_kr28.symm
          refine zr_if_eq (tgt := 128) dX10_commandHere_99 (by decide) (fun c_99 => absurd c_99 (by decide)) (fun c_99 => ?_)
          refine zr_aload_n dX10_commandHere_102 rfl ?_
          refine zr_bipush (v := 6) dX10_commandHere_103 (by decide) ?_
          refine zr_ldcM (i := 3) (tx := "ppeal") dX10_commandHere_105 rfl (by decide) ?_
          have nn := zcm_n ip n (zLw 10) (a + 1) (by omega)
          refine zr_callVi [] dX10_commandHere_108 vX10_249 (qX10_isWord hX (a := a + 1) (w := 10) (v := 6) g0_kr28 kh29 fn hn (by omega) kh30 (by omega) ht) g0_kr28 (by decide) (by decide) (by decide) rfl rfl (Nat.le_of_ble_eq_true rfl) (by decide) rfl (fun kr32 s_kr32 h_kr32 => ?_)
          obtain ⟨e_kr32, F_kr32, g0_kr32, g1_kr32⟩ := h_kr32
          have kh33 : s_kr32.1 (y + 5) = .inl (0, 60, .inl ip) := zFr.get F_kr32 (by omega) kh29
          have kF34 := zFr.tr kF31 F_kr32 (by intro q hq; omega)
          obtain rfl := e_kr32.symm
          refine zr_if_eq (tgt := 126) dX10_commandHere_111 (by decide) (fun c_111 => ?_) (fun c_111 => ?_)
          · refine zr_iconst (v := 0) dX10_commandHere_126 (by decide) ?_
            refine zr_ireturn dX10_commandHere_127 rfl (rfl) ?_
            have hp0 : zcm ip n a [97] = [97].length := zcm_ye hk96
            have oth : ∀ i, i < 7 → i ≠ 6 → zcm ip n a (zLw i) ≤ [97].length ∧ ¬ zcm ip n a (zLw i) = zTXn i := zoth1 hk96.2 (by decide +kernel)
            have ez := zwo6.miss hp0 oth (fun q => absurd (c_111.symm.trans (if_pos q)) (by decide))
            exact ⟨_, rfl, Or.inr ⟨by rw [ez], rfl⟩, kF34, by rw [ez]; exact g0_kr32, _, g1_kr32, fun q hq => upd_ne _ _ (by omega), fun q => by rw [ez] at q; cases q⟩
          · have em : zcm ip n (a + 1) (zLw 10) = zTXn 10 := Classical.not_not.mp (fun q => c_111 (if_neg q))
            rw [em] at nn
            rw [em] at g0_kr32
            refine zr_aload_n dX10_commandHere_114 rfl ?_
            refine zr_iload_n dX10_commandHere_115 rfl ?_
            refine zr_callVi [] dX10_commandHere_116 vX10_255 (qX10_figure hX (a := a + 1 + zTXn 10) (p := (3 * t) + 1) g0_kr32 kh33 fn hn (by omega) g1_kr32 (by omega)) g0_kr32 (by decide) (by decide) (by decide) rfl rfl (Nat.le_of_ble_eq_true rfl) (by decide) rfl (fun kr35 s_kr35 h_kr35 => ?_)
            obtain ⟨e_kr35, F_kr35, g0_kr35, g1_kr35⟩ := h_kr35
            have kh36 : s_kr35.1 (y + 5) = .inl (0, 60, .inl ip) := zFr.get F_kr35 (by omega) kh33
            have kF37 := zFr.tr kF34 F_kr35 (by intro q hq; omega)
            obtain rfl := e_kr35.symm
            refine zr_if_eq (tgt := 126) dX10_commandHere_119 (by decide) (fun c_119 => ?_) (fun c_119 => ?_)
            · refine zr_iconst (v := 0) dX10_commandHere_126 (by decide) ?_
              refine zr_ireturn dX10_commandHere_127 rfl (rfl) ?_
              have hp0 : zcm ip n a [97] = [97].length := zcm_ye hk96
              have oth : ∀ i, i < 7 → i ≠ 6 → zcm ip n a (zLw i) ≤ [97].length ∧ ¬ zcm ip n a (zLw i) = zTXn i := zoth1 hk96.2 (by decide +kernel)
              have eg : ¬ (zfg ip n (a + 1 + zTXn 10)).1 = true := fun q => absurd (c_119.symm.trans (if_pos q)) (by decide)
              have ez := zwo6.nofig hp0 oth em eg
              exact ⟨_, rfl, Or.inr ⟨ez.1, rfl⟩, kF37, by rw [ez.2]; exact g0_kr35, _, g1_kr35, fun q hq => by rw [if_neg eg]; exact upd_ne _ _ (by omega), fun q => by rw [ez.1] at q; cases q⟩
            · have eg : (zfg ip n (a + 1 + zTXn 10)).1 = true := Classical.not_not.mp (fun q => c_119 (if_neg q))
              have gn := (zfg_at (f := ip) (n := n) (b := a + 1 + zTXn 10) (by omega)).2
              refine zr_iconst (v := 1) dX10_commandHere_122 (by decide) ?_
              refine zr_goto (tgt := 127) dX10_commandHere_123 (by decide) ?_
              refine zr_ireturn dX10_commandHere_127 rfl (rfl) ?_
              have hp0 : zcm ip n a [97] = [97].length := zcm_ye hk96
              have oth : ∀ i, i < 7 → i ≠ 6 → zcm ip n a (zLw i) ≤ [97].length ∧ ¬ zcm ip n a (zLw i) = zTXn i := zoth1 hk96.2 (by decide +kernel)
              have ez := zwo6.fig hp0 oth em eg (by decide)
              exact ⟨_, rfl, Or.inl ⟨by rw [ez], rfl⟩, kF37, by rw [ez]; exact g0_kr35, _, g1_kr35, fun q hq => by rw [if_pos eg, upd_ne _ _ (by omega)]; exact upd_ne _ _ (by omega), fun _ => by rw [ez, if_pos eg]; exact ⟨(upd_ne _ _ (by omega)).trans (upd_at _ _ _), fun _ => (upd_at _ _ _).trans (zdig2 (zfg_t eg).2.1.2.1 (zfg_t eg).2.1.2.2), fun q => absurd (show (6 : Nat) = 1 from q) (by decide)⟩⟩
        · refine zr_pVi [] dX10_commandHere_96 vX10_244 (qX10_skips0 hX (a := a) (c := 97) h0 h5 fn hn (by omega) hk96 (by decide)) h0 (by decide) (by decide) (by decide) rfl rfl (Nat.le_of_ble_eq_true rfl) (by decide) rfl ?_
          refine zr_if_eq (tgt := 128) dX10_commandHere_99 (by decide) (fun c_99 => ?_) (fun c_99 => absurd (by decide) c_99)
          refine zr_aload_n dX10_commandHere_128 rfl ?_
          refine zr_bipush (v := 99) dX10_commandHere_129 (by decide) ?_
          by_cases hk131 : a < n ∧ ip a = 99
          · refine zr_callVi [] dX10_commandHere_131 vX10_244 (qX10_skips1 hX (a := a) (c := 99) h0 h5 fn hn (by omega) hk131) h0 (by decide) (by decide) (by decide) rfl rfl (Nat.le_of_ble_eq_true rfl) (by decide) rfl (fun kr38 s_kr38 h_kr38 => ?_)
            obtain ⟨e_kr38, F_kr38, g0_kr38⟩ := h_kr38
            have kh39 : s_kr38.1 (y + 5) = .inl (0, 60, .inl ip) := zFr.get F_kr38 (by omega) h5
            have kh40 : s_kr38.1 (y + 11) = .inl (0, 93, .inl td) := zFr.get F_kr38 (by omega) h11
            have kF41 := zFr.tr zFr.rf (P := (fun q => q = y ∨ q = y + 11)) F_kr38 (by intro q hq; omega)
            obtain rfl := e_kr38.symm
            refine zr_if_ne (tgt := 139) dX10_commandHere_134 (by decide) (fun c_134 => ?_) (fun c_134 => absurd c_134 (by decide))
            refine zr_aload_n dX10_commandHere_139 rfl ?_
            refine zr_bipush (v := 114) dX10_commandHere_140 (by decide) ?_
            by_cases hk142 : a + 1 < n ∧ ip (a + 1) = 114
            · refine zr_callVi [] dX10_commandHere_142 vX10_244 (qX10_skips1 hX (a := a + 1) (c := 114) g0_kr38 kh39 fn hn (by omega) hk142) g0_kr38 (by decide) (by decide) (by decide) rfl rfl (Nat.le_of_ble_eq_true rfl) (by decide) rfl (fun kr42 s_kr42 h_kr42 => ?_)
              obtain ⟨e_kr42, F_kr42, g0_kr42⟩ := h_kr42
              have kh43 : s_kr42.1 (y + 5) = .inl (0, 60, .inl ip) := zFr.get F_kr42 (by omega) kh39
              have kh44 : s_kr42.1 (y + 11) = .inl (0, 93, .inl td) := zFr.get F_kr42 (by omega) kh40
              have kF45 := zFr.tr kF41 F_kr42 (by intro q hq; omega)
              obtain rfl := e_kr42.symm
              refine zr_if_eq (tgt := 183) dX10_commandHere_145 (by decide) (fun c_145 => absurd c_145 (by decide)) (fun c_145 => ?_)
              refine zr_aload_n dX10_commandHere_148 rfl ?_
              refine zr_iconst (v := 1) dX10_commandHere_149 (by decide) ?_
              refine zr_ldcM (i := 4) (tx := "oss") dX10_commandHere_150 rfl (by decide) ?_
              have nn := zcm_n ip n (zLw 11) (a + 1 + 1) (by omega)
              refine zr_callVi [] dX10_commandHere_153 vX10_249 (qX10_isWord hX (a := a + 1 + 1) (w := 11) (v := 1) g0_kr42 kh43 fn hn (by omega) kh44 (by omega) ht) g0_kr42 (by decide) (by decide) (by decide) rfl rfl (Nat.le_of_ble_eq_true rfl) (by decide) rfl (fun kr46 s_kr46 h_kr46 => ?_)
              obtain ⟨e_kr46, F_kr46, g0_kr46, g1_kr46⟩ := h_kr46
              have kh47 : s_kr46.1 (y + 5) = .inl (0, 60, .inl ip) := zFr.get F_kr46 (by omega) kh43
              have kF48 := zFr.tr kF45 F_kr46 (by intro q hq; omega)
              obtain rfl := e_kr46.symm
              refine zr_if_eq (tgt := 181) dX10_commandHere_156 (by decide) (fun c_156 => ?_) (fun c_156 => ?_)
              · refine zr_iconst (v := 0) dX10_commandHere_181 (by decide) ?_
                refine zr_ireturn dX10_commandHere_182 rfl (rfl) ?_
                have hp0 : zcm ip n a [99, 114] = [99, 114].length := (zcm_ye hk131).trans (congrArg (· + 1) (zcm_ye hk142))
                have oth : ∀ i, i < 7 → i ≠ 1 → zcm ip n a (zLw i) ≤ [99, 114].length ∧ ¬ zcm ip n a (zLw i) = zTXn i := by
                  refine zothc (pre := [99, 114]) (w := 1) hk131 (by decide) (fun i i1 i4 iw => ?_)
                  have : i = 2 ∨ i = 3 := by omega
                  rcases this with e | e
                  · subst e; exact zcm_hd hk142.2 (by decide +kernel)
                  · subst e; exact zcm_hd hk142.2 (by decide +kernel)
                have ez := zwo1.miss hp0 oth (fun q => absurd (c_156.symm.trans (if_pos q)) (by decide))
                exact ⟨_, rfl, Or.inr ⟨by rw [ez], rfl⟩, kF48, by rw [ez]; exact g0_kr46, _, g1_kr46, fun q hq => upd_ne _ _ (by omega), fun q => by rw [ez] at q; cases q⟩
              · have em : zcm ip n (a + 1 + 1) (zLw 11) = zTXn 11 := Classical.not_not.mp (fun q => c_156 (if_neg q))
                rw [em] at nn
                rw [em] at g0_kr46
                refine zr_aload_n dX10_commandHere_159 rfl ?_
                refine zr_iload_n dX10_commandHere_160 rfl ?_
                refine zr_callVi [] dX10_commandHere_161 vX10_255 (qX10_figure hX (a := a + 1 + 1 + zTXn 11) (p := (3 * t) + 1) g0_kr46 kh47 fn hn (by omega) g1_kr46 (by omega)) g0_kr46 (by decide) (by decide) (by decide) rfl rfl (Nat.le_of_ble_eq_true rfl) (by decide) rfl (fun kr49 s_kr49 h_kr49 => ?_)
                obtain ⟨e_kr49, F_kr49, g0_kr49, g1_kr49⟩ := h_kr49
                have kh50 : s_kr49.1 (y + 5) = .inl (0, 60, .inl ip) := zFr.get F_kr49 (by omega) kh47
                have kF51 := zFr.tr kF48 F_kr49 (by intro q hq; omega)
                obtain rfl := e_kr49.symm
                refine zr_if_eq (tgt := 181) dX10_commandHere_164 (by decide) (fun c_164 => ?_) (fun c_164 => ?_)
                · refine zr_iconst (v := 0) dX10_commandHere_181 (by decide) ?_
                  refine zr_ireturn dX10_commandHere_182 rfl (rfl) ?_
                  have hp0 : zcm ip n a [99, 114] = [99, 114].length := (zcm_ye hk131).trans (congrArg (· + 1) (zcm_ye hk142))
                  have oth : ∀ i, i < 7 → i ≠ 1 → zcm ip n a (zLw i) ≤ [99, 114].length ∧ ¬ zcm ip n a (zLw i) = zTXn i := by
                    refine zothc (pre := [99, 114]) (w := 1) hk131 (by decide) (fun i i1 i4 iw => ?_)
                    have : i = 2 ∨ i = 3 := by omega
                    rcases this with e | e
                    · subst e; exact zcm_hd hk142.2 (by decide +kernel)
                    · subst e; exact zcm_hd hk142.2 (by decide +kernel)
                  have eg : ¬ (zfg ip n (a + 1 + 1 + zTXn 11)).1 = true := fun q => absurd (c_164.symm.trans (if_pos q)) (by decide)
                  have ez := zwo1.nofig hp0 oth em eg
                  exact ⟨_, rfl, Or.inr ⟨ez.1, rfl⟩, kF51, by rw [ez.2]; exact g0_kr49, _, g1_kr49, fun q hq => by rw [if_neg eg]; exact upd_ne _ _ (by omega), fun q => by rw [ez.1] at q; cases q⟩
                · have eg : (zfg ip n (a + 1 + 1 + zTXn 11)).1 = true := Classical.not_not.mp (fun q => c_164 (if_neg q))
                  have gn := (zfg_at (f := ip) (n := n) (b := a + 1 + 1 + zTXn 11) (by omega)).2
                  refine zr_aload_n dX10_commandHere_167 rfl ?_
                  refine zr_iload_n dX10_commandHere_168 rfl ?_
                  refine zr_iconst (v := 1) dX10_commandHere_169 (by decide) ?_
                  refine zr_iadd dX10_commandHere_170 ?_
                  refine zr_eqi (x' := nI (((3 * t) + 1) + 1)) (nI_add ((3 * t) + 1) 1) ?_
                  refine zr_callVi [] dX10_commandHere_171 vX10_264 (qX10_letterHere hX (a := (zfg ip n (a + 1 + 1 + zTXn 11)).2) (p := ((3 * t) + 1) + 1) g0_kr49 kh50 fn hn (by omega) g1_kr49 (by omega)) g0_kr49 (by decide) (by decide) (by decide) rfl rfl (Nat.le_of_ble_eq_true rfl) (by decide) rfl (fun kr52 s_kr52 h_kr52 => ?_)
                  obtain ⟨e_kr52, F_kr52, g0_kr52, g1_kr52⟩ := h_kr52
                  have kh53 : s_kr52.1 (y + 5) = .inl (0, 60, .inl ip) := zFr.get F_kr52 (by omega) kh50
                  have kF54 := zFr.tr kF51 F_kr52 (by intro q hq; omega)
                  obtain rfl := e_kr52.symm
                  refine zr_if_eq (tgt := 181) dX10_commandHere_174 (by decide) (fun c_174 => ?_) (fun c_174 => ?_)
                  · refine zr_iconst (v := 0) dX10_commandHere_181 (by decide) ?_
                    refine zr_ireturn dX10_commandHere_182 rfl (rfl) ?_
                    have hp0 : zcm ip n a [99, 114] = [99, 114].length := (zcm_ye hk131).trans (congrArg (· + 1) (zcm_ye hk142))
                    have oth : ∀ i, i < 7 → i ≠ 1 → zcm ip n a (zLw i) ≤ [99, 114].length ∧ ¬ zcm ip n a (zLw i) = zTXn i := by
                      refine zothc (pre := [99, 114]) (w := 1) hk131 (by decide) (fun i i1 i4 iw => ?_)
                      have : i = 2 ∨ i = 3 := by omega
                      rcases this with e | e
                      · subst e; exact zcm_hd hk142.2 (by decide +kernel)
                      · subst e; exact zcm_hd hk142.2 (by decide +kernel)
                    have el : ¬ (zlh ip n (zfg ip n (a + 1 + 1 + zTXn 11)).2).1 = true := fun q => absurd (c_174.symm.trans (if_pos q)) (by decide)
                    have ez := zwo1.nolet hp0 oth em eg rfl el
                    exact ⟨_, rfl, Or.inr ⟨ez.1, rfl⟩, kF54, by rw [ez.2]; exact g0_kr52, _, g1_kr52, fun q hq => by rw [if_neg el, if_pos eg, upd_ne _ _ (by omega)]; exact upd_ne _ _ (by omega), fun q => by rw [ez.1] at q; cases q⟩
                  · refine zr_iconst (v := 1) dX10_commandHere_177 (by decide) ?_
                    refine zr_goto (tgt := 182) dX10_commandHere_178 (by decide) ?_
                    refine zr_ireturn dX10_commandHere_182 rfl (rfl) ?_
                    have hp0 : zcm ip n a [99, 114] = [99, 114].length := (zcm_ye hk131).trans (congrArg (· + 1) (zcm_ye hk142))
                    have oth : ∀ i, i < 7 → i ≠ 1 → zcm ip n a (zLw i) ≤ [99, 114].length ∧ ¬ zcm ip n a (zLw i) = zTXn i := by
                      refine zothc (pre := [99, 114]) (w := 1) hk131 (by decide) (fun i i1 i4 iw => ?_)
                      have : i = 2 ∨ i = 3 := by omega
                      rcases this with e | e
                      · subst e; exact zcm_hd hk142.2 (by decide +kernel)
                      · subst e; exact zcm_hd hk142.2 (by decide +kernel)
                    have el : (zlh ip n (zfg ip n (a + 1 + 1 + zTXn 11)).2).1 = true := Classical.not_not.mp (fun q => c_174 (if_neg q))
                    have ez := zwo1.let hp0 oth em eg rfl el
                    exact ⟨_, rfl, Or.inl ⟨by rw [ez], rfl⟩, kF54, by rw [ez]; exact g0_kr52, _, g1_kr52, fun q hq => by rw [if_pos el, if_pos eg, upd_ne _ _ (by omega), upd_ne _ _ (by omega)]; exact upd_ne _ _ (by omega), fun _ => by rw [ez, if_pos el, if_pos eg]; exact ⟨(upd_ne _ _ (by omega)).trans ((upd_ne _ _ (by omega)).trans (upd_at _ _ _)), fun _ => (upd_ne _ _ (by omega)).trans ((upd_at _ _ _).trans (zdig2 (zfg_t eg).2.1.2.1 (zfg_t eg).2.1.2.2)), fun _ => ⟨congrArg zlet (upd_at _ _ _), (zlh_t el).2.1.2⟩⟩⟩
            · refine zr_pVi [] dX10_commandHere_142 vX10_244 (qX10_skips0 hX (a := a + 1) (c := 114) g0_kr38 kh39 fn hn (by omega) hk142 (by decide)) g0_kr38 (by decide) (by decide) (by decide) rfl rfl (Nat.le_of_ble_eq_true rfl) (by decide) rfl ?_
              refine zr_if_eq (tgt := 183) dX10_commandHere_145 (by decide) (fun c_145 => ?_) (fun c_145 => absurd (by decide) c_145)
              refine zr_aload_n dX10_commandHere_183 rfl ?_
              refine zr_bipush (v := 117) dX10_commandHere_184 (by decide) ?_
              by_cases hk186 : a + 1 < n ∧ ip (a + 1) = 117
              · refine zr_callVi [] dX10_commandHere_186 vX10_244 (qX10_skips1 hX (a := a + 1) (c := 117) g0_kr38 kh39 fn hn (by omega) hk186) g0_kr38 (by decide) (by decide) (by decide) rfl rfl (Nat.le_of_ble_eq_true rfl) (by decide) rfl (fun kr55 s_kr55 h_kr55 => ?_)
                obtain ⟨e_kr55, F_kr55, g0_kr55⟩ := h_kr55
                have kh56 : s_kr55.1 (y + 5) = .inl (0, 60, .inl ip) := zFr.get F_kr55 (by omega) kh39
                have kh57 : s_kr55.1 (y + 11) = .inl (0, 93, .inl td) := zFr.get F_kr55 (by omega) kh40
                have kF58 := zFr.tr kF41 F_kr55 (by intro q hq; omega)
                obtain rfl := e_kr55.symm
                refine zr_if_eq (tgt := 219) dX10_commandHere_189 (by decide) (fun c_189 => absurd c_189 (by decide)) (fun c_189 => ?_)
                refine zr_aload_n dX10_commandHere_192 rfl ?_
                refine zr_iconst (v := 2) dX10_commandHere_193 (by decide) ?_
                refine zr_ldcM (i := 5) (tx := "t") dX10_commandHere_194 rfl (by decide) ?_
                have nn := zcm_n ip n (zLw 12) (a + 1 + 1) (by omega)
                refine zr_callVi [] dX10_commandHere_197 vX10_249 (qX10_isWord hX (a := a + 1 + 1) (w := 12) (v := 2) g0_kr55 kh56 fn hn (by omega) kh57 (by omega) ht) g0_kr55 (by decide) (by decide) (by decide) rfl rfl (Nat.le_of_ble_eq_true rfl) (by decide) rfl (fun kr59 s_kr59 h_kr59 => ?_)
                obtain ⟨e_kr59, F_kr59, g0_kr59, g1_kr59⟩ := h_kr59
                have kh60 : s_kr59.1 (y + 5) = .inl (0, 60, .inl ip) := zFr.get F_kr59 (by omega) kh56
                have kF61 := zFr.tr kF58 F_kr59 (by intro q hq; omega)
                obtain rfl := e_kr59.symm
                refine zr_if_eq (tgt := 215) dX10_commandHere_200 (by decide) (fun c_200 => ?_) (fun c_200 => ?_)
                · refine zr_iconst (v := 0) dX10_commandHere_215 (by decide) ?_
                  refine zr_goto (tgt := 243) dX10_commandHere_216 (by decide) ?_
                  refine zr_ireturn dX10_commandHere_243 rfl (rfl) ?_
                  have hp0 : zcm ip n a [99, 117] = [99, 117].length := (zcm_ye hk131).trans (congrArg (· + 1) (zcm_ye hk186))
                  have oth : ∀ i, i < 7 → i ≠ 2 → zcm ip n a (zLw i) ≤ [99, 117].length ∧ ¬ zcm ip n a (zLw i) = zTXn i := by
                    refine zothc (pre := [99, 117]) (w := 2) hk131 (by decide) (fun i i1 i4 iw => ?_)
                    have : i = 1 ∨ i = 3 := by omega
                    rcases this with e | e
                    · subst e; exact zcm_hd hk186.2 (by decide +kernel)
                    · subst e; exact zcm_hd hk186.2 (by decide +kernel)
                  have ez := zwo2.miss hp0 oth (fun q => absurd (c_200.symm.trans (if_pos q)) (by decide))
                  exact ⟨_, rfl, Or.inr ⟨by rw [ez], rfl⟩, kF61, by rw [ez]; exact g0_kr59, _, g1_kr59, fun q hq => upd_ne _ _ (by omega), fun q => by rw [ez] at q; cases q⟩
                · have em : zcm ip n (a + 1 + 1) (zLw 12) = zTXn 12 := Classical.not_not.mp (fun q => c_200 (if_neg q))
                  rw [em] at nn
                  rw [em] at g0_kr59
                  refine zr_aload_n dX10_commandHere_203 rfl ?_
                  refine zr_iload_n dX10_commandHere_204 rfl ?_
                  refine zr_callVi [] dX10_commandHere_205 vX10_255 (qX10_figure hX (a := a + 1 + 1 + zTXn 12) (p := (3 * t) + 1) g0_kr59 kh60 fn hn (by omega) g1_kr59 (by omega)) g0_kr59 (by decide) (by decide) (by decide) rfl rfl (Nat.le_of_ble_eq_true rfl) (by decide) rfl (fun kr62 s_kr62 h_kr62 => ?_)
                  obtain ⟨e_kr62, F_kr62, g0_kr62, g1_kr62⟩ := h_kr62
                  have kh63 : s_kr62.1 (y + 5) = .inl (0, 60, .inl ip) := zFr.get F_kr62 (by omega) kh60
                  have kF64 := zFr.tr kF61 F_kr62 (by intro q hq; omega)
                  obtain rfl := e_kr62.symm
                  refine zr_if_eq (tgt := 215) dX10_commandHere_208 (by decide) (fun c_208 => ?_) (fun c_208 => ?_)
                  · refine zr_iconst (v := 0) dX10_commandHere_215 (by decide) ?_
                    refine zr_goto (tgt := 243) dX10_commandHere_216 (by decide) ?_
                    refine zr_ireturn dX10_commandHere_243 rfl (rfl) ?_
                    have hp0 : zcm ip n a [99, 117] = [99, 117].length := (zcm_ye hk131).trans (congrArg (· + 1) (zcm_ye hk186))
                    have oth : ∀ i, i < 7 → i ≠ 2 → zcm ip n a (zLw i) ≤ [99, 117].length ∧ ¬ zcm ip n a (zLw i) = zTXn i := by
                      refine zothc (pre := [99, 117]) (w := 2) hk131 (by decide) (fun i i1 i4 iw => ?_)
                      have : i = 1 ∨ i = 3 := by omega
                      rcases this with e | e
                      · subst e; exact zcm_hd hk186.2 (by decide +kernel)
                      · subst e; exact zcm_hd hk186.2 (by decide +kernel)
                    have eg : ¬ (zfg ip n (a + 1 + 1 + zTXn 12)).1 = true := fun q => absurd (c_208.symm.trans (if_pos q)) (by decide)
                    have ez := zwo2.nofig hp0 oth em eg
                    exact ⟨_, rfl, Or.inr ⟨ez.1, rfl⟩, kF64, by rw [ez.2]; exact g0_kr62, _, g1_kr62, fun q hq => by rw [if_neg eg]; exact upd_ne _ _ (by omega), fun q => by rw [ez.1] at q; cases q⟩
                  · have eg : (zfg ip n (a + 1 + 1 + zTXn 12)).1 = true := Classical.not_not.mp (fun q => c_208 (if_neg q))
                    have gn := (zfg_at (f := ip) (n := n) (b := a + 1 + 1 + zTXn 12) (by omega)).2
                    refine zr_iconst (v := 1) dX10_commandHere_211 (by decide) ?_
                    refine zr_goto (tgt := 243) dX10_commandHere_212 (by decide) ?_
                    refine zr_ireturn dX10_commandHere_243 rfl (rfl) ?_
                    have hp0 : zcm ip n a [99, 117] = [99, 117].length := (zcm_ye hk131).trans (congrArg (· + 1) (zcm_ye hk186))
                    have oth : ∀ i, i < 7 → i ≠ 2 → zcm ip n a (zLw i) ≤ [99, 117].length ∧ ¬ zcm ip n a (zLw i) = zTXn i := by
                      refine zothc (pre := [99, 117]) (w := 2) hk131 (by decide) (fun i i1 i4 iw => ?_)
                      have : i = 1 ∨ i = 3 := by omega
                      rcases this with e | e
                      · subst e; exact zcm_hd hk186.2 (by decide +kernel)
                      · subst e; exact zcm_hd hk186.2 (by decide +kernel)
                    have ez := zwo2.fig hp0 oth em eg (by decide)
                    exact ⟨_, rfl, Or.inl ⟨by rw [ez], rfl⟩, kF64, by rw [ez]; exact g0_kr62, _, g1_kr62, fun q hq => by rw [if_pos eg, upd_ne _ _ (by omega)]; exact upd_ne _ _ (by omega), fun _ => by rw [ez, if_pos eg]; exact ⟨(upd_ne _ _ (by omega)).trans (upd_at _ _ _), fun _ => (upd_at _ _ _).trans (zdig2 (zfg_t eg).2.1.2.1 (zfg_t eg).2.1.2.2), fun q => absurd (show (2 : Nat) = 1 from q) (by decide)⟩⟩
              · refine zr_pVi [] dX10_commandHere_186 vX10_244 (qX10_skips0 hX (a := a + 1) (c := 117) g0_kr38 kh39 fn hn (by omega) hk186 (by decide)) g0_kr38 (by decide) (by decide) (by decide) rfl rfl (Nat.le_of_ble_eq_true rfl) (by decide) rfl ?_
                refine zr_if_eq (tgt := 219) dX10_commandHere_189 (by decide) (fun c_189 => ?_) (fun c_189 => absurd (by decide) c_189)
                refine zr_aload_n dX10_commandHere_219 rfl ?_
                refine zr_iconst (v := 3) dX10_commandHere_220 (by decide) ?_
                refine zr_ldcM (i := 6) (tx := "ancel") dX10_commandHere_221 rfl (by decide) ?_
                have nn := zcm_n ip n (zLw 13) (a + 1) (by omega)
                refine zr_callVi [] dX10_commandHere_224 vX10_249 (qX10_isWord hX (a := a + 1) (w := 13) (v := 3) g0_kr38 kh39 fn hn (by omega) kh40 (by omega) ht) g0_kr38 (by decide) (by decide) (by decide) rfl rfl (Nat.le_of_ble_eq_true rfl) (by decide) rfl (fun kr65 s_kr65 h_kr65 => ?_)
                obtain ⟨e_kr65, F_kr65, g0_kr65, g1_kr65⟩ := h_kr65
                have kh66 : s_kr65.1 (y + 5) = .inl (0, 60, .inl ip) := zFr.get F_kr65 (by omega) kh39
                have kF67 := zFr.tr kF41 F_kr65 (by intro q hq; omega)
                obtain rfl := e_kr65.symm
                refine zr_if_eq (tgt := 242) dX10_commandHere_227 (by decide) (fun c_227 => ?_) (fun c_227 => ?_)
                · refine zr_iconst (v := 0) dX10_commandHere_242 (by decide) ?_
                  refine zr_ireturn dX10_commandHere_243 rfl (rfl) ?_
                  have hp0 : zcm ip n a [99] = [99].length := zcm_ye hk131
                  have oth : ∀ i, i < 7 → i ≠ 3 → zcm ip n a (zLw i) ≤ [99].length ∧ ¬ zcm ip n a (zLw i) = zTXn i := by
                    refine zothc (pre := [99]) (w := 3) hk131 (by decide) (fun i i1 i4 iw => ?_)
                    have : i = 1 ∨ i = 2 := by omega
                    rcases this with e | e
                    · subst e; exact zcm_no hk142
                    · subst e; exact zcm_no hk186
                  have ez := zwo3.miss hp0 oth (fun q => absurd (c_227.symm.trans (if_pos q)) (by decide))
                  exact ⟨_, rfl, Or.inr ⟨by rw [ez], rfl⟩, kF67, by rw [ez]; exact g0_kr65, _, g1_kr65, fun q hq => upd_ne _ _ (by omega), fun q => by rw [ez] at q; cases q⟩
                · have em : zcm ip n (a + 1) (zLw 13) = zTXn 13 := Classical.not_not.mp (fun q => c_227 (if_neg q))
                  rw [em] at nn
                  rw [em] at g0_kr65
                  refine zr_aload_n dX10_commandHere_230 rfl ?_
                  refine zr_iload_n dX10_commandHere_231 rfl ?_
                  refine zr_callVi [] dX10_commandHere_232 vX10_255 (qX10_figure hX (a := a + 1 + zTXn 13) (p := (3 * t) + 1) g0_kr65 kh66 fn hn (by omega) g1_kr65 (by omega)) g0_kr65 (by decide) (by decide) (by decide) rfl rfl (Nat.le_of_ble_eq_true rfl) (by decide) rfl (fun kr68 s_kr68 h_kr68 => ?_)
                  obtain ⟨e_kr68, F_kr68, g0_kr68, g1_kr68⟩ := h_kr68
                  have kh69 : s_kr68.1 (y + 5) = .inl (0, 60, .inl ip) := zFr.get F_kr68 (by omega) kh66
                  have kF70 := zFr.tr kF67 F_kr68 (by intro q hq; omega)
                  obtain rfl := e_kr68.symm
                  refine zr_if_eq (tgt := 242) dX10_commandHere_235 (by decide) (fun c_235 => ?_) (fun c_235 => ?_)
                  · refine zr_iconst (v := 0) dX10_commandHere_242 (by decide) ?_
                    refine zr_ireturn dX10_commandHere_243 rfl (rfl) ?_
                    have hp0 : zcm ip n a [99] = [99].length := zcm_ye hk131
                    have oth : ∀ i, i < 7 → i ≠ 3 → zcm ip n a (zLw i) ≤ [99].length ∧ ¬ zcm ip n a (zLw i) = zTXn i := by
                      refine zothc (pre := [99]) (w := 3) hk131 (by decide) (fun i i1 i4 iw => ?_)
                      have : i = 1 ∨ i = 2 := by omega
                      rcases this with e | e
                      · subst e; exact zcm_no hk142
                      · subst e; exact zcm_no hk186
                    have eg : ¬ (zfg ip n (a + 1 + zTXn 13)).1 = true := fun q => absurd (c_235.symm.trans (if_pos q)) (by decide)
                    have ez := zwo3.nofig hp0 oth em eg
                    exact ⟨_, rfl, Or.inr ⟨ez.1, rfl⟩, kF70, by rw [ez.2]; exact g0_kr68, _, g1_kr68, fun q hq => by rw [if_neg eg]; exact upd_ne _ _ (by omega), fun q => by rw [ez.1] at q; cases q⟩
                  · have eg : (zfg ip n (a + 1 + zTXn 13)).1 = true := Classical.not_not.mp (fun q => c_235 (if_neg q))
                    have gn := (zfg_at (f := ip) (n := n) (b := a + 1 + zTXn 13) (by omega)).2
                    refine zr_iconst (v := 1) dX10_commandHere_238 (by decide) ?_
                    refine zr_goto (tgt := 243) dX10_commandHere_239 (by decide) ?_
                    refine zr_ireturn dX10_commandHere_243 rfl (rfl) ?_
                    have hp0 : zcm ip n a [99] = [99].length := zcm_ye hk131
                    have oth : ∀ i, i < 7 → i ≠ 3 → zcm ip n a (zLw i) ≤ [99].length ∧ ¬ zcm ip n a (zLw i) = zTXn i := by
                      refine zothc (pre := [99]) (w := 3) hk131 (by decide) (fun i i1 i4 iw => ?_)
                      have : i = 1 ∨ i = 2 := by omega
                      rcases this with e | e
                      · subst e; exact zcm_no hk142
                      · subst e; exact zcm_no hk186
                    have ez := zwo3.fig hp0 oth em eg (by decide)
                    exact ⟨_, rfl, Or.inl ⟨by rw [ez], rfl⟩, kF70, by rw [ez]; exact g0_kr68, _, g1_kr68, fun q hq => by rw [if_pos eg, upd_ne _ _ (by omega)]; exact upd_ne _ _ (by omega), fun _ => by rw [ez, if_pos eg]; exact ⟨(upd_ne _ _ (by omega)).trans (upd_at _ _ _), fun _ => (upd_at _ _ _).trans (zdig2 (zfg_t eg).2.1.2.1 (zfg_t eg).2.1.2.2), fun q => absurd (show (3 : Nat) = 1 from q) (by decide)⟩⟩
          · refine zr_pVi [] dX10_commandHere_131 vX10_244 (qX10_skips0 hX (a := a) (c := 99) h0 h5 fn hn (by omega) hk131 (by decide)) h0 (by decide) (by decide) (by decide) rfl rfl (Nat.le_of_ble_eq_true rfl) (by decide) rfl ?_
            refine zr_if_ne (tgt := 139) dX10_commandHere_134 (by decide) (fun c_134 => absurd (by decide) c_134) (fun c_134 => ?_)
            refine zr_iconst (v := 0) dX10_commandHere_137 (by decide) ?_
            refine zr_ireturn dX10_commandHere_138 rfl (rfl) ?_
            have ez := zrc_no (n := n) hk12 hk29 hk62 hk96 hk131
            exact ⟨_, rfl, Or.inr ⟨by rw [ez], rfl⟩, zFr.rf (P := (fun q => q = y ∨ q = y + 11)), by rw [ez]; exact h0, _, h11, fun q hq => rfl, fun q => by rw [ez] at q; cases q⟩

theorem zTl.add {td td1 : Nat → Int32} {L : zTL} {q : Nat × Nat × Int32} (h : ∀ (i : Nat) (h : i < L.length), zTl td i L[i]) (e : ∀ k, k < 3 * L.length → td1 k = td k) (hq : zTl td1 L.length q) : ∀ (i : Nat) (h : i < (L ++ [q]).length), zTl td1 i (L ++ [q])[i] := by
  intro i hi
  rw [List.length_append] at hi
  simp only [List.length_cons, List.length_nil] at hi
  by_cases ei : i < L.length
  · rw [List.getElem_append_left ei]
    obtain ⟨a, b, c⟩ := h i ei
    exact ⟨(e _ (by omega)).trans a, fun z => (e _ (by omega)).trans (b z), fun z => by rw [e _ (by omega)]; exact c z⟩
  · have e1 : i = L.length := by omega
    subst e1
    rw [List.getElem_append_right (Nat.le_refl _)]
    simp only [Nat.sub_self, List.getElem_cons_zero]
    exact hq
set_option maxHeartbeats 400000 in
set_option maxRecDepth 100000 in
theorem l_it {X : zX} (hX : X.1.stackTraces = false) {σ : zS} {y : Nat} {F : Nat → Int32} {ip : Nat → Int32} {n : Nat} (h5 : σ.1 (y + 5) = .inl (0, 60, .inl ip)) (fn : F 13 = nI n) (hn : n ≤ 60) : ∀ (j : Nat) (s : zS) (a : Nat) (L : zTL) (td : Nat → Int32), (L.length + j = 61) → (zFr σ s (fun q => q = y ∨ q = y + 11)) → (s.1 y = zmO y (upd (upd F 25 (nI a)) 27 (nI L.length))) → (s.1 (y + 11) = .inl (0, 93, .inl td)) → (a ≤ n) → (5 * L.length ≤ a) → (∀ (i : Nat) (h : i < L.length), zTl td i L[i]) → (zps ip n 61 0 [] = zps ip n j a L) → zW X mX10_isText 6 0 0 (zI (fun y_ s => y_ = (if (zps ip n 61 0 []).1 = true then 1 else 0) ∧ zFr σ s (fun q => q = y ∨ q = y + 11) ∧ s.1 y = zmO y (upd (upd F 25 (nI (zps ip n 61 0 []).2.1)) 27 (nI (zps ip n 61 0 []).2.2.length)) ∧ ∃ td1, s.1 (y + 11) = .inl (0, 93, .inl td1) ∧ (∀ (i : Nat) (h : i < (zps ip n 61 0 []).2.2.length), zTl td1 i (zps ip n 61 0 []).2.2[i]))) 10 [some (.ref y)] [] s := by
  intro j
  induction j with
  | zero => intro s a L td hj _ _ _ ha hLa; exact absurd hj (by omega)
  | succ j ih =>
    intro s a L td hj hFr k0 k11 ha hLa hL hz
    have k5 := zFr.get hFr (by omega) h5
    obtain ⟨z1, z2, z3⟩ := zrc_at (f := ip) (n := n) ha
    refine zr_aload_n dX10_isText_10 rfl ?_
    refine zr_callVi [] dX10_isText_11 vX10_271 (qX10_commandHere hX (a := a) (t := L.length) k0 k5 fn hn (by omega) k11 (by omega)) k0 (by decide) (by decide) (by decide) rfl rfl (Nat.le_of_ble_eq_true rfl) (by decide) rfl (fun r s1 h_ => ?_)
    obtain ⟨hor, F1, t0, td1, t11, eT, nT⟩ := h_
    have F2 := zFr.tr hFr F1 (fun q hq => hq)
    have t5 := zFr.get F1 (by omega) k5
    rcases hor with ⟨e1, rfl⟩ | ⟨e1, rfl⟩
    · have rT := zTl.add hL eT (nT e1)
      refine zr_if_ne (tgt := 19) dX10_isText_14 (by decide) (fun c_14 => ?_) (fun c_14 => absurd c_14 (by decide))
      refine zr_aload_n dX10_isText_19 rfl ?_
      refine zr_dup dX10_isText_20 rfl ?_
      refine zr_getM (v := .int (nI (L.length))) dX10_isText_21 fX10_234 t0 rfl ?_
      refine zr_iconst (v := 1) dX10_isText_24 (by decide) ?_
      refine zr_iadd dX10_isText_25 ?_
      refine zr_eqi (x' := nI (L.length + 1)) (nI_add L.length 1) ?_
      refine zr_putM (v := nI (L.length + 1)) dX10_isText_26 pX10_234 t0 (rfl) (rfl) (Nat.le_of_ble_eq_true rfl) (zms_27 _ _ _) ?_
      refine zr_sig (fun ks1 e_ks1 => ?_)
      have kh2 : ks1.1 y = zmO y (upd (upd F 25 (nI ((zrc ip n a).2.1))) 27 (nI (L.length + 1))) := by rw [e_ks1]; exact zup_at _ _ _
      have kh3 : ks1.1 (y + 5) = .inl (0, 60, .inl ip) := by rw [e_ks1, zup_ne _ _ (by omega)]; exact t5
      have kh4 : ks1.1 (y + 11) = .inl (0, 93, .inl td1) := by rw [e_ks1, zup_ne _ _ (by omega)]; exact t11
      have kF5 := zFr.put F2 e_ks1 (by first | omega | simp)
      have z4 := z3 e1
      refine zr_aload_n dX10_isText_29 rfl ?_
      refine zr_bipush (v := 59) dX10_isText_30 (by decide) ?_
      by_cases hk32 : (zrc ip n a).2.1 < n ∧ ip ((zrc ip n a).2.1) = 59
      · refine zr_callVi [] dX10_isText_32 vX10_244 (qX10_skips1 hX (a := (zrc ip n a).2.1) (c := 59) kh2 kh3 fn hn (by omega) hk32) kh2 (by decide) (by decide) (by decide) rfl rfl (Nat.le_of_ble_eq_true rfl) (by decide) rfl (fun kr6 s_kr6 h_kr6 => ?_)
        obtain ⟨e_kr6, F_kr6, g0_kr6⟩ := h_kr6
        have kh7 : s_kr6.1 (y + 5) = .inl (0, 60, .inl ip) := zFr.get F_kr6 (by omega) kh3
        have kh8 : s_kr6.1 (y + 11) = .inl (0, 93, .inl td1) := zFr.get F_kr6 (by omega) kh4
        have kF9 := zFr.tr kF5 F_kr6 (by intro q hq; omega)
        obtain rfl := e_kr6.symm
        refine zr_if_ne (tgt := 10) dX10_isText_35 (by decide) (fun c_35 => ?_) (fun c_35 => absurd c_35 (by decide))
        exact ih _ _ _ _ (by rw [List.length_append]; simp only [List.length_cons, List.length_nil]; omega) kF9 (by rw [List.length_append]; exact g0_kr6) kh8 (by omega) (by have := z3 e1; rw [List.length_append]; simp only [List.length_cons, List.length_nil]; omega) rT (by rw [hz]; simp only [zps]; rw [if_pos e1, if_neg (by omega), if_pos hk32])
      · refine zr_pVi [] dX10_isText_32 vX10_244 (qX10_skips0 hX (a := (zrc ip n a).2.1) (c := 59) kh2 kh3 fn hn (by omega) hk32 (by decide)) kh2 (by decide) (by decide) (by decide) rfl rfl (Nat.le_of_ble_eq_true rfl) (by decide) rfl ?_
        refine zr_if_ne (tgt := 10) dX10_isText_35 (by decide) (fun c_35 => absurd (by decide) c_35) (fun c_35 => ?_)
        refine zr_aload_n dX10_isText_38 rfl ?_
        refine zr_getM (v := .int (nI ((zrc ip n a).2.1))) dX10_isText_39 fX10_228 kh2 rfl ?_
        refine zr_aload_n dX10_isText_42 rfl ?_
        refine zr_getM (v := .int (F 13)) dX10_isText_43 fX10_225 kh2 rfl ?_
        refine zr_eqi (x' := nI n) fn ?_
        refine zr_icmp_ne (tgt := 53) dX10_isText_46 (by decide) (fun c_46 => ?_) (fun c_46 => ?_)
        · have en : ¬ (zrc ip n a).2.1 = n := fun q => c_46 (by rw [q])
          refine zr_iconst (v := 0) dX10_isText_53 (by decide) ?_
          refine zr_ireturn dX10_isText_54 rfl (rfl) ?_
          have ez : zps ip n (j + 1) a L = (false, (zrc ip n a).2.1, L ++ [(zrc ip n a).2.2]) := by simp only [zps]; rw [if_pos e1, if_neg en, if_neg hk32]
          refine ⟨_, rfl, ?_⟩
          rw [hz, ez]
          exact ⟨rfl, kF5, by rw [List.length_append]; exact kh2, _, kh4, rT⟩
        · have en : (zrc ip n a).2.1 = n := (nI_eq (by omega) (by omega)).mp c_46
          refine zr_iconst (v := 1) dX10_isText_49 (by decide) ?_
          refine zr_goto (tgt := 54) dX10_isText_50 (by decide) ?_
          refine zr_ireturn dX10_isText_54 rfl (rfl) ?_
          have ez : zps ip n (j + 1) a L = (true, n, L ++ [(zrc ip n a).2.2]) := by simp only [zps]; rw [if_pos e1, if_pos en]
          rw [en] at kh2
          refine ⟨_, rfl, ?_⟩
          rw [hz, ez]
          exact ⟨rfl, kF5, by rw [List.length_append]; exact kh2, _, kh4, rT⟩
    · have rT : ∀ (i : Nat) (h : i < L.length), zTl td1 i L[i] := fun i h => by obtain ⟨a1, b1, c1⟩ := hL i h; exact ⟨(eT _ (by omega)).trans a1, fun z => (eT _ (by omega)).trans (b1 z), fun z => by rw [eT _ (by omega)]; exact c1 z⟩
      refine zr_if_ne (tgt := 19) dX10_isText_14 (by decide) (fun c_14 => absurd (by decide) c_14) (fun c_14 => ?_)
      refine zr_iconst (v := 0) dX10_isText_17 (by decide) ?_
      refine zr_ireturn dX10_isText_18 rfl (rfl) ?_
      have ez : zps ip n (j + 1) a L = (false, (zrc ip n a).2.1, L) := by simp only [zps]; rw [if_neg (by rw [e1]; decide)]
      refine ⟨_, rfl, ?_⟩
      rw [hz, ez]
      exact ⟨rfl, F2, t0, _, t11, rT⟩

set_option maxHeartbeats 400000 in
set_option maxRecDepth 100000 in
theorem qX10_isText {X : zX} (hX : X.1.stackTraces = false) {σ : zS} {y : Nat} {F : Nat → Int32} {ip td : Nat → Int32} {n : Nat} (h0 : σ.1 y = zmO y F) (h5 : σ.1 (y + 5) = .inl (0, 60, .inl ip)) (fn : F 13 = nI n) (hn : n ≤ 60) (h11 : σ.1 (y + 11) = .inl (0, 93, .inl td)) : zMet X mX10_isText yX10_isText 6 0 0 [.ref y] σ (zI (fun y_ s => y_ = (if (zps ip n 61 0 []).1 = true then 1 else 0) ∧ zFr σ s (fun q => q = y ∨ q = y + 11) ∧ s.1 y = zmO y (upd (upd F 25 (nI (zps ip n 61 0 []).2.1)) 27 (nI (zps ip n 61 0 []).2.2.length)) ∧ ∃ td1, s.1 (y + 11) = .inl (0, 93, .inl td1) ∧ (∀ (i : Nat) (h : i < (zps ip n 61 0 []).2.2.length), zTl td1 i (zps ip n 61 0 []).2.2[i]))) := by
  refine zMet_of (ls := [some (.ref y)]) rfl (by decide +kernel) rfl (fun h => by cases h) hX (Nat.le_of_ble_eq_true rfl) rfl ?_
  refine zr_aload_n dX10_isText_0 rfl ?_
  refine zr_iconst (v := 0) dX10_isText_1 (by decide) ?_
  refine zr_putM (v := 0) dX10_isText_2 pX10_228 h0 (rfl) (rfl) (Nat.le_of_ble_eq_true rfl) (zms_25 _ _ _) ?_
  refine zr_sig (fun ks1 e_ks1 => ?_)
  have kh2 : ks1.1 y = zmO y (upd F 25 0) := by rw [e_ks1]; exact zup_at _ _ _
  have kh3 : ks1.1 (y + 5) = .inl (0, 60, .inl ip) := by rw [e_ks1, zup_ne _ _ (by omega)]; exact h5
  have kh4 : ks1.1 (y + 11) = .inl (0, 93, .inl td) := by rw [e_ks1, zup_ne _ _ (by omega)]; exact h11
  have kF5 := zFr.put zFr.rf (P := (fun q => q = y ∨ q = y + 11)) e_ks1 (by first | omega | simp)
  refine zr_aload_n dX10_isText_5 rfl ?_
  refine zr_iconst (v := 0) dX10_isText_6 (by decide) ?_
  refine zr_putM (v := 0) dX10_isText_7 pX10_234 kh2 (rfl) (rfl) (Nat.le_of_ble_eq_true rfl) (zms_27 _ _ _) ?_
  refine zr_sig (fun ks6 e_ks6 => ?_)
  have kh7 : ks6.1 y = zmO y (upd (upd F 25 0) 27 0) := by rw [e_ks6]; exact zup_at _ _ _
  have kh8 : ks6.1 (y + 5) = .inl (0, 60, .inl ip) := by rw [e_ks6, zup_ne _ _ (by omega)]; exact kh3
  have kh9 : ks6.1 (y + 11) = .inl (0, 93, .inl td) := by rw [e_ks6, zup_ne _ _ (by omega)]; exact kh4
  have kF10 := zFr.put kF5 e_ks6 (by first | omega | simp)
  exact l_it hX h5 fn hn 61 _ 0 [] td rfl kF10 kh7 kh9 (Nat.zero_le _) (Nat.le_refl _) (fun i h => by cases h) rfl

