/-! coordinates of the word that is worked on -/
set_option maxHeartbeats 400000 in
set_option maxRecDepth 100000 in
theorem qX10_up {X : zX} (hX : X.1.stackTraces = false) {σ : zS} {a : Int} (h : -9223372036854775808 ≤ a ∧ a < 9223372036854775808) : zMet X mX10_up yX10_up 0 0 0 [.long (lI a)] σ (zJ (fun y_ s_ => y_ = lI (max a 0) ∧ s_ = σ)) := by
  refine zMet_of (ls := [some (.long (lI a)), none]) rfl (by decide +kernel) rfl (fun h => by cases h) hX (Nat.le_of_ble_eq_true rfl) rfl ?_
  refine zr_lload_n dX10_up_0 rfl ?_
  refine zr_lconst (v := lI 0) dX10_up_1 (by decide) ?_
  refine zr_lcmp dX10_up_2 ?_
  refine zr_if_le (tgt := 10) dX10_up_3 (by decide) (fun c_3 => ?_) (fun c_3 => ?_)
  · refine zr_lconst (v := lI 0) dX10_up_10 (by decide) ?_
    exact zr_lreturn dX10_up_11 rfl (⟨_, rfl, congrArg lI (by have q := mt (fun q => zcmp_gt.mpr ((lI_lt (a := 0) (b := a) (by omega) h).mpr q)) (Int32.not_lt.mpr c_3); omega), rfl⟩)
  · refine zr_lload_n dX10_up_6 rfl ?_
    refine zr_goto (tgt := 11) dX10_up_7 (by decide) ?_
    exact zr_lreturn dX10_up_11 rfl (⟨_, rfl, congrArg lI (by have q := (lI_lt (a := 0) (b := a) (by omega) h).mp (zcmp_gt.mp (Int32.not_le.mp c_3)); omega), rfl⟩)

set_option maxHeartbeats 400000 in
set_option maxRecDepth 100000 in
theorem qX10_down {X : zX} (hX : X.1.stackTraces = false) {σ : zS} {a : Int} (h : -9223372036854775808 ≤ a ∧ a < 9223372036854775808) : zMet X mX10_down yX10_down 0 0 0 [.long (lI a)] σ (zJ (fun y_ s_ => y_ = lI (min a 0) ∧ s_ = σ)) := by
  refine zMet_of (ls := [some (.long (lI a)), none]) rfl (by decide +kernel) rfl (fun h => by cases h) hX (Nat.le_of_ble_eq_true rfl) rfl ?_
  refine zr_lload_n dX10_down_0 rfl ?_
  refine zr_lconst (v := lI 0) dX10_down_1 (by decide) ?_
  refine zr_lcmp dX10_down_2 ?_
  refine zr_if_ge (tgt := 10) dX10_down_3 (by decide) (fun c_3 => ?_) (fun c_3 => ?_)
  · refine zr_lconst (v := lI 0) dX10_down_10 (by decide) ?_
    exact zr_lreturn dX10_down_11 rfl (⟨_, rfl, congrArg lI (by have q := mt (fun q => zcmp_lt.mpr ((lI_lt (a := a) (b := 0) h (by omega)).mpr q)) (Int32.not_lt.mpr c_3); omega), rfl⟩)
  · refine zr_lload_n dX10_down_6 rfl ?_
    refine zr_goto (tgt := 11) dX10_down_7 (by decide) ?_
    exact zr_lreturn dX10_down_11 rfl (⟨_, rfl, congrArg lI (by have q := (lI_lt (a := a) (b := 0) h (by omega)).mp (zcmp_lt.mp (Int32.not_le.mp c_3)); omega), rfl⟩)

theorem congrArg2' {α β γ : Type} (f : α → β → γ) {a a1 : α} {b b1 : β} (h : a = a1) (h2 : b = b1) : f a b = f a1 b1 := by rw [h, h2]
set_option maxHeartbeats 400000 in
set_option maxRecDepth 100000 in
theorem qX10_turnsP {X : zX} (hX : X.1.stackTraces = false) {σ : zS} {y : Nat} {F : Nat → Int32} {w : Nat → Int} {j : Nat} (h0 : σ.1 y = zmO y F) (h1 : σ.1 (y + 9) = .inl (3, 10, .inr (.inl (z64 w)))) (hb : zBd 1152921504606846976 w) (h1j : 1 ≤ j) (hj4 : j ≤ 4) : zMet X mX10_turns yX10_turns 1 0 0 [.ref y, .int (nI (2 * (j - 1))), .int 1] σ (zV (fun s => zFr σ s (fun q => q = y + 9) ∧ s.1 (y + 9) = .inl (3, 10, .inr (.inl (z64 (zst 1 j w)))))) := by
  refine zMet_of (ls := [some (.ref y), some (.int (nI (2 * (j - 1)))), some (.int 1), none, none, none, none, none, none, none, none, none, none]) rfl (by decide +kernel) rfl (fun h => by cases h) hX (Nat.le_of_ble_eq_true rfl) rfl ?_
  have hx := hb (2 * (j - 1)) (by omega)
  have hy := hb (2 * (j - 1) + 1) (by omega)
  have hu := hb (2 * (j - 1) + 2) (by omega)
  have hv := hb (2 * (j - 1) + 3) (by omega)
  refine zr_aload_n dX10_turns_0 rfl ?_
  refine zr_getM (v := .ref (y + 9)) dX10_turns_1 fX10_39 h0 rfl ?_
  refine zr_iload_n dX10_turns_4 rfl ?_
  refine zr_laload dX10_turns_5 h1 (vp_in_nI (n := 2 * (j - 1)) (by omega) (by omega)) ?_
  rw [nI_clamp (n := 2 * (j - 1)) (by omega)]
  refine zr_eql (x' := lI (w (2 * (j - 1)))) rfl ?_
  refine zr_lstore_n (ls' := [some (.ref y), some (.int (nI (2 * (j - 1)))), some (.int 1), some (.long (lI (w (2 * (j - 1))))), none, none, none, none, none, none, none, none, none]) dX10_turns_6 rfl (by decide) rfl ?_
  refine zr_aload_n dX10_turns_7 rfl ?_
  refine zr_getM (v := .ref (y + 9)) dX10_turns_8 fX10_39 h0 rfl ?_
  refine zr_iload_n dX10_turns_11 rfl ?_
  refine zr_iconst (v := 1) dX10_turns_12 (by decide) ?_
  refine zr_iadd dX10_turns_13 ?_
  refine zr_eqi (x' := nI ((2 * (j - 1)) + 1)) (nI_add (2 * (j - 1)) 1) ?_
  refine zr_laload dX10_turns_14 h1 (vp_in_nI (n := (2 * (j - 1)) + 1) (by omega) (by omega)) ?_
  rw [nI_clamp (n := (2 * (j - 1)) + 1) (by omega)]
  refine zr_eql (x' := lI (w ((2 * (j - 1)) + 1))) rfl ?_
  refine zr_lstore (ls' := [some (.ref y), some (.int (nI (2 * (j - 1)))), some (.int 1), some (.long (lI (w (2 * (j - 1))))), none, some (.long (lI (w ((2 * (j - 1)) + 1)))), none, none, none, none, none, none, none]) dX10_turns_15 (by decide) rfl ?_
  refine zr_aload_n dX10_turns_17 rfl ?_
  refine zr_getM (v := .ref (y + 9)) dX10_turns_18 fX10_39 h0 rfl ?_
  refine zr_iload_n dX10_turns_21 rfl ?_
  refine zr_iconst (v := 2) dX10_turns_22 (by decide) ?_
  refine zr_iadd dX10_turns_23 ?_
  refine zr_eqi (x' := nI ((2 * (j - 1)) + 2)) (nI_add (2 * (j - 1)) 2) ?_
  refine zr_laload dX10_turns_24 h1 (vp_in_nI (n := (2 * (j - 1)) + 2) (by omega) (by omega)) ?_
  rw [nI_clamp (n := (2 * (j - 1)) + 2) (by omega)]
  refine zr_eql (x' := lI (w ((2 * (j - 1)) + 2))) rfl ?_
  refine zr_lstore (ls' := [some (.ref y), some (.int (nI (2 * (j - 1)))), some (.int 1), some (.long (lI (w (2 * (j - 1))))), none, some (.long (lI (w ((2 * (j - 1)) + 1)))), none, some (.long (lI (w ((2 * (j - 1)) + 2)))), none, none, none, none, none]) dX10_turns_25 (by decide) rfl ?_
  refine zr_aload_n dX10_turns_27 rfl ?_
  refine zr_getM (v := .ref (y + 9)) dX10_turns_28 fX10_39 h0 rfl ?_
  refine zr_iload_n dX10_turns_31 rfl ?_
  refine zr_iconst (v := 3) dX10_turns_32 (by decide) ?_
  refine zr_iadd dX10_turns_33 ?_
  refine zr_eqi (x' := nI ((2 * (j - 1)) + 3)) (nI_add (2 * (j - 1)) 3) ?_
  refine zr_laload dX10_turns_34 h1 (vp_in_nI (n := (2 * (j - 1)) + 3) (by omega) (by omega)) ?_
  rw [nI_clamp (n := (2 * (j - 1)) + 3) (by omega)]
  refine zr_eql (x' := lI (w ((2 * (j - 1)) + 3))) rfl ?_
  refine zr_lstore (ls' := [some (.ref y), some (.int (nI (2 * (j - 1)))), some (.int 1), some (.long (lI (w (2 * (j - 1))))), none, some (.long (lI (w ((2 * (j - 1)) + 1)))), none, some (.long (lI (w ((2 * (j - 1)) + 2)))), none, some (.long (lI (w ((2 * (j - 1)) + 3)))), none, none, none]) dX10_turns_35 (by decide) rfl ?_
  refine zr_iload_n dX10_turns_37 rfl ?_
  refine zr_if_eq (tgt := 147) dX10_turns_38 (by decide) (fun c_38 => absurd c_38 (by decide)) (fun c_38 => ?_)
  refine zr_lload_n dX10_turns_41 rfl ?_
  refine zr_lload dX10_turns_42 rfl ?_
  refine zr_pSl [.long (lI (w (2 * (j - 1))))] dX10_turns_44 vX10_118 (qX10_down hX (a := w ((2 * (j - 1)) + 1)) (by omega)) (by decide) (by decide) (by decide) rfl rfl (Nat.le_of_ble_eq_true rfl) rfl ?_
  refine zr_lsub dX10_turns_47 ?_
  refine zr_eql (x' := lI ((w (2 * (j - 1))) - (min (w ((2 * (j - 1)) + 1)) 0))) (lI_sub _ _) ?_
  refine zr_lload dX10_turns_48 rfl ?_
  refine zr_lsub dX10_turns_50 ?_
  refine zr_eql (x' := lI (((w (2 * (j - 1))) - (min (w ((2 * (j - 1)) + 1)) 0)) - (w ((2 * (j - 1)) + 2)))) (lI_sub _ _) ?_
  refine zr_lload dX10_turns_51 rfl ?_
  refine zr_pSl [.long (lI (((w (2 * (j - 1))) - (min (w ((2 * (j - 1)) + 1)) 0)) - (w ((2 * (j - 1)) + 2))))] dX10_turns_53 vX10_122 (qX10_up hX (a := w ((2 * (j - 1)) + 3)) (by omega)) (by decide) (by decide) (by decide) rfl rfl (Nat.le_of_ble_eq_true rfl) rfl ?_
  refine zr_ladd dX10_turns_56 ?_
  refine zr_eql (x' := lI ((((w (2 * (j - 1))) - (min (w ((2 * (j - 1)) + 1)) 0)) - (w ((2 * (j - 1)) + 2))) + (max (w ((2 * (j - 1)) + 3)) 0))) (lI_add _ _) ?_
  refine zr_lstore (ls' := [some (.ref y), some (.int (nI (2 * (j - 1)))), some (.int 1), some (.long (lI (w (2 * (j - 1))))), none, some (.long (lI (w ((2 * (j - 1)) + 1)))), none, some (.long (lI (w ((2 * (j - 1)) + 2)))), none, some (.long (lI (w ((2 * (j - 1)) + 3)))), none, some (.long (lI ((((w (2 * (j - 1))) - (min (w ((2 * (j - 1)) + 1)) 0)) - (w ((2 * (j - 1)) + 2))) + (max (w ((2 * (j - 1)) + 3)) 0)))), none]) dX10_turns_57 (by decide) rfl ?_
  refine zr_aload_n dX10_turns_59 rfl ?_
  refine zr_getM (v := .ref (y + 9)) dX10_turns_60 fX10_39 h0 rfl ?_
  refine zr_iload_n dX10_turns_63 rfl ?_
  refine zr_lload_n dX10_turns_64 rfl ?_
  refine zr_lload dX10_turns_65 rfl ?_
  refine zr_pSl [.long (lI (w (2 * (j - 1)))), .int (nI (2 * (j - 1))), .ref ((y + 9))] dX10_turns_67 vX10_122 (qX10_up hX (a := w ((2 * (j - 1)) + 1)) (by omega)) (by decide) (by decide) (by decide) rfl rfl (Nat.le_of_ble_eq_true rfl) rfl ?_
  refine zr_ladd dX10_turns_70 ?_
  refine zr_eql (x' := lI ((w (2 * (j - 1))) + (max (w ((2 * (j - 1)) + 1)) 0))) (lI_add _ _) ?_
  refine zr_lload dX10_turns_71 rfl ?_
  refine zr_pSl [.long (lI ((w (2 * (j - 1))) + (max (w ((2 * (j - 1)) + 1)) 0))), .int (nI (2 * (j - 1))), .ref ((y + 9))] dX10_turns_73 vX10_122 (qX10_up hX (a := w ((2 * (j - 1)) + 3)) (by omega)) (by decide) (by decide) (by decide) rfl rfl (Nat.le_of_ble_eq_true rfl) rfl ?_
  refine zr_lload dX10_turns_76 rfl ?_
  refine zr_lsub dX10_turns_78 ?_
  refine zr_eql (x' := lI ((max (w ((2 * (j - 1)) + 3)) 0) - ((((w (2 * (j - 1))) - (min (w ((2 * (j - 1)) + 1)) 0)) - (w ((2 * (j - 1)) + 2))) + (max (w ((2 * (j - 1)) + 3)) 0)))) (lI_sub _ _) ?_
  refine zr_pSl [.long (lI ((w (2 * (j - 1))) + (max (w ((2 * (j - 1)) + 1)) 0))), .int (nI (2 * (j - 1))), .ref ((y + 9))] dX10_turns_79 vX10_122 (qX10_up hX (a := (max (w ((2 * (j - 1)) + 3)) 0) - ((((w (2 * (j - 1))) - (min (w ((2 * (j - 1)) + 1)) 0)) - (w ((2 * (j - 1)) + 2))) + (max (w ((2 * (j - 1)) + 3)) 0))) (by omega)) (by decide) (by decide) (by decide) rfl rfl (Nat.le_of_ble_eq_true rfl) rfl ?_
  refine zr_ladd dX10_turns_82 ?_
  refine zr_eql (x' := lI (((w (2 * (j - 1))) + (max (w ((2 * (j - 1)) + 1)) 0)) + (max ((max (w ((2 * (j - 1)) + 3)) 0) - ((((w (2 * (j - 1))) - (min (w ((2 * (j - 1)) + 1)) 0)) - (w ((2 * (j - 1)) + 2))) + (max (w ((2 * (j - 1)) + 3)) 0))) 0))) (lI_add _ _) ?_
  refine zr_lastore dX10_turns_83 h1 (vp_in_nI (n := 2 * (j - 1)) (by omega) (by omega)) ?_
  rw [nI_clamp (n := 2 * (j - 1)) (by omega)]
  rw [z64_upd]
  refine zr_sig (fun ks1 e_ks1 => ?_)
  have kh2 : ks1.1 y = zmO y F := by rw [e_ks1, zup_ne _ _ (by omega)]; exact h0
  have kh3 : ks1.1 (y + 9) = .inl (3, 10, .inr (.inl (z64 (zuI w (2 * (j - 1)) (((w (2 * (j - 1))) + (max (w ((2 * (j - 1)) + 1)) 0)) + (max ((max (w ((2 * (j - 1)) + 3)) 0) - ((((w (2 * (j - 1))) - (min (w ((2 * (j - 1)) + 1)) 0)) - (w ((2 * (j - 1)) + 2))) + (max (w ((2 * (j - 1)) + 3)) 0))) 0)))))) := by rw [e_ks1]; exact zup_at _ _ _
  have kF4 := zFr.put zFr.rf (P := (fun q => q = y + 9)) e_ks1 rfl
  refine zr_aload_n dX10_turns_84 rfl ?_
  refine zr_getM (v := .ref (y + 9)) dX10_turns_85 fX10_39 kh2 rfl ?_
  refine zr_iload_n dX10_turns_88 rfl ?_
  refine zr_iconst (v := 1) dX10_turns_89 (by decide) ?_
  refine zr_iadd dX10_turns_90 ?_
  refine zr_eqi (x' := nI ((2 * (j - 1)) + 1)) (nI_add (2 * (j - 1)) 1) ?_
  refine zr_lload dX10_turns_91 rfl ?_
  refine zr_lload dX10_turns_93 rfl ?_
  refine zr_pSl [.long (lI (w ((2 * (j - 1)) + 3))), .int (nI ((2 * (j - 1)) + 1)), .ref ((y + 9))] dX10_turns_95 vX10_122 (qX10_up hX (a := (((w (2 * (j - 1))) - (min (w ((2 * (j - 1)) + 1)) 0)) - (w ((2 * (j - 1)) + 2))) + (max (w ((2 * (j - 1)) + 3)) 0)) (by omega)) (by decide) (by decide) (by decide) rfl rfl (Nat.le_of_ble_eq_true rfl) rfl ?_
  refine zr_lsub dX10_turns_98 ?_
  refine zr_eql (x' := lI ((w ((2 * (j - 1)) + 3)) - (max ((((w (2 * (j - 1))) - (min (w ((2 * (j - 1)) + 1)) 0)) - (w ((2 * (j - 1)) + 2))) + (max (w ((2 * (j - 1)) + 3)) 0)) 0))) (lI_sub _ _) ?_
  refine zr_lastore dX10_turns_99 kh3 (vp_in_nI (n := (2 * (j - 1)) + 1) (by omega) (by omega)) ?_
  rw [nI_clamp (n := (2 * (j - 1)) + 1) (by omega)]
  rw [z64_upd]
  refine zr_sig (fun ks5 e_ks5 => ?_)
  have kh6 : ks5.1 y = zmO y F := by rw [e_ks5, zup_ne _ _ (by omega)]; exact kh2
  have kh7 : ks5.1 (y + 9) = .inl (3, 10, .inr (.inl (z64 (zuI (zuI w (2 * (j - 1)) (((w (2 * (j - 1))) + (max (w ((2 * (j - 1)) + 1)) 0)) + (max ((max (w ((2 * (j - 1)) + 3)) 0) - ((((w (2 * (j - 1))) - (min (w ((2 * (j - 1)) + 1)) 0)) - (w ((2 * (j - 1)) + 2))) + (max (w ((2 * (j - 1)) + 3)) 0))) 0))) ((2 * (j - 1)) + 1) ((w ((2 * (j - 1)) + 3)) - (max ((((w (2 * (j - 1))) - (min (w ((2 * (j - 1)) + 1)) 0)) - (w ((2 * (j - 1)) + 2))) + (max (w ((2 * (j - 1)) + 3)) 0)) 0)))))) := by rw [e_ks5]; exact zup_at _ _ _
  have kF8 := zFr.put kF4 e_ks5 rfl
  refine zr_aload_n dX10_turns_100 rfl ?_
  refine zr_getM (v := .ref (y + 9)) dX10_turns_101 fX10_39 kh6 rfl ?_
  refine zr_iload_n dX10_turns_104 rfl ?_
  refine zr_iconst (v := 2) dX10_turns_105 (by decide) ?_
  refine zr_iadd dX10_turns_106 ?_
  refine zr_eqi (x' := nI ((2 * (j - 1)) + 2)) (nI_add (2 * (j - 1)) 2) ?_
  refine zr_lload dX10_turns_107 rfl ?_
  refine zr_lload dX10_turns_109 rfl ?_
  refine zr_pSl [.long (lI (w ((2 * (j - 1)) + 2))), .int (nI ((2 * (j - 1)) + 2)), .ref ((y + 9))] dX10_turns_111 vX10_118 (qX10_down hX (a := w ((2 * (j - 1)) + 3)) (by omega)) (by decide) (by decide) (by decide) rfl rfl (Nat.le_of_ble_eq_true rfl) rfl ?_
  refine zr_ladd dX10_turns_114 ?_
  refine zr_eql (x' := lI ((w ((2 * (j - 1)) + 2)) + (min (w ((2 * (j - 1)) + 3)) 0))) (lI_add _ _) ?_
  refine zr_lload dX10_turns_115 rfl ?_
  refine zr_pSl [.long (lI ((w ((2 * (j - 1)) + 2)) + (min (w ((2 * (j - 1)) + 3)) 0))), .int (nI ((2 * (j - 1)) + 2)), .ref ((y + 9))] dX10_turns_117 vX10_118 (qX10_down hX (a := w ((2 * (j - 1)) + 1)) (by omega)) (by decide) (by decide) (by decide) rfl rfl (Nat.le_of_ble_eq_true rfl) rfl ?_
  refine zr_lload dX10_turns_120 rfl ?_
  refine zr_ladd dX10_turns_122 ?_
  refine zr_eql (x' := lI ((min (w ((2 * (j - 1)) + 1)) 0) + ((((w (2 * (j - 1))) - (min (w ((2 * (j - 1)) + 1)) 0)) - (w ((2 * (j - 1)) + 2))) + (max (w ((2 * (j - 1)) + 3)) 0)))) (lI_add _ _) ?_
  refine zr_pSl [.long (lI ((w ((2 * (j - 1)) + 2)) + (min (w ((2 * (j - 1)) + 3)) 0))), .int (nI ((2 * (j - 1)) + 2)), .ref ((y + 9))] dX10_turns_123 vX10_118 (qX10_down hX (a := (min (w ((2 * (j - 1)) + 1)) 0) + ((((w (2 * (j - 1))) - (min (w ((2 * (j - 1)) + 1)) 0)) - (w ((2 * (j - 1)) + 2))) + (max (w ((2 * (j - 1)) + 3)) 0))) (by omega)) (by decide) (by decide) (by decide) rfl rfl (Nat.le_of_ble_eq_true rfl) rfl ?_
  refine zr_ladd dX10_turns_126 ?_
  refine zr_eql (x' := lI (((w ((2 * (j - 1)) + 2)) + (min (w ((2 * (j - 1)) + 3)) 0)) + (min ((min (w ((2 * (j - 1)) + 1)) 0) + ((((w (2 * (j - 1))) - (min (w ((2 * (j - 1)) + 1)) 0)) - (w ((2 * (j - 1)) + 2))) + (max (w ((2 * (j - 1)) + 3)) 0))) 0))) (lI_add _ _) ?_
  refine zr_lastore dX10_turns_127 kh7 (vp_in_nI (n := (2 * (j - 1)) + 2) (by omega) (by omega)) ?_
  rw [nI_clamp (n := (2 * (j - 1)) + 2) (by omega)]
  rw [z64_upd]
  refine zr_sig (fun ks9 e_ks9 => ?_)
  have kh10 : ks9.1 y = zmO y F := by rw [e_ks9, zup_ne _ _ (by omega)]; exact kh6
  have kh11 : ks9.1 (y + 9) = .inl (3, 10, .inr (.inl (z64 (zuI (zuI (zuI w (2 * (j - 1)) (((w (2 * (j - 1))) + (max (w ((2 * (j - 1)) + 1)) 0)) + (max ((max (w ((2 * (j - 1)) + 3)) 0) - ((((w (2 * (j - 1))) - (min (w ((2 * (j - 1)) + 1)) 0)) - (w ((2 * (j - 1)) + 2))) + (max (w ((2 * (j - 1)) + 3)) 0))) 0))) ((2 * (j - 1)) + 1) ((w ((2 * (j - 1)) + 3)) - (max ((((w (2 * (j - 1))) - (min (w ((2 * (j - 1)) + 1)) 0)) - (w ((2 * (j - 1)) + 2))) + (max (w ((2 * (j - 1)) + 3)) 0)) 0))) ((2 * (j - 1)) + 2) (((w ((2 * (j - 1)) + 2)) + (min (w ((2 * (j - 1)) + 3)) 0)) + (min ((min (w ((2 * (j - 1)) + 1)) 0) + ((((w (2 * (j - 1))) - (min (w ((2 * (j - 1)) + 1)) 0)) - (w ((2 * (j - 1)) + 2))) + (max (w ((2 * (j - 1)) + 3)) 0))) 0)))))) := by rw [e_ks9]; exact zup_at _ _ _
  have kF12 := zFr.put kF8 e_ks9 rfl
  refine zr_aload_n dX10_turns_128 rfl ?_
  refine zr_getM (v := .ref (y + 9)) dX10_turns_129 fX10_39 kh10 rfl ?_
  refine zr_iload_n dX10_turns_132 rfl ?_
  refine zr_iconst (v := 3) dX10_turns_133 (by decide) ?_
  refine zr_iadd dX10_turns_134 ?_
  refine zr_eqi (x' := nI ((2 * (j - 1)) + 3)) (nI_add (2 * (j - 1)) 3) ?_
  refine zr_lload dX10_turns_135 rfl ?_
  refine zr_lload dX10_turns_137 rfl ?_
  refine zr_pSl [.long (lI (w ((2 * (j - 1)) + 1))), .int (nI ((2 * (j - 1)) + 3)), .ref ((y + 9))] dX10_turns_139 vX10_122 (qX10_up hX (a := (((w (2 * (j - 1))) - (min (w ((2 * (j - 1)) + 1)) 0)) - (w ((2 * (j - 1)) + 2))) + (max (w ((2 * (j - 1)) + 3)) 0)) (by omega)) (by decide) (by decide) (by decide) rfl rfl (Nat.le_of_ble_eq_true rfl) rfl ?_
  refine zr_ladd dX10_turns_142 ?_
  refine zr_eql (x' := lI ((w ((2 * (j - 1)) + 1)) + (max ((((w (2 * (j - 1))) - (min (w ((2 * (j - 1)) + 1)) 0)) - (w ((2 * (j - 1)) + 2))) + (max (w ((2 * (j - 1)) + 3)) 0)) 0))) (lI_add _ _) ?_
  refine zr_lastore dX10_turns_143 kh11 (vp_in_nI (n := (2 * (j - 1)) + 3) (by omega) (by omega)) ?_
  rw [nI_clamp (n := (2 * (j - 1)) + 3) (by omega)]
  rw [z64_upd]
  refine zr_sig (fun ks13 e_ks13 => ?_)
  have kh14 : ks13.1 y = zmO y F := by rw [e_ks13, zup_ne _ _ (by omega)]; exact kh10
  have kh15 : ks13.1 (y + 9) = .inl (3, 10, .inr (.inl (z64 (zuI (zuI (zuI (zuI w (2 * (j - 1)) (((w (2 * (j - 1))) + (max (w ((2 * (j - 1)) + 1)) 0)) + (max ((max (w ((2 * (j - 1)) + 3)) 0) - ((((w (2 * (j - 1))) - (min (w ((2 * (j - 1)) + 1)) 0)) - (w ((2 * (j - 1)) + 2))) + (max (w ((2 * (j - 1)) + 3)) 0))) 0))) ((2 * (j - 1)) + 1) ((w ((2 * (j - 1)) + 3)) - (max ((((w (2 * (j - 1))) - (min (w ((2 * (j - 1)) + 1)) 0)) - (w ((2 * (j - 1)) + 2))) + (max (w ((2 * (j - 1)) + 3)) 0)) 0))) ((2 * (j - 1)) + 2) (((w ((2 * (j - 1)) + 2)) + (min (w ((2 * (j - 1)) + 3)) 0)) + (min ((min (w ((2 * (j - 1)) + 1)) 0) + ((((w (2 * (j - 1))) - (min (w ((2 * (j - 1)) + 1)) 0)) - (w ((2 * (j - 1)) + 2))) + (max (w ((2 * (j - 1)) + 3)) 0))) 0))) ((2 * (j - 1)) + 3) ((w ((2 * (j - 1)) + 1)) + (max ((((w (2 * (j - 1))) - (min (w ((2 * (j - 1)) + 1)) 0)) - (w ((2 * (j - 1)) + 2))) + (max (w ((2 * (j - 1)) + 3)) 0)) 0)))))) := by rw [e_ks13]; exact zup_at _ _ _
  have kF16 := zFr.put kF12 e_ks13 rfl
  refine zr_goto (tgt := 250) dX10_turns_144 (by decide) ?_
  refine zr_return dX10_turns_250 rfl ?_
  have e_ : (zuI (zuI (zuI (zuI w (2 * (j - 1)) (((w (2 * (j - 1))) + (max (w ((2 * (j - 1)) + 1)) 0)) + (max ((max (w ((2 * (j - 1)) + 3)) 0) - ((((w (2 * (j - 1))) - (min (w ((2 * (j - 1)) + 1)) 0)) - (w ((2 * (j - 1)) + 2))) + (max (w ((2 * (j - 1)) + 3)) 0))) 0))) ((2 * (j - 1)) + 1) ((w ((2 * (j - 1)) + 3)) - (max ((((w (2 * (j - 1))) - (min (w ((2 * (j - 1)) + 1)) 0)) - (w ((2 * (j - 1)) + 2))) + (max (w ((2 * (j - 1)) + 3)) 0)) 0))) ((2 * (j - 1)) + 2) (((w ((2 * (j - 1)) + 2)) + (min (w ((2 * (j - 1)) + 3)) 0)) + (min ((min (w ((2 * (j - 1)) + 1)) 0) + ((((w (2 * (j - 1))) - (min (w ((2 * (j - 1)) + 1)) 0)) - (w ((2 * (j - 1)) + 2))) + (max (w ((2 * (j - 1)) + 3)) 0))) 0))) ((2 * (j - 1)) + 3) ((w ((2 * (j - 1)) + 1)) + (max ((((w (2 * (j - 1))) - (min (w ((2 * (j - 1)) + 1)) 0)) - (w ((2 * (j - 1)) + 2))) + (max (w ((2 * (j - 1)) + 3)) 0)) 0))) = zst 1 j w := by
    unfold zst
    refine congrArg2' (fun q => zuI q (2 * (j - 1) + 3)) (congrArg2' (fun q => zuI q (2 * (j - 1) + 2)) (congrArg2' (fun q => zuI q (2 * (j - 1) + 1)) (congrArg (zuI w (2 * (j - 1))) ?_) ?_) ?_) ?_
    · unfold sX sz; omega
    · unfold sY sz; omega
    · unfold sU sz; omega
    · unfold sV sz; omega
  exact ⟨rfl, kF16, by rw [← e_]; exact kh15⟩

set_option maxHeartbeats 400000 in
set_option maxRecDepth 100000 in
theorem qX10_turnsM {X : zX} (hX : X.1.stackTraces = false) {σ : zS} {y : Nat} {F : Nat → Int32} {w : Nat → Int} {j : Nat} (h0 : σ.1 y = zmO y F) (h1 : σ.1 (y + 9) = .inl (3, 10, .inr (.inl (z64 w)))) (hb : zBd 1152921504606846976 w) (h1j : 1 ≤ j) (hj4 : j ≤ 4) : zMet X mX10_turns yX10_turns 1 0 0 [.ref y, .int (nI (2 * (j - 1))), .int 0] σ (zV (fun s => zFr σ s (fun q => q = y + 9) ∧ s.1 (y + 9) = .inl (3, 10, .inr (.inl (z64 (zst (-1) j w)))))) := by
  refine zMet_of (ls := [some (.ref y), some (.int (nI (2 * (j - 1)))), some (.int 0), none, none, none, none, none, none, none, none, none, none]) rfl (by decide +kernel) rfl (fun h => by cases h) hX (Nat.le_of_ble_eq_true rfl) rfl ?_
  have hx := hb (2 * (j - 1)) (by omega)
  have hy := hb (2 * (j - 1) + 1) (by omega)
  have hu := hb (2 * (j - 1) + 2) (by omega)
  have hv := hb (2 * (j - 1) + 3) (by omega)
  refine zr_aload_n dX10_turns_0 rfl ?_
  refine zr_getM (v := .ref (y + 9)) dX10_turns_1 fX10_39 h0 rfl ?_
  refine zr_iload_n dX10_turns_4 rfl ?_
  refine zr_laload dX10_turns_5 h1 (vp_in_nI (n := 2 * (j - 1)) (by omega) (by omega)) ?_
  rw [nI_clamp (n := 2 * (j - 1)) (by omega)]
  refine zr_eql (x' := lI (w (2 * (j - 1)))) rfl ?_
  refine zr_lstore_n (ls' := [some (.ref y), some (.int (nI (2 * (j - 1)))), some (.int 0), some (.long (lI (w (2 * (j - 1))))), none, none, none, none, none, none, none, none, none]) dX10_turns_6 rfl (by decide) rfl ?_
  refine zr_aload_n dX10_turns_7 rfl ?_
  refine zr_getM (v := .ref (y + 9)) dX10_turns_8 fX10_39 h0 rfl ?_
  refine zr_iload_n dX10_turns_11 rfl ?_
  refine zr_iconst (v := 1) dX10_turns_12 (by decide) ?_
  refine zr_iadd dX10_turns_13 ?_
  refine zr_eqi (x' := nI ((2 * (j - 1)) + 1)) (nI_add (2 * (j - 1)) 1) ?_
  refine zr_laload dX10_turns_14 h1 (vp_in_nI (n := (2 * (j - 1)) + 1) (by omega) (by omega)) ?_
  rw [nI_clamp (n := (2 * (j - 1)) + 1) (by omega)]
  refine zr_eql (x' := lI (w ((2 * (j - 1)) + 1))) rfl ?_
  refine zr_lstore (ls' := [some (.ref y), some (.int (nI (2 * (j - 1)))), some (.int 0), some (.long (lI (w (2 * (j - 1))))), none, some (.long (lI (w ((2 * (j - 1)) + 1)))), none, none, none, none, none, none, none]) dX10_turns_15 (by decide) rfl ?_
  refine zr_aload_n dX10_turns_17 rfl ?_
  refine zr_getM (v := .ref (y + 9)) dX10_turns_18 fX10_39 h0 rfl ?_
  refine zr_iload_n dX10_turns_21 rfl ?_
  refine zr_iconst (v := 2) dX10_turns_22 (by decide) ?_
  refine zr_iadd dX10_turns_23 ?_
  refine zr_eqi (x' := nI ((2 * (j - 1)) + 2)) (nI_add (2 * (j - 1)) 2) ?_
  refine zr_laload dX10_turns_24 h1 (vp_in_nI (n := (2 * (j - 1)) + 2) (by omega) (by omega)) ?_
  rw [nI_clamp (n := (2 * (j - 1)) + 2) (by omega)]
  refine zr_eql (x' := lI (w ((2 * (j - 1)) + 2))) rfl ?_
  refine zr_lstore (ls' := [some (.ref y), some (.int (nI (2 * (j - 1)))), some (.int 0), some (.long (lI (w (2 * (j - 1))))), none, some (.long (lI (w ((2 * (j - 1)) + 1)))), none, some (.long (lI (w ((2 * (j - 1)) + 2)))), none, none, none, none, none]) dX10_turns_25 (by decide) rfl ?_
  refine zr_aload_n dX10_turns_27 rfl ?_
  refine zr_getM (v := .ref (y + 9)) dX10_turns_28 fX10_39 h0 rfl ?_
  refine zr_iload_n dX10_turns_31 rfl ?_
  refine zr_iconst (v := 3) dX10_turns_32 (by decide) ?_
  refine zr_iadd dX10_turns_33 ?_
  refine zr_eqi (x' := nI ((2 * (j - 1)) + 3)) (nI_add (2 * (j - 1)) 3) ?_
  refine zr_laload dX10_turns_34 h1 (vp_in_nI (n := (2 * (j - 1)) + 3) (by omega) (by omega)) ?_
  rw [nI_clamp (n := (2 * (j - 1)) + 3) (by omega)]
  refine zr_eql (x' := lI (w ((2 * (j - 1)) + 3))) rfl ?_
  refine zr_lstore (ls' := [some (.ref y), some (.int (nI (2 * (j - 1)))), some (.int 0), some (.long (lI (w (2 * (j - 1))))), none, some (.long (lI (w ((2 * (j - 1)) + 1)))), none, some (.long (lI (w ((2 * (j - 1)) + 2)))), none, some (.long (lI (w ((2 * (j - 1)) + 3)))), none, none, none]) dX10_turns_35 (by decide) rfl ?_
  refine zr_iload_n dX10_turns_37 rfl ?_
  refine zr_if_eq (tgt := 147) dX10_turns_38 (by decide) (fun c_38 => ?_) (fun c_38 => absurd (by decide) c_38)
  refine zr_lload_n dX10_turns_147 rfl ?_
  refine zr_lload dX10_turns_148 rfl ?_
  refine zr_pSl [.long (lI (w (2 * (j - 1))))] dX10_turns_150 vX10_118 (qX10_down hX (a := w ((2 * (j - 1)) + 1)) (by omega)) (by decide) (by decide) (by decide) rfl rfl (Nat.le_of_ble_eq_true rfl) rfl ?_
  refine zr_ladd dX10_turns_153 ?_
  refine zr_eql (x' := lI ((w (2 * (j - 1))) + (min (w ((2 * (j - 1)) + 1)) 0))) (lI_add _ _) ?_
  refine zr_lload dX10_turns_154 rfl ?_
  refine zr_lsub dX10_turns_156 ?_
  refine zr_eql (x' := lI (((w (2 * (j - 1))) + (min (w ((2 * (j - 1)) + 1)) 0)) - (w ((2 * (j - 1)) + 2)))) (lI_sub _ _) ?_
  refine zr_lload dX10_turns_157 rfl ?_
  refine zr_pSl [.long (lI (((w (2 * (j - 1))) + (min (w ((2 * (j - 1)) + 1)) 0)) - (w ((2 * (j - 1)) + 2))))] dX10_turns_159 vX10_122 (qX10_up hX (a := w ((2 * (j - 1)) + 3)) (by omega)) (by decide) (by decide) (by decide) rfl rfl (Nat.le_of_ble_eq_true rfl) rfl ?_
  refine zr_lsub dX10_turns_162 ?_
  refine zr_eql (x' := lI ((((w (2 * (j - 1))) + (min (w ((2 * (j - 1)) + 1)) 0)) - (w ((2 * (j - 1)) + 2))) - (max (w ((2 * (j - 1)) + 3)) 0))) (lI_sub _ _) ?_
  refine zr_lstore (ls' := [some (.ref y), some (.int (nI (2 * (j - 1)))), some (.int 0), some (.long (lI (w (2 * (j - 1))))), none, some (.long (lI (w ((2 * (j - 1)) + 1)))), none, some (.long (lI (w ((2 * (j - 1)) + 2)))), none, some (.long (lI (w ((2 * (j - 1)) + 3)))), none, some (.long (lI ((((w (2 * (j - 1))) + (min (w ((2 * (j - 1)) + 1)) 0)) - (w ((2 * (j - 1)) + 2))) - (max (w ((2 * (j - 1)) + 3)) 0)))), none]) dX10_turns_163 (by decide) rfl ?_
  refine zr_aload_n dX10_turns_165 rfl ?_
  refine zr_getM (v := .ref (y + 9)) dX10_turns_166 fX10_39 h0 rfl ?_
  refine zr_iload_n dX10_turns_169 rfl ?_
  refine zr_lload_n dX10_turns_170 rfl ?_
  refine zr_lload dX10_turns_171 rfl ?_
  refine zr_pSl [.long (lI (w (2 * (j - 1)))), .int (nI (2 * (j - 1))), .ref ((y + 9))] dX10_turns_173 vX10_122 (qX10_up hX (a := w ((2 * (j - 1)) + 1)) (by omega)) (by decide) (by decide) (by decide) rfl rfl (Nat.le_of_ble_eq_true rfl) rfl ?_
  refine zr_lsub dX10_turns_176 ?_
  refine zr_eql (x' := lI ((w (2 * (j - 1))) - (max (w ((2 * (j - 1)) + 1)) 0))) (lI_sub _ _) ?_
  refine zr_lload dX10_turns_177 rfl ?_
  refine zr_pSl [.long (lI ((w (2 * (j - 1))) - (max (w ((2 * (j - 1)) + 1)) 0))), .int (nI (2 * (j - 1))), .ref ((y + 9))] dX10_turns_179 vX10_122 (qX10_up hX (a := w ((2 * (j - 1)) + 3)) (by omega)) (by decide) (by decide) (by decide) rfl rfl (Nat.le_of_ble_eq_true rfl) rfl ?_
  refine zr_lload dX10_turns_182 rfl ?_
  refine zr_ladd dX10_turns_184 ?_
  refine zr_eql (x' := lI ((max (w ((2 * (j - 1)) + 3)) 0) + ((((w (2 * (j - 1))) + (min (w ((2 * (j - 1)) + 1)) 0)) - (w ((2 * (j - 1)) + 2))) - (max (w ((2 * (j - 1)) + 3)) 0)))) (lI_add _ _) ?_
  refine zr_pSl [.long (lI ((w (2 * (j - 1))) - (max (w ((2 * (j - 1)) + 1)) 0))), .int (nI (2 * (j - 1))), .ref ((y + 9))] dX10_turns_185 vX10_122 (qX10_up hX (a := (max (w ((2 * (j - 1)) + 3)) 0) + ((((w (2 * (j - 1))) + (min (w ((2 * (j - 1)) + 1)) 0)) - (w ((2 * (j - 1)) + 2))) - (max (w ((2 * (j - 1)) + 3)) 0))) (by omega)) (by decide) (by decide) (by decide) rfl rfl (Nat.le_of_ble_eq_true rfl) rfl ?_
  refine zr_lsub dX10_turns_188 ?_
  refine zr_eql (x' := lI (((w (2 * (j - 1))) - (max (w ((2 * (j - 1)) + 1)) 0)) - (max ((max (w ((2 * (j - 1)) + 3)) 0) + ((((w (2 * (j - 1))) + (min (w ((2 * (j - 1)) + 1)) 0)) - (w ((2 * (j - 1)) + 2))) - (max (w ((2 * (j - 1)) + 3)) 0))) 0))) (lI_sub _ _) ?_
  refine zr_lastore dX10_turns_189 h1 (vp_in_nI (n := 2 * (j - 1)) (by omega) (by omega)) ?_
  rw [nI_clamp (n := 2 * (j - 1)) (by omega)]
  rw [z64_upd]
  refine zr_sig (fun ks1 e_ks1 => ?_)
  have kh2 : ks1.1 y = zmO y F := by rw [e_ks1, zup_ne _ _ (by omega)]; exact h0
  have kh3 : ks1.1 (y + 9) = .inl (3, 10, .inr (.inl (z64 (zuI w (2 * (j - 1)) (((w (2 * (j - 1))) - (max (w ((2 * (j - 1)) + 1)) 0)) - (max ((max (w ((2 * (j - 1)) + 3)) 0) + ((((w (2 * (j - 1))) + (min (w ((2 * (j - 1)) + 1)) 0)) - (w ((2 * (j - 1)) + 2))) - (max (w ((2 * (j - 1)) + 3)) 0))) 0)))))) := by rw [e_ks1]; exact zup_at _ _ _
  have kF4 := zFr.put zFr.rf (P := (fun q => q = y + 9)) e_ks1 rfl
  refine zr_aload_n dX10_turns_190 rfl ?_
  refine zr_getM (v := .ref (y + 9)) dX10_turns_191 fX10_39 kh2 rfl ?_
  refine zr_iload_n dX10_turns_194 rfl ?_
  refine zr_iconst (v := 1) dX10_turns_195 (by decide) ?_
  refine zr_iadd dX10_turns_196 ?_
  refine zr_eqi (x' := nI ((2 * (j - 1)) + 1)) (nI_add (2 * (j - 1)) 1) ?_
  refine zr_lload dX10_turns_197 rfl ?_
  refine zr_lload dX10_turns_199 rfl ?_
  refine zr_pSl [.long (lI (w ((2 * (j - 1)) + 3))), .int (nI ((2 * (j - 1)) + 1)), .ref ((y + 9))] dX10_turns_201 vX10_118 (qX10_down hX (a := (((w (2 * (j - 1))) + (min (w ((2 * (j - 1)) + 1)) 0)) - (w ((2 * (j - 1)) + 2))) - (max (w ((2 * (j - 1)) + 3)) 0)) (by omega)) (by decide) (by decide) (by decide) rfl rfl (Nat.le_of_ble_eq_true rfl) rfl ?_
  refine zr_ladd dX10_turns_204 ?_
  refine zr_eql (x' := lI ((w ((2 * (j - 1)) + 3)) + (min ((((w (2 * (j - 1))) + (min (w ((2 * (j - 1)) + 1)) 0)) - (w ((2 * (j - 1)) + 2))) - (max (w ((2 * (j - 1)) + 3)) 0)) 0))) (lI_add _ _) ?_
  refine zr_lastore dX10_turns_205 kh3 (vp_in_nI (n := (2 * (j - 1)) + 1) (by omega) (by omega)) ?_
  rw [nI_clamp (n := (2 * (j - 1)) + 1) (by omega)]
  rw [z64_upd]
  refine zr_sig (fun ks5 e_ks5 => ?_)
  have kh6 : ks5.1 y = zmO y F := by rw [e_ks5, zup_ne _ _ (by omega)]; exact kh2
  have kh7 : ks5.1 (y + 9) = .inl (3, 10, .inr (.inl (z64 (zuI (zuI w (2 * (j - 1)) (((w (2 * (j - 1))) - (max (w ((2 * (j - 1)) + 1)) 0)) - (max ((max (w ((2 * (j - 1)) + 3)) 0) + ((((w (2 * (j - 1))) + (min (w ((2 * (j - 1)) + 1)) 0)) - (w ((2 * (j - 1)) + 2))) - (max (w ((2 * (j - 1)) + 3)) 0))) 0))) ((2 * (j - 1)) + 1) ((w ((2 * (j - 1)) + 3)) + (min ((((w (2 * (j - 1))) + (min (w ((2 * (j - 1)) + 1)) 0)) - (w ((2 * (j - 1)) + 2))) - (max (w ((2 * (j - 1)) + 3)) 0)) 0)))))) := by rw [e_ks5]; exact zup_at _ _ _
  have kF8 := zFr.put kF4 e_ks5 rfl
  refine zr_aload_n dX10_turns_206 rfl ?_
  refine zr_getM (v := .ref (y + 9)) dX10_turns_207 fX10_39 kh6 rfl ?_
  refine zr_iload_n dX10_turns_210 rfl ?_
  refine zr_iconst (v := 2) dX10_turns_211 (by decide) ?_
  refine zr_iadd dX10_turns_212 ?_
  refine zr_eqi (x' := nI ((2 * (j - 1)) + 2)) (nI_add (2 * (j - 1)) 2) ?_
  refine zr_lload dX10_turns_213 rfl ?_
  refine zr_lload dX10_turns_215 rfl ?_
  refine zr_pSl [.long (lI (w ((2 * (j - 1)) + 2))), .int (nI ((2 * (j - 1)) + 2)), .ref ((y + 9))] dX10_turns_217 vX10_118 (qX10_down hX (a := w ((2 * (j - 1)) + 3)) (by omega)) (by decide) (by decide) (by decide) rfl rfl (Nat.le_of_ble_eq_true rfl) rfl ?_
  refine zr_lsub dX10_turns_220 ?_
  refine zr_eql (x' := lI ((w ((2 * (j - 1)) + 2)) - (min (w ((2 * (j - 1)) + 3)) 0))) (lI_sub _ _) ?_
  refine zr_lload dX10_turns_221 rfl ?_
  refine zr_pSl [.long (lI ((w ((2 * (j - 1)) + 2)) - (min (w ((2 * (j - 1)) + 3)) 0))), .int (nI ((2 * (j - 1)) + 2)), .ref ((y + 9))] dX10_turns_223 vX10_118 (qX10_down hX (a := w ((2 * (j - 1)) + 1)) (by omega)) (by decide) (by decide) (by decide) rfl rfl (Nat.le_of_ble_eq_true rfl) rfl ?_
  refine zr_lload dX10_turns_226 rfl ?_
  refine zr_lsub dX10_turns_228 ?_
  refine zr_eql (x' := lI ((min (w ((2 * (j - 1)) + 1)) 0) - ((((w (2 * (j - 1))) + (min (w ((2 * (j - 1)) + 1)) 0)) - (w ((2 * (j - 1)) + 2))) - (max (w ((2 * (j - 1)) + 3)) 0)))) (lI_sub _ _) ?_
  refine zr_pSl [.long (lI ((w ((2 * (j - 1)) + 2)) - (min (w ((2 * (j - 1)) + 3)) 0))), .int (nI ((2 * (j - 1)) + 2)), .ref ((y + 9))] dX10_turns_229 vX10_118 (qX10_down hX (a := (min (w ((2 * (j - 1)) + 1)) 0) - ((((w (2 * (j - 1))) + (min (w ((2 * (j - 1)) + 1)) 0)) - (w ((2 * (j - 1)) + 2))) - (max (w ((2 * (j - 1)) + 3)) 0))) (by omega)) (by decide) (by decide) (by decide) rfl rfl (Nat.le_of_ble_eq_true rfl) rfl ?_
  refine zr_lsub dX10_turns_232 ?_
  refine zr_eql (x' := lI (((w ((2 * (j - 1)) + 2)) - (min (w ((2 * (j - 1)) + 3)) 0)) - (min ((min (w ((2 * (j - 1)) + 1)) 0) - ((((w (2 * (j - 1))) + (min (w ((2 * (j - 1)) + 1)) 0)) - (w ((2 * (j - 1)) + 2))) - (max (w ((2 * (j - 1)) + 3)) 0))) 0))) (lI_sub _ _) ?_
  refine zr_lastore dX10_turns_233 kh7 (vp_in_nI (n := (2 * (j - 1)) + 2) (by omega) (by omega)) ?_
  rw [nI_clamp (n := (2 * (j - 1)) + 2) (by omega)]
  rw [z64_upd]
  refine zr_sig (fun ks9 e_ks9 => ?_)
  have kh10 : ks9.1 y = zmO y F := by rw [e_ks9, zup_ne _ _ (by omega)]; exact kh6
  have kh11 : ks9.1 (y + 9) = .inl (3, 10, .inr (.inl (z64 (zuI (zuI (zuI w (2 * (j - 1)) (((w (2 * (j - 1))) - (max (w ((2 * (j - 1)) + 1)) 0)) - (max ((max (w ((2 * (j - 1)) + 3)) 0) + ((((w (2 * (j - 1))) + (min (w ((2 * (j - 1)) + 1)) 0)) - (w ((2 * (j - 1)) + 2))) - (max (w ((2 * (j - 1)) + 3)) 0))) 0))) ((2 * (j - 1)) + 1) ((w ((2 * (j - 1)) + 3)) + (min ((((w (2 * (j - 1))) + (min (w ((2 * (j - 1)) + 1)) 0)) - (w ((2 * (j - 1)) + 2))) - (max (w ((2 * (j - 1)) + 3)) 0)) 0))) ((2 * (j - 1)) + 2) (((w ((2 * (j - 1)) + 2)) - (min (w ((2 * (j - 1)) + 3)) 0)) - (min ((min (w ((2 * (j - 1)) + 1)) 0) - ((((w (2 * (j - 1))) + (min (w ((2 * (j - 1)) + 1)) 0)) - (w ((2 * (j - 1)) + 2))) - (max (w ((2 * (j - 1)) + 3)) 0))) 0)))))) := by rw [e_ks9]; exact zup_at _ _ _
  have kF12 := zFr.put kF8 e_ks9 rfl
  refine zr_aload_n dX10_turns_234 rfl ?_
  refine zr_getM (v := .ref (y + 9)) dX10_turns_235 fX10_39 kh10 rfl ?_
  refine zr_iload_n dX10_turns_238 rfl ?_
  refine zr_iconst (v := 3) dX10_turns_239 (by decide) ?_
  refine zr_iadd dX10_turns_240 ?_
  refine zr_eqi (x' := nI ((2 * (j - 1)) + 3)) (nI_add (2 * (j - 1)) 3) ?_
  refine zr_lload dX10_turns_241 rfl ?_
  refine zr_lload dX10_turns_243 rfl ?_
  refine zr_pSl [.long (lI (w ((2 * (j - 1)) + 1))), .int (nI ((2 * (j - 1)) + 3)), .ref ((y + 9))] dX10_turns_245 vX10_118 (qX10_down hX (a := (((w (2 * (j - 1))) + (min (w ((2 * (j - 1)) + 1)) 0)) - (w ((2 * (j - 1)) + 2))) - (max (w ((2 * (j - 1)) + 3)) 0)) (by omega)) (by decide) (by decide) (by decide) rfl rfl (Nat.le_of_ble_eq_true rfl) rfl ?_
  refine zr_lsub dX10_turns_248 ?_
  refine zr_eql (x' := lI ((w ((2 * (j - 1)) + 1)) - (min ((((w (2 * (j - 1))) + (min (w ((2 * (j - 1)) + 1)) 0)) - (w ((2 * (j - 1)) + 2))) - (max (w ((2 * (j - 1)) + 3)) 0)) 0))) (lI_sub _ _) ?_
  refine zr_lastore dX10_turns_249 kh11 (vp_in_nI (n := (2 * (j - 1)) + 3) (by omega) (by omega)) ?_
  rw [nI_clamp (n := (2 * (j - 1)) + 3) (by omega)]
  rw [z64_upd]
  refine zr_sig (fun ks13 e_ks13 => ?_)
  have kh14 : ks13.1 y = zmO y F := by rw [e_ks13, zup_ne _ _ (by omega)]; exact kh10
  have kh15 : ks13.1 (y + 9) = .inl (3, 10, .inr (.inl (z64 (zuI (zuI (zuI (zuI w (2 * (j - 1)) (((w (2 * (j - 1))) - (max (w ((2 * (j - 1)) + 1)) 0)) - (max ((max (w ((2 * (j - 1)) + 3)) 0) + ((((w (2 * (j - 1))) + (min (w ((2 * (j - 1)) + 1)) 0)) - (w ((2 * (j - 1)) + 2))) - (max (w ((2 * (j - 1)) + 3)) 0))) 0))) ((2 * (j - 1)) + 1) ((w ((2 * (j - 1)) + 3)) + (min ((((w (2 * (j - 1))) + (min (w ((2 * (j - 1)) + 1)) 0)) - (w ((2 * (j - 1)) + 2))) - (max (w ((2 * (j - 1)) + 3)) 0)) 0))) ((2 * (j - 1)) + 2) (((w ((2 * (j - 1)) + 2)) - (min (w ((2 * (j - 1)) + 3)) 0)) - (min ((min (w ((2 * (j - 1)) + 1)) 0) - ((((w (2 * (j - 1))) + (min (w ((2 * (j - 1)) + 1)) 0)) - (w ((2 * (j - 1)) + 2))) - (max (w ((2 * (j - 1)) + 3)) 0))) 0))) ((2 * (j - 1)) + 3) ((w ((2 * (j - 1)) + 1)) - (min ((((w (2 * (j - 1))) + (min (w ((2 * (j - 1)) + 1)) 0)) - (w ((2 * (j - 1)) + 2))) - (max (w ((2 * (j - 1)) + 3)) 0)) 0)))))) := by rw [e_ks13]; exact zup_at _ _ _
  have kF16 := zFr.put kF12 e_ks13 rfl
  refine zr_return dX10_turns_250 rfl ?_
  have e_ : (zuI (zuI (zuI (zuI w (2 * (j - 1)) (((w (2 * (j - 1))) - (max (w ((2 * (j - 1)) + 1)) 0)) - (max ((max (w ((2 * (j - 1)) + 3)) 0) + ((((w (2 * (j - 1))) + (min (w ((2 * (j - 1)) + 1)) 0)) - (w ((2 * (j - 1)) + 2))) - (max (w ((2 * (j - 1)) + 3)) 0))) 0))) ((2 * (j - 1)) + 1) ((w ((2 * (j - 1)) + 3)) + (min ((((w (2 * (j - 1))) + (min (w ((2 * (j - 1)) + 1)) 0)) - (w ((2 * (j - 1)) + 2))) - (max (w ((2 * (j - 1)) + 3)) 0)) 0))) ((2 * (j - 1)) + 2) (((w ((2 * (j - 1)) + 2)) - (min (w ((2 * (j - 1)) + 3)) 0)) - (min ((min (w ((2 * (j - 1)) + 1)) 0) - ((((w (2 * (j - 1))) + (min (w ((2 * (j - 1)) + 1)) 0)) - (w ((2 * (j - 1)) + 2))) - (max (w ((2 * (j - 1)) + 3)) 0))) 0))) ((2 * (j - 1)) + 3) ((w ((2 * (j - 1)) + 1)) - (min ((((w (2 * (j - 1))) + (min (w ((2 * (j - 1)) + 1)) 0)) - (w ((2 * (j - 1)) + 2))) - (max (w ((2 * (j - 1)) + 3)) 0)) 0))) = zst (-1) j w := by
    unfold zst
    refine congrArg2' (fun q => zuI q (2 * (j - 1) + 3)) (congrArg2' (fun q => zuI q (2 * (j - 1) + 2)) (congrArg2' (fun q => zuI q (2 * (j - 1) + 1)) (congrArg (zuI w (2 * (j - 1))) ?_) ?_) ?_) ?_
    · unfold sX sz; omega
    · unfold sY sz; omega
    · unfold sU sz; omega
    · unfold sV sz; omega
  exact ⟨rfl, kF16, by rw [← e_]; exact kh15⟩

theorem zi2l : ∀ i, i < 10 → (nI (i % 2)).toInt64 = lI (z0 i) := by decide +kernel
def zXy (y : Nat) (W : Nat → Int) (s : zS) : Prop := ∃ w : Nat → Int, zSm w W ∧ s.1 (y + 9) = .inl (3, 10, .inr (.inl (z64 w)))
theorem zXy.fr {y : Nat} {W : Nat → Int} {σ s : zS} {P : Nat → Prop} (h : zXy y W σ) (F : zFr σ s P) (hp : ∀ q, y + 9 ≤ q → q < y + 10 → ¬ P q) : zXy y W s := by
  obtain ⟨w, h1, h2⟩ := h
  exact ⟨w, h1, F.get (hp _ (by omega) (by omega)) h2⟩
def zXa (y : Nat) (s : zS) : Prop := ∃ w : Nat → Int, s.1 (y + 9) = .inl (3, 10, .inr (.inl (z64 w)))
theorem zXa.fr {y : Nat} {σ s : zS} {P : Nat → Prop} (h : zXa y σ) (F : zFr σ s P) (hp : ∀ q, y + 9 ≤ q → q < y + 10 → ¬ P q) : zXa y s := by
  obtain ⟨w, h2⟩ := h
  exact ⟨w, F.get (hp _ (by omega) (by omega)) h2⟩
theorem zXy.a {y : Nat} {W : Nat → Int} {s : zS} (h : zXy y W s) : zXa y s := by
  obtain ⟨w, -, h2⟩ := h
  exact ⟨w, h2⟩
theorem zP_all {f : Nat → Int32} : ∀ {n : Nat}, (∀ k, k < n → zLt (f k)) → zAll (zP f n)
  | 0, _ => fun y hy => by cases hy
  | n + 1, h => (zP_all (n := n) (fun k hk => h k (by omega))).app (zAll.one (h n (by omega)))
theorem zsl_st {l : Int32} (hl : zLt l) {j : Nat} (e : (zix l).toNatClampNeg = j) (w : Nat → Int) : (l ≤ 0 → zsl l w = zst (-1) j w) ∧ (¬ l ≤ 0 → zsl l w = zst 1 j w) := by
  unfold zsl
  rw [e]
  rcases hl with rfl | rfl | rfl | rfl | rfl | rfl | rfl | rfl <;> first | exact ⟨fun q => absurd q (by decide), fun _ => rfl⟩ | exact ⟨fun _ => rfl, fun q => absurd (by decide) q⟩
set_option maxHeartbeats 400000 in
set_option maxRecDepth 100000 in
theorem l_ms2 {X : zX} (hX : X.1.stackTraces = false) {σ : zS} {y : Nat} {F : Nat → Int32} {L : List Int32} (h0 : σ.1 y = zmO y F) (hF : F 19 = nI L.length) (hL : zWk y L σ) (hl : zAll L) (hlen : L.length ≤ 32) : ∀ (t i : Nat) (s : zS) (w : Nat → Int), i + t = L.length → (zFr σ s (fun q => q = y + 9)) → (s.1 (y + 9) = .inl (3, 10, .inr (.inl (z64 w)))) → (zSm w (zcv z0 (zP (wv L) i))) → zW X mX10_measures 2 0 0 ((zV (fun s => zFr σ s (fun q => q = y + 9) ∧ zXy y (zcv z0 L) s))) 26 [some (.ref y), some (.int (nI i))] [] s := by
  intro t
  induction t with
  | zero =>
    intro i s w hi hFr k9 hs
    obtain ⟨wk, w1, w2⟩ := id hL
    have hv := zwv_lt hl
    have k0 := zFr.get hFr (by omega) h0
    have kw := zFr.get hFr (by omega) w1
    refine zr_iload_n dX10_measures_26 rfl ?_
    refine zr_aload_n dX10_measures_27 rfl ?_
    refine zr_getM (v := .int (F 19)) dX10_measures_28 fX10_79 k0 rfl ?_
    refine zr_eqi (x' := nI L.length) (hF) ?_
    refine zr_icmp_ge (tgt := 71) dX10_measures_31 (by decide) (fun c_31 => ?_) (fun c_31 => absurd ((nI_leI (a := L.length) (b := i) (by omega) (by omega)).mpr (by omega)) c_31)
    exact zr_return dX10_measures_71 rfl (by have e1 : i = L.length := (by omega); subst e1; rw [zP_wL] at hs; exact ⟨rfl, hFr, w, hs, k9⟩)
  | succ t ih =>
    intro i s w hi hFr k9 hs
    obtain ⟨wk, w1, w2⟩ := id hL
    have hv := zwv_lt hl
    have k0 := zFr.get hFr (by omega) h0
    have kw := zFr.get hFr (by omega) w1
    obtain ⟨j, j1, j4, ej, ej2⟩ := zLt_ix (hv i (by omega))
    have hbd : zBd 1152921504606846976 w := (zBw_of hl hlen).at (M := zP (wv L) i) (N := zSl (wv L) (i + 1) (L.length - (i + 1))) (l := wv L i) (by have z := zP_split (wv L) (i := i) (n := L.length) (by omega); rw [zP_wL] at z; exact z) hs
    refine zr_iload_n dX10_measures_26 rfl ?_
    refine zr_aload_n dX10_measures_27 rfl ?_
    refine zr_getM (v := .int (F 19)) dX10_measures_28 fX10_79 k0 rfl ?_
    refine zr_eqi (x' := nI L.length) (hF) ?_
    refine zr_icmp_ge (tgt := 71) dX10_measures_31 (by decide) (fun c_31 => absurd c_31 (fun h => absurd ((nI_leI (a := L.length) (b := i) (by omega) (by omega)).mp h) (by omega))) (fun c_31 => ?_)
    refine zr_aload_n dX10_measures_34 rfl ?_
    refine zr_iconst (v := 2) dX10_measures_35 (by decide) ?_
    refine zr_aload_n dX10_measures_36 rfl ?_
    refine zr_getM (v := .ref (y + 7)) dX10_measures_37 fX10_33 k0 rfl ?_
    refine zr_iload_n dX10_measures_40 rfl ?_
    refine zr_iaload dX10_measures_41 kw (vp_in_nI (n := i) (by omega) (by omega)) ?_
    rw [nI_clamp (n := i) (by omega)]
    refine zr_eqi (x' := (wv L i)) (zWk_at w2 (by omega)) ?_
    refine zr_pSi [.int 2, .ref y] dX10_measures_42 vX10_97 (qX10_size hX (v := (wv L i))) (by decide) (by decide) (by decide) rfl rfl (Nat.le_of_ble_eq_true rfl) rfl ?_
    refine zr_eqi (x' := nI j) (ej) ?_
    refine zr_iconst (v := 1) dX10_measures_45 (by decide) ?_
    refine zr_isub dX10_measures_46 ?_
    refine zr_eqi (x' := nI (j - 1)) (pk_sub (a := j) (b := 1) (by omega)) ?_
    refine zr_imul dX10_measures_47 ?_
    refine zr_eqi (x' := nI (2 * (j - 1))) (pk_mul 2 (j - 1)) ?_
    refine zr_aload_n dX10_measures_48 rfl ?_
    refine zr_getM (v := .ref (y + 7)) dX10_measures_49 fX10_33 k0 rfl ?_
    refine zr_iload_n dX10_measures_52 rfl ?_
    refine zr_iaload dX10_measures_53 kw (vp_in_nI (n := i) (by omega) (by omega)) ?_
    rw [nI_clamp (n := i) (by omega)]
    refine zr_eqi (x' := (wv L i)) (zWk_at w2 (by omega)) ?_
    refine zr_if_le (tgt := 61) dX10_measures_54 (by decide) (fun c_54 => ?_) (fun c_54 => ?_)
    · refine zr_iconst (v := 0) dX10_measures_61 (by decide) ?_
      refine zr_callVv [] dX10_measures_62 vX10_114 (qX10_turnsM hX (w := w) (j := j) k0 k9 hbd j1 j4) k0 (by decide) (by decide) (by decide) rfl rfl (Nat.le_of_ble_eq_true rfl) (by decide) rfl (fun s1 h_ => ?_)
      obtain ⟨F1, q1⟩ := h_
      have F2 := zFr.tr hFr F1 (fun q hq => hq)
      refine zr_iinc (v := nI (i + 1)) (ls' := [some (.ref y), some (.int (nI (i + 1)))]) dX10_measures_65 rfl (nI_1 _) (by decide) rfl ?_
      refine zr_goto (tgt := 26) dX10_measures_68 (by decide) ?_
      exact ih (i + 1) _ _ (by omega) (F2) (q1) (by show zSm _ (zcv z0 (zP (wv L) i ++ [wv L i])); rw [zcv_snoc, (zsl_st (hv i (by omega)) ej2 _).1 c_54]; exact zst_sm hs ⟨j1, j4⟩)
    · refine zr_iconst (v := 1) dX10_measures_57 (by decide) ?_
      refine zr_goto (tgt := 62) dX10_measures_58 (by decide) ?_
      refine zr_callVv [] dX10_measures_62 vX10_114 (qX10_turnsP hX (w := w) (j := j) k0 k9 hbd j1 j4) k0 (by decide) (by decide) (by decide) rfl rfl (Nat.le_of_ble_eq_true rfl) (by decide) rfl (fun s1 h_ => ?_)
      obtain ⟨F1, q1⟩ := h_
      have F2 := zFr.tr hFr F1 (fun q hq => hq)
      refine zr_iinc (v := nI (i + 1)) (ls' := [some (.ref y), some (.int (nI (i + 1)))]) dX10_measures_65 rfl (nI_1 _) (by decide) rfl ?_
      refine zr_goto (tgt := 26) dX10_measures_68 (by decide) ?_
      exact ih (i + 1) _ _ (by omega) (F2) (q1) (by show zSm _ (zcv z0 (zP (wv L) i ++ [wv L i])); rw [zcv_snoc, (zsl_st (hv i (by omega)) ej2 _).2 c_54]; exact zst_sm hs ⟨j1, j4⟩)

set_option maxHeartbeats 400000 in
set_option maxRecDepth 100000 in
theorem l_ms1 {X : zX} (hX : X.1.stackTraces = false) {σ : zS} {y : Nat} {F : Nat → Int32} {L : List Int32} (h0 : σ.1 y = zmO y F) (hF : F 19 = nI L.length) (hL : zWk y L σ) (hl : zAll L) (hlen : L.length ≤ 32) : ∀ (t i : Nat) (s : zS) (w : Nat → Int), i + t = 10 → (zFr σ s (fun q => q = y + 9)) → (s.1 (y + 9) = .inl (3, 10, .inr (.inl (z64 w)))) → (∀ t, t < i → w t = z0 t) → zW X mX10_measures 2 0 0 ((zV (fun s => zFr σ s (fun q => q = y + 9) ∧ zXy y (zcv z0 L) s))) 2 [some (.ref y), some (.int (nI i))] [] s := by
  intro t
  induction t with
  | zero =>
    intro i s w hi hFr k9 hs
    have k0 := zFr.get hFr (by omega) h0
    refine zr_iload_n dX10_measures_2 rfl ?_
    refine zr_bipush (v := 10) dX10_measures_3 (by decide) ?_
    refine zr_icmp_ge (tgt := 24) dX10_measures_5 (by decide) (fun c_5 => ?_) (fun c_5 => absurd ((nI_leI (a := 10) (b := i) (by omega) (by omega)).mpr (by omega)) c_5)
    refine zr_iconst (v := 0) dX10_measures_24 (by decide) ?_
    refine zr_istore_n (ls' := [some (.ref y), some (.int 0)]) dX10_measures_25 rfl (by decide) rfl ?_
    exact l_ms2 hX h0 hF hL hl hlen L.length 0 _ w (by omega) hFr k9 (fun k hk => hs k (by omega))
  | succ t ih =>
    intro i s w hi hFr k9 hs
    have k0 := zFr.get hFr (by omega) h0
    refine zr_iload_n dX10_measures_2 rfl ?_
    refine zr_bipush (v := 10) dX10_measures_3 (by decide) ?_
    refine zr_icmp_ge (tgt := 24) dX10_measures_5 (by decide) (fun c_5 => absurd c_5 (fun h => absurd ((nI_leI (a := 10) (b := i) (by omega) (by omega)).mp h) (by omega))) (fun c_5 => ?_)
    refine zr_aload_n dX10_measures_8 rfl ?_
    refine zr_getM (v := .ref (y + 9)) dX10_measures_9 fX10_39 k0 rfl ?_
    refine zr_iload_n dX10_measures_12 rfl ?_
    refine zr_iload_n dX10_measures_13 rfl ?_
    refine zr_iconst (v := 2) dX10_measures_14 (by decide) ?_
    refine zr_irem dX10_measures_15 (by decide) ?_
    refine zr_eqi (x' := nI (i % 2)) (pk_rem (a := i) (d := 2) (by omega) (by omega) (by omega)) ?_
    refine zr_i2l dX10_measures_16 ?_
    refine zr_eql (x' := lI (z0 i)) (zi2l i (by omega)) ?_
    refine zr_lastore dX10_measures_17 k9 (vp_in_nI (n := i) (by omega) (by omega)) ?_
    rw [nI_clamp (n := i) (by omega)]
    rw [z64_upd]
    refine zr_sig (fun ks1 e_ks1 => ?_)
    have kh2 : ks1.1 y = zmO y F := by rw [e_ks1, zup_ne _ _ (by omega)]; exact k0
    have kh3 : ks1.1 (y + 9) = .inl (3, 10, .inr (.inl (z64 (zuI w i (z0 i))))) := by rw [e_ks1]; exact zup_at _ _ _
    have kF4 := zFr.put hFr e_ks1 rfl
    refine zr_iinc (v := nI (i + 1)) (ls' := [some (.ref y), some (.int (nI (i + 1)))]) dX10_measures_18 rfl (nI_1 _) (by decide) rfl ?_
    refine zr_goto (tgt := 2) dX10_measures_21 (by decide) ?_
    exact ih (i + 1) _ _ (by omega) (kF4) (kh3) (fun t ht => by simp only [zuI]; split; (rename_i e7; rw [e7]); exact hs t (by omega))

set_option maxHeartbeats 400000 in
set_option maxRecDepth 100000 in
theorem qX10_measures {X : zX} (hX : X.1.stackTraces = false) {σ : zS} {y : Nat} {F : Nat → Int32} {L : List Int32} (h0 : σ.1 y = zmO y F) (hF : F 19 = nI L.length) (hL : zWk y L σ) (hl : zAll L) (hlen : L.length ≤ 32) (hX9 : zXa y σ) : zMet X mX10_measures yX10_measures 2 0 0 [.ref y] σ (zV (fun s => zFr σ s (fun q => q = y + 9) ∧ zXy y (zcv z0 L) s)) := by
  refine zMet_of (ls := [some (.ref y), none]) rfl (by decide +kernel) rfl (fun h => by cases h) hX (Nat.le_of_ble_eq_true rfl) rfl ?_
  refine zr_iconst (v := 0) dX10_measures_0 (by decide) ?_
  refine zr_istore_n (ls' := [some (.ref y), some (.int 0)]) dX10_measures_1 rfl (by decide) rfl ?_
  obtain ⟨w, k9⟩ := hX9; exact l_ms1 hX h0 hF hL hl hlen 10 0 _ w (by omega) zFr.rf k9 (fun t ht => absurd ht (by omega))

set_option maxHeartbeats 400000 in
set_option maxRecDepth 100000 in
theorem qX10_signMeasured {X : zX} (hX : X.1.stackTraces = false) {σ : zS} {y : Nat} {F : Nat → Int32} {L : List Int32} (h0 : σ.1 y = zmO y F) (hF : F 19 = nI L.length) (hL : zWk y L σ) (hl : zAll L) (hlen : L.length ≤ 32) (hX9 : zXa y σ) : zMet X mX10_signMeasured yX10_signMeasured 3 0 0 [.ref y] σ (zI (fun y_ s => y_ = zsf (zcv z0 L) ∧ zFr σ s (fun q => q = y + 9) ∧ zXa y s)) := by
  refine zMet_of (ls := [some (.ref y), none]) rfl (by decide +kernel) rfl (fun h => by cases h) hX (Nat.le_of_ble_eq_true rfl) rfl ?_
  refine zr_aload_n dX10_signMeasured_0 rfl ?_
  refine zr_callVv [] dX10_signMeasured_1 vX10_125 (qX10_measures hX h0 hF hL hl hlen hX9) h0 (by decide) (by decide) (by decide) rfl rfl (Nat.le_of_ble_eq_true rfl) (by decide) rfl (fun s_kr1 h_kr1 => ?_)
  obtain ⟨F_kr1, r0_kr1⟩ := h_kr1
  have kh2 : s_kr1.1 y = zmO y F := zFr.get F_kr1 (by omega) h0
  have kR3 : zWk y L s_kr1 := zWk.fr hL F_kr1 (by intro q h1 h2 h3; (try simp only [zIn, zJf] at h3); omega)
  have kF4 := zFr.tr zFr.rf (P := (fun q => q = y + 9)) F_kr1 (by intro q hq; omega)
  obtain ⟨w, hs, x9⟩ := id r0_kr1
  have hb : zBd 4611686018427387904 w := fun k hk => by rw [hs k hk]; exact zB62 hl hlen k hk
  refine zr_iconst (v := 0) dX10_signMeasured_4 (by decide) ?_
  refine zr_istore_n (ls' := [some (.ref y), some (.int 0)]) dX10_signMeasured_5 rfl (by decide) rfl ?_
  refine zr_iload_n dX10_signMeasured_6 rfl ?_
  refine zr_bipush (v := 10) dX10_signMeasured_7 (by decide) ?_
  refine zr_icmp_ge (tgt := 46) dX10_signMeasured_9 (by decide) (fun c_9 => absurd c_9 (by decide)) (fun c_9 => ?_)
  refine zr_aload_n dX10_signMeasured_12 rfl ?_
  refine zr_getM (v := .ref (y + 9)) dX10_signMeasured_13 fX10_39 kh2 rfl ?_
  refine zr_iload_n dX10_signMeasured_16 rfl ?_
  refine zr_laload dX10_signMeasured_17 x9 (vp_in_nI (n := 0) (by omega) (by omega)) ?_
  rw [show (0 : Int32).toNatClampNeg = 0 from by decide]
  refine zr_eql (x' := lI (w 0)) rfl ?_
  refine zr_lconst (v := lI 0) dX10_signMeasured_18 (by decide) ?_
  refine zr_lcmp dX10_signMeasured_19 ?_
  refine zr_if_eq (tgt := 40) dX10_signMeasured_20 (by decide) (fun c_20 => ?_) (fun c_20 => ?_)
  · have d0 : w 0 = 0 := (lI_z (hb 0 (by decide))).mp (zcmp_eq.mp c_20)
    refine zr_iinc (v := 2) (ls' := [some (.ref y), some (.int 2)]) dX10_signMeasured_40 rfl (by decide) (by decide) rfl ?_
    refine zr_goto (tgt := 6) dX10_signMeasured_43 (by decide) ?_
    refine zr_iload_n dX10_signMeasured_6 rfl ?_
    refine zr_bipush (v := 10) dX10_signMeasured_7 (by decide) ?_
    refine zr_icmp_ge (tgt := 46) dX10_signMeasured_9 (by decide) (fun c_9 => absurd c_9 (by decide)) (fun c_9 => ?_)
    refine zr_aload_n dX10_signMeasured_12 rfl ?_
    refine zr_getM (v := .ref (y + 9)) dX10_signMeasured_13 fX10_39 kh2 rfl ?_
    refine zr_iload_n dX10_signMeasured_16 rfl ?_
    refine zr_laload dX10_signMeasured_17 x9 (vp_in_nI (n := 2) (by omega) (by omega)) ?_
    rw [show (2 : Int32).toNatClampNeg = 2 from by decide]
    refine zr_eql (x' := lI (w 2)) rfl ?_
    refine zr_lconst (v := lI 0) dX10_signMeasured_18 (by decide) ?_
    refine zr_lcmp dX10_signMeasured_19 ?_
    refine zr_if_eq (tgt := 40) dX10_signMeasured_20 (by decide) (fun c_20 => ?_) (fun c_20 => ?_)
    · have d2 : w 2 = 0 := (lI_z (hb 2 (by decide))).mp (zcmp_eq.mp c_20)
      refine zr_iinc (v := 4) (ls' := [some (.ref y), some (.int 4)]) dX10_signMeasured_40 rfl (by decide) (by decide) rfl ?_
      refine zr_goto (tgt := 6) dX10_signMeasured_43 (by decide) ?_
      refine zr_iload_n dX10_signMeasured_6 rfl ?_
      refine zr_bipush (v := 10) dX10_signMeasured_7 (by decide) ?_
      refine zr_icmp_ge (tgt := 46) dX10_signMeasured_9 (by decide) (fun c_9 => absurd c_9 (by decide)) (fun c_9 => ?_)
      refine zr_aload_n dX10_signMeasured_12 rfl ?_
      refine zr_getM (v := .ref (y + 9)) dX10_signMeasured_13 fX10_39 kh2 rfl ?_
      refine zr_iload_n dX10_signMeasured_16 rfl ?_
      refine zr_laload dX10_signMeasured_17 x9 (vp_in_nI (n := 4) (by omega) (by omega)) ?_
      rw [show (4 : Int32).toNatClampNeg = 4 from by decide]
      refine zr_eql (x' := lI (w 4)) rfl ?_
      refine zr_lconst (v := lI 0) dX10_signMeasured_18 (by decide) ?_
      refine zr_lcmp dX10_signMeasured_19 ?_
      refine zr_if_eq (tgt := 40) dX10_signMeasured_20 (by decide) (fun c_20 => ?_) (fun c_20 => ?_)
      · have d4 : w 4 = 0 := (lI_z (hb 4 (by decide))).mp (zcmp_eq.mp c_20)
        refine zr_iinc (v := 6) (ls' := [some (.ref y), some (.int 6)]) dX10_signMeasured_40 rfl (by decide) (by decide) rfl ?_
        refine zr_goto (tgt := 6) dX10_signMeasured_43 (by decide) ?_
        refine zr_iload_n dX10_signMeasured_6 rfl ?_
        refine zr_bipush (v := 10) dX10_signMeasured_7 (by decide) ?_
        refine zr_icmp_ge (tgt := 46) dX10_signMeasured_9 (by decide) (fun c_9 => absurd c_9 (by decide)) (fun c_9 => ?_)
        refine zr_aload_n dX10_signMeasured_12 rfl ?_
        refine zr_getM (v := .ref (y + 9)) dX10_signMeasured_13 fX10_39 kh2 rfl ?_
        refine zr_iload_n dX10_signMeasured_16 rfl ?_
        refine zr_laload dX10_signMeasured_17 x9 (vp_in_nI (n := 6) (by omega) (by omega)) ?_
        rw [show (6 : Int32).toNatClampNeg = 6 from by decide]
        refine zr_eql (x' := lI (w 6)) rfl ?_
        refine zr_lconst (v := lI 0) dX10_signMeasured_18 (by decide) ?_
        refine zr_lcmp dX10_signMeasured_19 ?_
        refine zr_if_eq (tgt := 40) dX10_signMeasured_20 (by decide) (fun c_20 => ?_) (fun c_20 => ?_)
        · have d6 : w 6 = 0 := (lI_z (hb 6 (by decide))).mp (zcmp_eq.mp c_20)
          refine zr_iinc (v := 8) (ls' := [some (.ref y), some (.int 8)]) dX10_signMeasured_40 rfl (by decide) (by decide) rfl ?_
          refine zr_goto (tgt := 6) dX10_signMeasured_43 (by decide) ?_
          refine zr_iload_n dX10_signMeasured_6 rfl ?_
          refine zr_bipush (v := 10) dX10_signMeasured_7 (by decide) ?_
          refine zr_icmp_ge (tgt := 46) dX10_signMeasured_9 (by decide) (fun c_9 => absurd c_9 (by decide)) (fun c_9 => ?_)
          refine zr_aload_n dX10_signMeasured_12 rfl ?_
          refine zr_getM (v := .ref (y + 9)) dX10_signMeasured_13 fX10_39 kh2 rfl ?_
          refine zr_iload_n dX10_signMeasured_16 rfl ?_
          refine zr_laload dX10_signMeasured_17 x9 (vp_in_nI (n := 8) (by omega) (by omega)) ?_
          rw [show (8 : Int32).toNatClampNeg = 8 from by decide]
          refine zr_eql (x' := lI (w 8)) rfl ?_
          refine zr_lconst (v := lI 0) dX10_signMeasured_18 (by decide) ?_
          refine zr_lcmp dX10_signMeasured_19 ?_
          refine zr_if_eq (tgt := 40) dX10_signMeasured_20 (by decide) (fun c_20 => ?_) (fun c_20 => ?_)
          · have d8 : w 8 = 0 := (lI_z (hb 8 (by decide))).mp (zcmp_eq.mp c_20)
            refine zr_iinc (v := 10) (ls' := [some (.ref y), some (.int 10)]) dX10_signMeasured_40 rfl (by decide) (by decide) rfl ?_
            refine zr_goto (tgt := 6) dX10_signMeasured_43 (by decide) ?_
            refine zr_iload_n dX10_signMeasured_6 rfl ?_
            refine zr_bipush (v := 10) dX10_signMeasured_7 (by decide) ?_
            refine zr_icmp_ge (tgt := 46) dX10_signMeasured_9 (by decide) (fun c_9 => ?_) (fun c_9 => absurd (by decide) c_9)
            refine zr_iconst (v := 0) dX10_signMeasured_46 (by decide) ?_
            exact zr_ireturn dX10_signMeasured_47 rfl (rfl) (⟨_, rfl, by rw [← zsf_sm hs]; unfold zsf; rw [if_pos d0, if_pos d2, if_pos d4, if_pos d6, if_pos d8], kF4, ⟨w, x9⟩⟩)
          · have d8 : ¬ w 8 = 0 := fun q => c_20 (zcmp_eq.mpr ((lI_z (hb 8 (by decide))).mpr q))
            refine zr_aload_n dX10_signMeasured_23 rfl ?_
            refine zr_getM (v := .ref (y + 9)) dX10_signMeasured_24 fX10_39 kh2 rfl ?_
            refine zr_iload_n dX10_signMeasured_27 rfl ?_
            refine zr_laload dX10_signMeasured_28 x9 (vp_in_nI (n := 8) (by omega) (by omega)) ?_
            rw [show (8 : Int32).toNatClampNeg = 8 from by decide]
            refine zr_eql (x' := lI (w 8)) rfl ?_
            refine zr_lconst (v := lI 0) dX10_signMeasured_29 (by decide) ?_
            refine zr_lcmp dX10_signMeasured_30 ?_
            refine zr_if_le (tgt := 38) dX10_signMeasured_31 (by decide) (fun c_31 => ?_) (fun c_31 => ?_)
            · refine zr_iconst (v := -1) dX10_signMeasured_38 (by decide) ?_
              exact zr_ireturn dX10_signMeasured_39 rfl (rfl) (⟨_, rfl, by rw [← zsf_sm hs]; unfold zsf; rw [if_pos d0, if_pos d2, if_pos d4, if_pos d6, if_neg d8]; unfold zsI; rw [if_neg d8, if_neg (fun q => Int32.not_lt.mpr c_31 (zcmp_gt.mpr ((lI_lt (a := 0) (by omega) (by have := hb 8 (by decide); omega)).mpr q)))], kF4, ⟨w, x9⟩⟩)
            · refine zr_iconst (v := 1) dX10_signMeasured_34 (by decide) ?_
              refine zr_goto (tgt := 39) dX10_signMeasured_35 (by decide) ?_
              exact zr_ireturn dX10_signMeasured_39 rfl (rfl) (⟨_, rfl, by rw [← zsf_sm hs]; unfold zsf; rw [if_pos d0, if_pos d2, if_pos d4, if_pos d6, if_neg d8]; unfold zsI; rw [if_neg d8, if_pos ((lI_lt (a := 0) (by omega) (by have := hb 8 (by decide); omega)).mp (zcmp_gt.mp (Int32.not_le.mp c_31)))], kF4, ⟨w, x9⟩⟩)
        · have d6 : ¬ w 6 = 0 := fun q => c_20 (zcmp_eq.mpr ((lI_z (hb 6 (by decide))).mpr q))
          refine zr_aload_n dX10_signMeasured_23 rfl ?_
          refine zr_getM (v := .ref (y + 9)) dX10_signMeasured_24 fX10_39 kh2 rfl ?_
          refine zr_iload_n dX10_signMeasured_27 rfl ?_
          refine zr_laload dX10_signMeasured_28 x9 (vp_in_nI (n := 6) (by omega) (by omega)) ?_
          rw [show (6 : Int32).toNatClampNeg = 6 from by decide]
          refine zr_eql (x' := lI (w 6)) rfl ?_
          refine zr_lconst (v := lI 0) dX10_signMeasured_29 (by decide) ?_
          refine zr_lcmp dX10_signMeasured_30 ?_
          refine zr_if_le (tgt := 38) dX10_signMeasured_31 (by decide) (fun c_31 => ?_) (fun c_31 => ?_)
          · refine zr_iconst (v := -1) dX10_signMeasured_38 (by decide) ?_
            exact zr_ireturn dX10_signMeasured_39 rfl (rfl) (⟨_, rfl, by rw [← zsf_sm hs]; unfold zsf; rw [if_pos d0, if_pos d2, if_pos d4, if_neg d6]; unfold zsI; rw [if_neg d6, if_neg (fun q => Int32.not_lt.mpr c_31 (zcmp_gt.mpr ((lI_lt (a := 0) (by omega) (by have := hb 6 (by decide); omega)).mpr q)))], kF4, ⟨w, x9⟩⟩)
          · refine zr_iconst (v := 1) dX10_signMeasured_34 (by decide) ?_
            refine zr_goto (tgt := 39) dX10_signMeasured_35 (by decide) ?_
            exact zr_ireturn dX10_signMeasured_39 rfl (rfl) (⟨_, rfl, by rw [← zsf_sm hs]; unfold zsf; rw [if_pos d0, if_pos d2, if_pos d4, if_neg d6]; unfold zsI; rw [if_neg d6, if_pos ((lI_lt (a := 0) (by omega) (by have := hb 6 (by decide); omega)).mp (zcmp_gt.mp (Int32.not_le.mp c_31)))], kF4, ⟨w, x9⟩⟩)
      · have d4 : ¬ w 4 = 0 := fun q => c_20 (zcmp_eq.mpr ((lI_z (hb 4 (by decide))).mpr q))
        refine zr_aload_n dX10_signMeasured_23 rfl ?_
        refine zr_getM (v := .ref (y + 9)) dX10_signMeasured_24 fX10_39 kh2 rfl ?_
        refine zr_iload_n dX10_signMeasured_27 rfl ?_
        refine zr_laload dX10_signMeasured_28 x9 (vp_in_nI (n := 4) (by omega) (by omega)) ?_
        rw [show (4 : Int32).toNatClampNeg = 4 from by decide]
        refine zr_eql (x' := lI (w 4)) rfl ?_
        refine zr_lconst (v := lI 0) dX10_signMeasured_29 (by decide) ?_
        refine zr_lcmp dX10_signMeasured_30 ?_
        refine zr_if_le (tgt := 38) dX10_signMeasured_31 (by decide) (fun c_31 => ?_) (fun c_31 => ?_)
        · refine zr_iconst (v := -1) dX10_signMeasured_38 (by decide) ?_
          exact zr_ireturn dX10_signMeasured_39 rfl (rfl) (⟨_, rfl, by rw [← zsf_sm hs]; unfold zsf; rw [if_pos d0, if_pos d2, if_neg d4]; unfold zsI; rw [if_neg d4, if_neg (fun q => Int32.not_lt.mpr c_31 (zcmp_gt.mpr ((lI_lt (a := 0) (by omega) (by have := hb 4 (by decide); omega)).mpr q)))], kF4, ⟨w, x9⟩⟩)
        · refine zr_iconst (v := 1) dX10_signMeasured_34 (by decide) ?_
          refine zr_goto (tgt := 39) dX10_signMeasured_35 (by decide) ?_
          exact zr_ireturn dX10_signMeasured_39 rfl (rfl) (⟨_, rfl, by rw [← zsf_sm hs]; unfold zsf; rw [if_pos d0, if_pos d2, if_neg d4]; unfold zsI; rw [if_neg d4, if_pos ((lI_lt (a := 0) (by omega) (by have := hb 4 (by decide); omega)).mp (zcmp_gt.mp (Int32.not_le.mp c_31)))], kF4, ⟨w, x9⟩⟩)
    · have d2 : ¬ w 2 = 0 := fun q => c_20 (zcmp_eq.mpr ((lI_z (hb 2 (by decide))).mpr q))
      refine zr_aload_n dX10_signMeasured_23 rfl ?_
      refine zr_getM (v := .ref (y + 9)) dX10_signMeasured_24 fX10_39 kh2 rfl ?_
      refine zr_iload_n dX10_signMeasured_27 rfl ?_
      refine zr_laload dX10_signMeasured_28 x9 (vp_in_nI (n := 2) (by omega) (by omega)) ?_
      rw [show (2 : Int32).toNatClampNeg = 2 from by decide]
      refine zr_eql (x' := lI (w 2)) rfl ?_
      refine zr_lconst (v := lI 0) dX10_signMeasured_29 (by decide) ?_
      refine zr_lcmp dX10_signMeasured_30 ?_
      refine zr_if_le (tgt := 38) dX10_signMeasured_31 (by decide) (fun c_31 => ?_) (fun c_31 => ?_)
      · refine zr_iconst (v := -1) dX10_signMeasured_38 (by decide) ?_
        exact zr_ireturn dX10_signMeasured_39 rfl (rfl) (⟨_, rfl, by rw [← zsf_sm hs]; unfold zsf; rw [if_pos d0, if_neg d2]; unfold zsI; rw [if_neg d2, if_neg (fun q => Int32.not_lt.mpr c_31 (zcmp_gt.mpr ((lI_lt (a := 0) (by omega) (by have := hb 2 (by decide); omega)).mpr q)))], kF4, ⟨w, x9⟩⟩)
      · refine zr_iconst (v := 1) dX10_signMeasured_34 (by decide) ?_
        refine zr_goto (tgt := 39) dX10_signMeasured_35 (by decide) ?_
        exact zr_ireturn dX10_signMeasured_39 rfl (rfl) (⟨_, rfl, by rw [← zsf_sm hs]; unfold zsf; rw [if_pos d0, if_neg d2]; unfold zsI; rw [if_neg d2, if_pos ((lI_lt (a := 0) (by omega) (by have := hb 2 (by decide); omega)).mp (zcmp_gt.mp (Int32.not_le.mp c_31)))], kF4, ⟨w, x9⟩⟩)
  · have d0 : ¬ w 0 = 0 := fun q => c_20 (zcmp_eq.mpr ((lI_z (hb 0 (by decide))).mpr q))
    refine zr_aload_n dX10_signMeasured_23 rfl ?_
    refine zr_getM (v := .ref (y + 9)) dX10_signMeasured_24 fX10_39 kh2 rfl ?_
    refine zr_iload_n dX10_signMeasured_27 rfl ?_
    refine zr_laload dX10_signMeasured_28 x9 (vp_in_nI (n := 0) (by omega) (by omega)) ?_
    rw [show (0 : Int32).toNatClampNeg = 0 from by decide]
    refine zr_eql (x' := lI (w 0)) rfl ?_
    refine zr_lconst (v := lI 0) dX10_signMeasured_29 (by decide) ?_
    refine zr_lcmp dX10_signMeasured_30 ?_
    refine zr_if_le (tgt := 38) dX10_signMeasured_31 (by decide) (fun c_31 => ?_) (fun c_31 => ?_)
    · refine zr_iconst (v := -1) dX10_signMeasured_38 (by decide) ?_
      exact zr_ireturn dX10_signMeasured_39 rfl (rfl) (⟨_, rfl, by rw [← zsf_sm hs]; unfold zsf; rw [if_neg d0]; unfold zsI; rw [if_neg d0, if_neg (fun q => Int32.not_lt.mpr c_31 (zcmp_gt.mpr ((lI_lt (a := 0) (by omega) (by have := hb 0 (by decide); omega)).mpr q)))], kF4, ⟨w, x9⟩⟩)
    · refine zr_iconst (v := 1) dX10_signMeasured_34 (by decide) ?_
      refine zr_goto (tgt := 39) dX10_signMeasured_35 (by decide) ?_
      exact zr_ireturn dX10_signMeasured_39 rfl (rfl) (⟨_, rfl, by rw [← zsf_sm hs]; unfold zsf; rw [if_neg d0]; unfold zsI; rw [if_neg d0, if_pos ((lI_lt (a := 0) (by omega) (by have := hb 0 (by decide); omega)).mp (zcmp_gt.mp (Int32.not_le.mp c_31)))], kF4, ⟨w, x9⟩⟩)

def zOt (y : Nat) (W : Nat → Int) (s : zS) : Prop := ∃ w : Nat → Int, zSm w W ∧ s.1 (y + 10) = .inl (3, 10, .inr (.inl (z64 w)))
theorem zOt.fr {y : Nat} {W : Nat → Int} {σ s : zS} {P : Nat → Prop} (h : zOt y W σ) (F : zFr σ s P) (hp : ∀ q, y + 10 ≤ q → q < y + 11 → ¬ P q) : zOt y W s := by
  obtain ⟨w, h1, h2⟩ := h
  exact ⟨w, h1, F.get (hp _ (by omega) (by omega)) h2⟩
def zOa (y : Nat) (s : zS) : Prop := ∃ w : Nat → Int, s.1 (y + 10) = .inl (3, 10, .inr (.inl (z64 w)))
theorem zOa.fr {y : Nat} {σ s : zS} {P : Nat → Prop} (h : zOa y σ) (F : zFr σ s P) (hp : ∀ q, y + 10 ≤ q → q < y + 11 → ¬ P q) : zOa y s := by
  obtain ⟨w, h2⟩ := h
  exact ⟨w, F.get (hp _ (by omega) (by omega)) h2⟩
theorem zOt.a {y : Nat} {W : Nat → Int} {s : zS} (h : zOt y W s) : zOa y s := by
  obtain ⟨w, -, h2⟩ := h
  exact ⟨w, h2⟩
theorem z64_at (w : Nat → Int) (k : Nat) : z64 w k = lI (w k) := rfl
set_option maxHeartbeats 400000 in
set_option maxRecDepth 100000 in
theorem l_as1 {X : zX} (hX : X.1.stackTraces = false) {σ : zS} {y : Nat} {F : Nat → Int32} {W : Nat → Int} {a b : Nat} (h0 : σ.1 y = zmO y F) (hx : zXy y W σ) {Q : zO → zS → Prop} (kk : ∀ s, zFr σ s (fun q => q = y + 10) → zOt y W s → zW X mX10_areSame 3 0 0 Q 35 [some (.ref y), some (.int (nI a)), some (.int (nI b)), some (.int 10)] [] s) : ∀ (t i : Nat) (s : zS) (v : Nat → Int), i + t = 10 → (zFr σ s (fun q => q = y + 10)) → (s.1 (y + 10) = .inl (3, 10, .inr (.inl (z64 v)))) → (∀ t, t < i → v t = W t) → zW X mX10_areSame 3 0 0 (Q) 11 [some (.ref y), some (.int (nI a)), some (.int (nI b)), some (.int (nI i))] [] s := by
  intro t
  induction t with
  | zero =>
    intro i s v hi hFr k10 hz
    obtain ⟨w, hs, x9⟩ := id hx
    have k0 := zFr.get hFr (by omega) h0
    have k9 := zFr.get hFr (by omega) x9
    refine zr_iload_n dX10_areSame_11 rfl ?_
    refine zr_bipush (v := 10) dX10_areSame_12 (by decide) ?_
    refine zr_icmp_ge (tgt := 35) dX10_areSame_14 (by decide) (fun c_14 => ?_) (fun c_14 => absurd ((nI_leI (a := 10) (b := i) (by omega) (by omega)).mpr (by omega)) c_14)
    have e1 : i = 10 := (by omega); subst e1; exact kk s hFr ⟨v, hz, k10⟩
  | succ t ih =>
    intro i s v hi hFr k10 hz
    obtain ⟨w, hs, x9⟩ := id hx
    have k0 := zFr.get hFr (by omega) h0
    have k9 := zFr.get hFr (by omega) x9
    refine zr_iload_n dX10_areSame_11 rfl ?_
    refine zr_bipush (v := 10) dX10_areSame_12 (by decide) ?_
    refine zr_icmp_ge (tgt := 35) dX10_areSame_14 (by decide) (fun c_14 => absurd c_14 (fun h => absurd ((nI_leI (a := 10) (b := i) (by omega) (by omega)).mp h) (by omega))) (fun c_14 => ?_)
    refine zr_aload_n dX10_areSame_17 rfl ?_
    refine zr_getM (v := .ref (y + 10)) dX10_areSame_18 fX10_43 k0 rfl ?_
    refine zr_iload_n dX10_areSame_21 rfl ?_
    refine zr_aload_n dX10_areSame_22 rfl ?_
    refine zr_getM (v := .ref (y + 9)) dX10_areSame_23 fX10_39 k0 rfl ?_
    refine zr_iload_n dX10_areSame_26 rfl ?_
    refine zr_laload dX10_areSame_27 k9 (vp_in_nI (n := i) (by omega) (by omega)) ?_
    rw [nI_clamp (n := i) (by omega)]
    refine zr_eql (x' := lI (w i)) rfl ?_
    refine zr_lastore dX10_areSame_28 k10 (vp_in_nI (n := i) (by omega) (by omega)) ?_
    rw [nI_clamp (n := i) (by omega)]
    rw [z64_upd]
    refine zr_sig (fun ks1 e_ks1 => ?_)
    have kh2 : ks1.1 y = zmO y F := by rw [e_ks1, zup_ne _ _ (by omega)]; exact k0
    have kh3 : ks1.1 (y + 9) = .inl (3, 10, .inr (.inl (z64 w))) := by rw [e_ks1, zup_ne _ _ (by omega)]; exact k9
    have kh4 : ks1.1 (y + 10) = .inl (3, 10, .inr (.inl (z64 (zuI v i (w i))))) := by rw [e_ks1]; exact zup_at _ _ _
    have kF5 := zFr.put hFr e_ks1 rfl
    refine zr_iinc (v := nI (i + 1)) (ls' := [some (.ref y), some (.int (nI a)), some (.int (nI b)), some (.int (nI (i + 1)))]) dX10_areSame_29 rfl (nI_1 _) (by decide) rfl ?_
    refine zr_goto (tgt := 11) dX10_areSame_32 (by decide) ?_
    exact ih (i + 1) _ _ (by omega) (kF5) (kh4) (fun t ht => by simp only [zuI]; split; (rename_i e7; rw [e7]; exact hs i (by omega)); exact hz t (by omega))

set_option maxHeartbeats 400000 in
set_option maxRecDepth 100000 in
theorem l_as2 {X : zX} (hX : X.1.stackTraces = false) {σ : zS} {y : Nat} {F : Nat → Int32} {W V : Nat → Int} {a b : Nat} (h0 : σ.1 y = zmO y F) (hx : zXy y V σ) (ho : zOt y W σ) (hbw : zBd 4611686018427387904 W) (hbv : zBd 4611686018427387904 V) : ∀ (t i : Nat) , i + t = 10 → (∀ k, k < i → W k = V k) → zW X mX10_areSame 3 0 0 ((zI (fun y_ s_ => y_ = (if zSmb W V = true then 1 else 0) ∧ s_ = σ))) 46 [some (.ref y), some (.int (nI a)), some (.int (nI b)), some (.int (nI i))] [] σ := by
  intro t
  induction t with
  | zero =>
    intro i  hi hz
    obtain ⟨v, hv, x9⟩ := id hx
    obtain ⟨w, hw, x10⟩ := id ho
    have bw : zBd 4611686018427387904 w := fun k hk => by rw [hw k hk]; exact hbw k hk
    have bv : zBd 4611686018427387904 v := fun k hk => by rw [hv k hk]; exact hbv k hk
    refine zr_iload_n dX10_areSame_46 rfl ?_
    refine zr_bipush (v := 10) dX10_areSame_47 (by decide) ?_
    refine zr_icmp_ge (tgt := 76) dX10_areSame_49 (by decide) (fun c_49 => ?_) (fun c_49 => absurd ((nI_leI (a := 10) (b := i) (by omega) (by omega)).mpr (by omega)) c_49)
    refine zr_iconst (v := 1) dX10_areSame_76 (by decide) ?_
    exact zr_ireturn dX10_areSame_77 rfl (rfl) (⟨_, rfl, (if_pos (zSmb_iff.mpr (fun k hk => hz k (by omega)))).symm, rfl⟩)
  | succ t ih =>
    intro i  hi hz
    obtain ⟨v, hv, x9⟩ := id hx
    obtain ⟨w, hw, x10⟩ := id ho
    have bw : zBd 4611686018427387904 w := fun k hk => by rw [hw k hk]; exact hbw k hk
    have bv : zBd 4611686018427387904 v := fun k hk => by rw [hv k hk]; exact hbv k hk
    refine zr_iload_n dX10_areSame_46 rfl ?_
    refine zr_bipush (v := 10) dX10_areSame_47 (by decide) ?_
    refine zr_icmp_ge (tgt := 76) dX10_areSame_49 (by decide) (fun c_49 => absurd c_49 (fun h => absurd ((nI_leI (a := 10) (b := i) (by omega) (by omega)).mp h) (by omega))) (fun c_49 => ?_)
    refine zr_aload_n dX10_areSame_52 rfl ?_
    refine zr_getM (v := .ref (y + 9)) dX10_areSame_53 fX10_39 h0 rfl ?_
    refine zr_iload_n dX10_areSame_56 rfl ?_
    refine zr_laload dX10_areSame_57 x9 (vp_in_nI (n := i) (by omega) (by omega)) ?_
    rw [nI_clamp (n := i) (by omega)]
    refine zr_eql (x' := lI (v i)) rfl ?_
    refine zr_aload_n dX10_areSame_58 rfl ?_
    refine zr_getM (v := .ref (y + 10)) dX10_areSame_59 fX10_43 h0 rfl ?_
    refine zr_iload_n dX10_areSame_62 rfl ?_
    refine zr_laload dX10_areSame_63 x10 (vp_in_nI (n := i) (by omega) (by omega)) ?_
    rw [nI_clamp (n := i) (by omega)]
    refine zr_eql (x' := lI (w i)) rfl ?_
    refine zr_lcmp dX10_areSame_64 ?_
    refine zr_if_eq (tgt := 70) dX10_areSame_65 (by decide) (fun c_65 => ?_) (fun c_65 => ?_)
    · refine zr_iinc (v := nI (i + 1)) (ls' := [some (.ref y), some (.int (nI a)), some (.int (nI b)), some (.int (nI (i + 1)))]) dX10_areSame_70 rfl (nI_1 _) (by decide) rfl ?_
      refine zr_goto (tgt := 46) dX10_areSame_73 (by decide) ?_
      exact ih (i + 1)  (by omega) (by intro k hk; by_cases e : k = i; (subst e; rw [← hw k (by omega), ← hv k (by omega)]; exact ((lI_eq (by have := bv k (by omega); omega) (by have := bw k (by omega); omega)).mp (zcmp_eq.mp c_65)).symm); exact hz k (by omega))
    · have d := fun q => c_65 (zcmp_eq.mpr ((lI_eq (by have := bv i (by omega); omega) (by have := bw i (by omega); omega)).mpr q))
      refine zr_iconst (v := 0) dX10_areSame_68 (by decide) ?_
      exact zr_ireturn dX10_areSame_69 rfl (rfl) (⟨_, rfl, (if_neg (fun q => d (by rw [hv i (by omega), hw i (by omega)]; exact (zSmb_iff.mp q i (by omega)).symm))).symm, rfl⟩)

def zWa (y : Nat) (s : zS) : Prop := ∃ L, zWk y L s
theorem zWa.fr {y : Nat} {σ s : zS} {P : Nat → Prop} (h : zWa y σ) (F : zFr σ s P) (hp : ∀ q, y + 7 ≤ q → q < y + 8 → ¬ P q) : zWa y s := by
  obtain ⟨L, h⟩ := h
  exact ⟨L, h.fr F hp⟩
set_option maxHeartbeats 400000 in
set_option maxRecDepth 100000 in
theorem qX10_areSame {X : zX} (hX : X.1.stackTraces = false) {σ : zS} {y : Nat} {F : Nat → Int32} {n w n2 w2 : Nat} {g : Nat → Int32} {L : List Int32} (h0 : σ.1 y = zmO y F) (h1 : σ.1 (y + 1) = .inl (0, 82, .inl g)) (hn : g w = nI n) (hn16 : n ≤ 16) (hw : w + 5 ≤ 82) (hn2 : g w2 = nI n2) (hn216 : n2 ≤ 16) (hw2 : w2 + 5 ≤ 82) (hL : zWk y L σ) (hX9 : zXa y σ) (hO : zOa y σ) : zMet X mX10_areSame yX10_areSame 3 0 0 [.ref y, .int (nI w), .int (nI w2)] σ (zI (fun y_ s => y_ = (if zSmb (zcv z0 (zP (zdl g w) n)) (zcv z0 (zP (zdl g w2) n2)) = true then 1 else 0) ∧ zFr σ s (fun q => q = y ∨ q = y + 7 ∨ q = y + 9 ∨ q = y + 10) ∧ s.1 y = zmO y (upd F 19 (nI n2)) ∧ zWa y s ∧ zXa y s ∧ zOa y s)) := by
  refine zMet_of (ls := [some (.ref y), some (.int (nI w)), some (.int (nI w2)), none]) rfl (by decide +kernel) rfl (fun h => by cases h) hX (Nat.le_of_ble_eq_true rfl) rfl ?_
  refine zr_aload_n dX10_areSame_0 rfl ?_
  refine zr_iload_n dX10_areSame_1 rfl ?_
  refine zr_callVv [] dX10_areSame_2 vX10_128 (qX10_takes hX (w := w) h0 h1 hL hn hn16 hw) h0 (by decide) (by decide) (by decide) rfl rfl (Nat.le_of_ble_eq_true rfl) (by decide) rfl (fun s_kr1 h_kr1 => ?_)
  obtain ⟨F_kr1, g0_kr1, r0_kr1⟩ := h_kr1
  have kh2 : s_kr1.1 (y + 1) = .inl (0, 82, .inl g) := zFr.get F_kr1 (by omega) h1
  have kR3 : zXa y s_kr1 := zXa.fr hX9 F_kr1 (by intro q h1 h2 h3; (try simp only [zIn, zJf] at h3); omega)
  have kR4 : zOa y s_kr1 := zOa.fr hO F_kr1 (by intro q h1 h2 h3; (try simp only [zIn, zJf] at h3); omega)
  have kF5 := zFr.tr zFr.rf (P := (fun q => q = y ∨ q = y + 7 ∨ q = y + 9 ∨ q = y + 10)) F_kr1 (by intro q hq; omega)
  refine zr_aload_n dX10_areSame_5 rfl ?_
  refine zr_callVv [] dX10_areSame_6 vX10_125 (qX10_measures hX g0_kr1 (by rw [zP_len]; rfl) r0_kr1 (zP_all (fun k _ => zdl_lt g w k)) (by rw [zP_len]; omega) kR3) g0_kr1 (by decide) (by decide) (by decide) rfl rfl (Nat.le_of_ble_eq_true rfl) (by decide) rfl (fun s_kr6 h_kr6 => ?_)
  obtain ⟨F_kr6, r0_kr6⟩ := h_kr6
  have kh7 : s_kr6.1 y = zmO y (upd F 19 (nI n)) := zFr.get F_kr6 (by omega) g0_kr1
  have kh8 : s_kr6.1 (y + 1) = .inl (0, 82, .inl g) := zFr.get F_kr6 (by omega) kh2
  have kR9 : zWk y (zP (zdl g w) n) s_kr6 := zWk.fr r0_kr1 F_kr6 (by intro q h1 h2 h3; (try simp only [zIn, zJf] at h3); omega)
  have kR10 : zOa y s_kr6 := zOa.fr kR4 F_kr6 (by intro q h1 h2 h3; (try simp only [zIn, zJf] at h3); omega)
  have kF11 := zFr.tr kF5 F_kr6 (by intro q hq; omega)
  refine zr_iconst (v := 0) dX10_areSame_9 (by decide) ?_
  refine zr_istore_n (ls' := [some (.ref y), some (.int (nI w)), some (.int (nI w2)), some (.int 0)]) dX10_areSame_10 rfl (by decide) rfl ?_
  obtain ⟨ov, o10⟩ := kR10
  refine l_as1 hX kh7 r0_kr6 (fun s2 hF2 hO2 => ?_) 10 0 _ ov (by omega) zFr.rf o10 (fun t ht => absurd ht (by omega))
  have kF2 := zFr.tr kF11 hF2 (by intro q hq; omega)
  have k02 := zFr.get hF2 (by omega) kh7
  have k12 := zFr.get hF2 (by omega) kh8
  have kW2 := zWk.fr kR9 hF2 (by intro q a b c; omega)
  have kX2 := zXy.fr r0_kr6 hF2 (by intro q a b c; omega)
  refine zr_aload_n dX10_areSame_35 rfl ?_
  refine zr_iload_n dX10_areSame_36 rfl ?_
  refine zr_callVv [] dX10_areSame_37 vX10_128 (qX10_takes hX (w := w2) k02 k12 kW2 hn2 hn216 hw2) k02 (by decide) (by decide) (by decide) rfl rfl (Nat.le_of_ble_eq_true rfl) (by decide) rfl (fun s_kr12 h_kr12 => ?_)
  obtain ⟨F_kr12, g0_kr12, r0_kr12⟩ := h_kr12
  have kh13 : s_kr12.1 (y + 1) = .inl (0, 82, .inl g) := zFr.get F_kr12 (by omega) k12
  have kR14 : zXy y (zcv z0 (zP (zdl g w) n)) s_kr12 := zXy.fr kX2 F_kr12 (by intro q h1 h2 h3; (try simp only [zIn, zJf] at h3); omega)
  have kR15 : zOt y (zcv z0 (zP (zdl g w) n)) s_kr12 := zOt.fr hO2 F_kr12 (by intro q h1 h2 h3; (try simp only [zIn, zJf] at h3); omega)
  have kF16 := zFr.tr kF2 F_kr12 (by intro q hq; omega)
  refine zr_aload_n dX10_areSame_40 rfl ?_
  refine zr_callVv [] dX10_areSame_41 vX10_125 (qX10_measures hX g0_kr12 (by rw [zP_len]; rfl) r0_kr12 (zP_all (fun k _ => zdl_lt g w2 k)) (by rw [zP_len]; omega) (kR14).a) g0_kr12 (by decide) (by decide) (by decide) rfl rfl (Nat.le_of_ble_eq_true rfl) (by decide) rfl (fun s_kr17 h_kr17 => ?_)
  obtain ⟨F_kr17, r0_kr17⟩ := h_kr17
  have kh18 : s_kr17.1 y = zmO y (upd F 19 (nI n2)) := zFr.get F_kr17 (by omega) g0_kr12
  have kh19 : s_kr17.1 (y + 1) = .inl (0, 82, .inl g) := zFr.get F_kr17 (by omega) kh13
  have kR20 : zWk y (zP (zdl g w2) n2) s_kr17 := zWk.fr r0_kr12 F_kr17 (by intro q h1 h2 h3; (try simp only [zIn, zJf] at h3); omega)
  have kR21 : zOt y (zcv z0 (zP (zdl g w) n)) s_kr17 := zOt.fr kR15 F_kr17 (by intro q h1 h2 h3; (try simp only [zIn, zJf] at h3); omega)
  have kF22 := zFr.tr kF16 F_kr17 (by intro q hq; omega)
  refine zr_iconst (v := 0) dX10_areSame_44 (by decide) ?_
  refine zr_istore_n (ls' := [some (.ref y), some (.int (nI w)), some (.int (nI w2)), some (.int 0)]) dX10_areSame_45 rfl (by decide) rfl ?_
  exact (l_as2 hX kh18 r0_kr17 kR21 (zB62 (zP_all (fun k _ => zdl_lt g w k)) (by rw [zP_len]; omega)) (zB62 (zP_all (fun k _ => zdl_lt g w2 k)) (by rw [zP_len]; omega)) 10 0 (by omega) (fun k hk => absurd hk (by omega))).mono (fun o s q => by obtain ⟨r, e1, e2, e3⟩ := q; rw [e3]; exact ⟨r, e1, e2, kF22, kh18, ⟨_, kR20⟩, (r0_kr17).a, (kR21).a⟩)
  

