/-! decide and appeal of the reference -/
theorem zGr.out {A : zDk} {g g1 : Nat → Int32} (gr : zGr A g) (hA : zDw A) (e : ∀ q, ¬ (42 + 5 * kP A ≤ q ∧ q < 42 + 5 * kP A + 5) → g1 q = g q) : zGr A g1 := by
  obtain ⟨r0, r1, rc, rp⟩ := gr
  have hC8 := hA.1
  have hP8 := hA.2.1
  refine ⟨(e 0 (by omega)).trans r0, (e 1 (by omega)).trans r1, fun j hj => ?_, fun q hq => ?_⟩
  · obtain ⟨a1, a2, a3, a4⟩ := rc j hj
    have n16 := (hA.2.2 j (by omega)).1
    exact ⟨(e _ (by omega)).trans a1, (e _ (by omega)).trans a2, (e _ (by omega)).trans a3, fun t ht => (zdl_cg (e _ (by omega))).trans (a4 t ht)⟩
  · obtain ⟨a1, a2, a3, a4⟩ := rp q hq
    have n16 := (hA.2.2 (zmk A q) (hA.mk (i := q) (by omega)).1).1
    exact ⟨(e _ (by omega)).trans a1, (e _ (by omega)).trans a2, (e _ (by omega)).trans a3, fun t ht => (zdl_cg (e _ (by omega))).trans (a4 t ht)⟩
theorem zTg_if {A : zDk} {i : Nat} {v : Int32} (h : v = if zTg A i = 0 then 2 else 1) : v = (if zTg A i = 0 then 2 else 1) := h
set_option maxHeartbeats 400000 in
set_option maxRecDepth 100000 in
theorem qX10_makes {X : zX} (hX : X.1.stackTraces = false) {σ : zS} {y : Nat} {F : Nat → Int32} {g : Nat → Int32} {A : zDk} {i : Nat} (h0 : σ.1 y = zmO y F) (h1 : σ.1 (y + 1) = .inl (0, 82, .inl g)) (gr : zGr A g) (hA : zDw A) (gA : zGd A) (hi : i < kC A) (hP : kP A < 8) : zMet X mX10_makes yX10_makes 4 0 0 [.ref y, .int (nI i)] σ (zI (fun y_ s => y_ = nI (kP A) ∧ zFr σ s (fun q => q = y + 1) ∧ ∃ g1, s.1 (y + 1) = .inl (0, 82, .inl g1) ∧ zGr (aPrec A i (zTg A i)) g1)) := by
  refine zMet_of (ls := [some (.ref y), some (.int (nI i)), none]) rfl (by decide +kernel) rfl (fun h => by cases h) hX (Nat.le_of_ble_eq_true rfl) rfl ?_
  obtain ⟨r0, r1, rc, rp⟩ := id gr
  obtain ⟨hC8, hP8, hW⟩ := id hA
  refine zr_aload_n dX10_makes_0 rfl ?_
  refine zr_getM (v := .ref (y + 1)) dX10_makes_1 fX10_7 h0 rfl ?_
  refine zr_iconst (v := 1) dX10_makes_4 (by decide) ?_
  refine zr_iaload dX10_makes_5 h1 (vp_in_nI (n := 1) (by omega) (by omega)) ?_
  rw [show (1 : Int32).toNatClampNeg = 1 from by decide]
  refine zr_eqi (x' := nI (kP A)) (r1) ?_
  refine zr_pSi [] dX10_makes_6 vX10_207 (qX10_precedentAt hX (i := kP A)) (by decide) (by decide) (by decide) rfl rfl (Nat.le_of_ble_eq_true rfl) rfl ?_
  refine zr_istore_n (ls' := [some (.ref y), some (.int (nI i)), some (.int (nI (42 + 5 * (kP A))))]) dX10_makes_9 rfl (by decide) rfl ?_
  refine zr_aload_n dX10_makes_10 rfl ?_
  refine zr_getM (v := .ref (y + 1)) dX10_makes_11 fX10_7 h0 rfl ?_
  refine zr_iload_n dX10_makes_14 rfl ?_
  refine zr_iconst (v := 0) dX10_makes_15 (by decide) ?_
  refine zr_iadd dX10_makes_16 ?_
  refine zr_eqi (x' := nI ((42 + 5 * (kP A)) + 0)) (nI_add (42 + 5 * (kP A)) 0) ?_
  refine zr_aload_n dX10_makes_17 rfl ?_
  refine zr_iload_n dX10_makes_18 rfl ?_
  refine zr_iconst (v := 0) dX10_makes_19 (by decide) ?_
  refine zr_pVi [.int (nI ((42 + 5 * (kP A)) + 0)), .ref ((y + 1))] dX10_makes_20 vX10_149 (qX10_of hX (i := i) (k := 0) h0 h1 (by omega)) h0 (by decide) (by decide) (by decide) rfl rfl (Nat.le_of_ble_eq_true rfl) (by decide) rfl ?_
  refine zr_eqi (x' := nI (kN A i)) ((rc i hi).1) ?_
  refine zr_iastore dX10_makes_23 h1 (vp_in_nI (n := (42 + 5 * (kP A)) + 0) (by omega) (by omega)) ?_
  rw [nI_clamp (n := (42 + 5 * (kP A)) + 0) (by omega)]
  refine zr_sig (fun ks1 e_ks1 => ?_)
  have kh2 : ks1.1 y = zmO y F := by rw [e_ks1, zup_ne _ _ (by omega)]; exact h0
  have kh3 : ks1.1 (y + 1) = .inl (0, 82, .inl (upd g ((42 + 5 * (kP A)) + 0) (nI (kN A i)))) := by rw [e_ks1]; exact zup_at _ _ _
  have kF4 := zFr.put zFr.rf (P := (fun q => q = y + 1)) e_ks1 rfl
  refine zr_aload_n dX10_makes_24 rfl ?_
  refine zr_getM (v := .ref (y + 1)) dX10_makes_25 fX10_7 kh2 rfl ?_
  refine zr_iload_n dX10_makes_28 rfl ?_
  refine zr_iconst (v := 1) dX10_makes_29 (by decide) ?_
  refine zr_iadd dX10_makes_30 ?_
  refine zr_eqi (x' := nI ((42 + 5 * (kP A)) + 1)) (nI_add (42 + 5 * (kP A)) 1) ?_
  have gr1 : zGr A (upd g ((42 + 5 * (kP A)) + 0) (nI (kN A i))) := gr.out hA (fun q hq => upd_ne _ _ (by omega))
  refine zr_aload_n dX10_makes_31 rfl ?_
  refine zr_iload_n dX10_makes_32 rfl ?_
  refine zr_pVi [.int (nI ((42 + 5 * (kP A)) + 1)), .ref ((y + 1))] dX10_makes_33 vX10_210 (qX10_isTwisted hX (i := i) kh2 kh3 gr1 hA hi) kh2 (by decide) (by decide) (by decide) rfl rfl (Nat.le_of_ble_eq_true rfl) (by decide) rfl ?_
  refine zr_if_eq (tgt := 43) dX10_makes_36 (by decide) (fun c_36 => ?_) (fun c_36 => ?_)
  · refine zr_iconst (v := 2) dX10_makes_43 (by decide) ?_
    refine zr_iastore dX10_makes_44 kh3 (vp_in_nI (n := (42 + 5 * (kP A)) + 1) (by omega) (by omega)) ?_
    rw [nI_clamp (n := (42 + 5 * (kP A)) + 1) (by omega)]
    refine zr_sig (fun ks5 e_ks5 => ?_)
    have kh6 : ks5.1 y = zmO y F := by rw [e_ks5, zup_ne _ _ (by omega)]; exact kh2
    have kh7 : ks5.1 (y + 1) = .inl (0, 82, .inl (upd (upd g ((42 + 5 * (kP A)) + 0) (nI (kN A i))) ((42 + 5 * (kP A)) + 1) 2)) := by rw [e_ks5]; exact zup_at _ _ _
    have kF8 := zFr.put kF4 e_ks5 rfl
    refine zr_aload_n dX10_makes_45 rfl ?_
    refine zr_getM (v := .ref (y + 1)) dX10_makes_46 fX10_7 kh6 rfl ?_
    refine zr_iload_n dX10_makes_49 rfl ?_
    refine zr_iconst (v := 2) dX10_makes_50 (by decide) ?_
    refine zr_iadd dX10_makes_51 ?_
    refine zr_eqi (x' := nI ((42 + 5 * (kP A)) + 2)) (nI_add (42 + 5 * (kP A)) 2) ?_
    refine zr_iconst (v := 0) dX10_makes_52 (by decide) ?_
    refine zr_iastore dX10_makes_53 kh7 (vp_in_nI (n := (42 + 5 * (kP A)) + 2) (by omega) (by omega)) ?_
    rw [nI_clamp (n := (42 + 5 * (kP A)) + 2) (by omega)]
    refine zr_sig (fun ks9 e_ks9 => ?_)
    have kh10 : ks9.1 y = zmO y F := by rw [e_ks9, zup_ne _ _ (by omega)]; exact kh6
    have kh11 : ks9.1 (y + 1) = .inl (0, 82, .inl (upd (upd (upd g ((42 + 5 * (kP A)) + 0) (nI (kN A i))) ((42 + 5 * (kP A)) + 1) 2) ((42 + 5 * (kP A)) + 2) 0)) := by rw [e_ks9]; exact zup_at _ _ _
    have kF12 := zFr.put kF8 e_ks9 rfl
    refine zr_aload_n dX10_makes_54 rfl ?_
    refine zr_getM (v := .ref (y + 1)) dX10_makes_55 fX10_7 kh10 rfl ?_
    refine zr_iload_n dX10_makes_58 rfl ?_
    refine zr_iconst (v := 3) dX10_makes_59 (by decide) ?_
    refine zr_iadd dX10_makes_60 ?_
    refine zr_eqi (x' := nI ((42 + 5 * (kP A)) + 3)) (nI_add (42 + 5 * (kP A)) 3) ?_
    refine zr_aload_n dX10_makes_61 rfl ?_
    refine zr_iload_n dX10_makes_62 rfl ?_
    refine zr_iconst (v := 3) dX10_makes_63 (by decide) ?_
    refine zr_pVi [.int (nI ((42 + 5 * (kP A)) + 3)), .ref ((y + 1))] dX10_makes_64 vX10_149 (qX10_of hX (i := i) (k := 3) kh10 kh11 (by omega)) kh10 (by decide) (by decide) (by decide) rfl rfl (Nat.le_of_ble_eq_true rfl) (by decide) rfl ?_
    refine zr_eqi (x' := (g (2 + 5 * i + 3))) (by rw [upd_ne _ _ (by omega), upd_ne _ _ (by omega), upd_ne _ _ (by omega)]) ?_
    refine zr_iastore dX10_makes_67 kh11 (vp_in_nI (n := (42 + 5 * (kP A)) + 3) (by omega) (by omega)) ?_
    rw [nI_clamp (n := (42 + 5 * (kP A)) + 3) (by omega)]
    refine zr_sig (fun ks13 e_ks13 => ?_)
    have kh14 : ks13.1 y = zmO y F := by rw [e_ks13, zup_ne _ _ (by omega)]; exact kh10
    have kh15 : ks13.1 (y + 1) = .inl (0, 82, .inl (upd (upd (upd (upd g ((42 + 5 * (kP A)) + 0) (nI (kN A i))) ((42 + 5 * (kP A)) + 1) 2) ((42 + 5 * (kP A)) + 2) 0) ((42 + 5 * (kP A)) + 3) (g (2 + 5 * i + 3)))) := by rw [e_ks13]; exact zup_at _ _ _
    have kF16 := zFr.put kF12 e_ks13 rfl
    refine zr_aload_n dX10_makes_68 rfl ?_
    refine zr_getM (v := .ref (y + 1)) dX10_makes_69 fX10_7 kh14 rfl ?_
    refine zr_iload_n dX10_makes_72 rfl ?_
    refine zr_iconst (v := 3) dX10_makes_73 (by decide) ?_
    refine zr_iadd dX10_makes_74 ?_
    refine zr_eqi (x' := nI ((42 + 5 * (kP A)) + 3)) (nI_add (42 + 5 * (kP A)) 3) ?_
    refine zr_iconst (v := 1) dX10_makes_75 (by decide) ?_
    refine zr_iadd dX10_makes_76 ?_
    refine zr_eqi (x' := nI (((42 + 5 * (kP A)) + 3) + 1)) (nI_add ((42 + 5 * (kP A)) + 3) 1) ?_
    refine zr_aload_n dX10_makes_77 rfl ?_
    refine zr_iload_n dX10_makes_78 rfl ?_
    refine zr_iconst (v := 4) dX10_makes_79 (by decide) ?_
    refine zr_pVi [.int (nI (((42 + 5 * (kP A)) + 3) + 1)), .ref ((y + 1))] dX10_makes_80 vX10_149 (qX10_of hX (i := i) (k := 4) kh14 kh15 (by omega)) kh14 (by decide) (by decide) (by decide) rfl rfl (Nat.le_of_ble_eq_true rfl) (by decide) rfl ?_
    refine zr_eqi (x' := (g (2 + 5 * i + 4))) (by rw [upd_ne _ _ (by omega), upd_ne _ _ (by omega), upd_ne _ _ (by omega), upd_ne _ _ (by omega)]) ?_
    refine zr_iastore dX10_makes_83 kh15 (vp_in_nI (n := ((42 + 5 * (kP A)) + 3) + 1) (by omega) (by omega)) ?_
    rw [nI_clamp (n := ((42 + 5 * (kP A)) + 3) + 1) (by omega)]
    refine zr_sig (fun ks17 e_ks17 => ?_)
    have kh18 : ks17.1 y = zmO y F := by rw [e_ks17, zup_ne _ _ (by omega)]; exact kh14
    have kh19 : ks17.1 (y + 1) = .inl (0, 82, .inl (upd (upd (upd (upd (upd g ((42 + 5 * (kP A)) + 0) (nI (kN A i))) ((42 + 5 * (kP A)) + 1) 2) ((42 + 5 * (kP A)) + 2) 0) ((42 + 5 * (kP A)) + 3) (g (2 + 5 * i + 3))) (((42 + 5 * (kP A)) + 3) + 1) (g (2 + 5 * i + 4)))) := by rw [e_ks17]; exact zup_at _ _ _
    have kF20 := zFr.put kF16 e_ks17 rfl
    refine zr_aload_n dX10_makes_84 rfl ?_
    refine zr_getM (v := .ref (y + 1)) dX10_makes_85 fX10_7 kh18 rfl ?_
    refine zr_iconst (v := 1) dX10_makes_88 (by decide) ?_
    refine zr_dup2 dX10_makes_89 rfl rfl ?_
    refine zr_iaload dX10_makes_90 kh19 (vp_in_nI (n := 1) (by omega) (by omega)) ?_
    rw [show (1 : Int32).toNatClampNeg = 1 from by decide]
    refine zr_eqi (x' := nI (kP A)) (by rw [upd_ne _ _ (by omega), upd_ne _ _ (by omega), upd_ne _ _ (by omega), upd_ne _ _ (by omega), upd_ne _ _ (by omega)]; exact r1) ?_
    refine zr_iconst (v := 1) dX10_makes_91 (by decide) ?_
    refine zr_iadd dX10_makes_92 ?_
    refine zr_eqi (x' := nI ((kP A) + 1)) (nI_add (kP A) 1) ?_
    refine zr_iastore dX10_makes_93 kh19 (vp_in_nI (n := 1) (by omega) (by omega)) ?_
    rw [show (1 : Int32).toNatClampNeg = 1 from by decide]
    refine zr_sig (fun ks21 e_ks21 => ?_)
    have kh22 : ks21.1 y = zmO y F := by rw [e_ks21, zup_ne _ _ (by omega)]; exact kh18
    have kh23 : ks21.1 (y + 1) = .inl (0, 82, .inl (upd (upd (upd (upd (upd (upd g ((42 + 5 * (kP A)) + 0) (nI (kN A i))) ((42 + 5 * (kP A)) + 1) 2) ((42 + 5 * (kP A)) + 2) 0) ((42 + 5 * (kP A)) + 3) (g (2 + 5 * i + 3))) (((42 + 5 * (kP A)) + 3) + 1) (g (2 + 5 * i + 4))) 1 (nI ((kP A) + 1)))) := by rw [e_ks21]; exact zup_at _ _ _
    have kF24 := zFr.put kF20 e_ks21 rfl
    refine zr_aload_n dX10_makes_94 rfl ?_
    refine zr_getM (v := .ref (y + 1)) dX10_makes_95 fX10_7 kh22 rfl ?_
    refine zr_iconst (v := 1) dX10_makes_98 (by decide) ?_
    refine zr_iaload dX10_makes_99 kh23 (vp_in_nI (n := 1) (by omega) (by omega)) ?_
    rw [show (1 : Int32).toNatClampNeg = 1 from by decide]
    refine zr_eqi (x' := nI (kP A + 1)) (upd_at _ _ _) ?_
    refine zr_iconst (v := 1) dX10_makes_100 (by decide) ?_
    refine zr_isub dX10_makes_101 ?_
    refine zr_eqi (x' := nI ((kP A + 1) - 1)) (pk_sub (a := (kP A + 1)) (b := 1) (by omega)) ?_
    refine zr_ireturn dX10_makes_102 rfl (rfl) ?_
    refine ⟨_, rfl, rfl, kF24, _, kh23, gr.prec gA hi hP (fun q a b => by rw [upd_ne _ _ (by omega), upd_ne _ _ (by omega), upd_ne _ _ (by omega), upd_ne _ _ (by omega), upd_ne _ _ (by omega), upd_ne _ _ (by omega)]) (upd_at _ _ _) ?_ ?_ ?_ ?_ ?_⟩
    · rw [upd_ne _ _ (by omega), upd_ne _ _ (by omega), upd_ne _ _ (by omega), upd_ne _ _ (by omega), upd_ne _ _ (by omega)]; exact upd_at _ _ _
    · rw [upd_ne _ _ (by omega), upd_ne _ _ (by omega), upd_ne _ _ (by omega), upd_ne _ _ (by omega), if_pos c_36]; exact upd_at _ _ _
    · rw [upd_ne _ _ (by omega), upd_ne _ _ (by omega), upd_ne _ _ (by omega)]; exact upd_at _ _ _
    · rw [upd_ne _ _ (by omega), upd_ne _ _ (by omega)]; exact upd_at _ _ _
    · rw [upd_ne _ _ (by omega)]; exact upd_at _ _ _
  · refine zr_iconst (v := 1) dX10_makes_39 (by decide) ?_
    refine zr_goto (tgt := 44) dX10_makes_40 (by decide) ?_
    refine zr_iastore dX10_makes_44 kh3 (vp_in_nI (n := (42 + 5 * (kP A)) + 1) (by omega) (by omega)) ?_
    rw [nI_clamp (n := (42 + 5 * (kP A)) + 1) (by omega)]
    refine zr_sig (fun ks25 e_ks25 => ?_)
    have kh26 : ks25.1 y = zmO y F := by rw [e_ks25, zup_ne _ _ (by omega)]; exact kh2
    have kh27 : ks25.1 (y + 1) = .inl (0, 82, .inl (upd (upd g ((42 + 5 * (kP A)) + 0) (nI (kN A i))) ((42 + 5 * (kP A)) + 1) 1)) := by rw [e_ks25]; exact zup_at _ _ _
    have kF28 := zFr.put kF4 e_ks25 rfl
    refine zr_aload_n dX10_makes_45 rfl ?_
    refine zr_getM (v := .ref (y + 1)) dX10_makes_46 fX10_7 kh26 rfl ?_
    refine zr_iload_n dX10_makes_49 rfl ?_
    refine zr_iconst (v := 2) dX10_makes_50 (by decide) ?_
    refine zr_iadd dX10_makes_51 ?_
    refine zr_eqi (x' := nI ((42 + 5 * (kP A)) + 2)) (nI_add (42 + 5 * (kP A)) 2) ?_
    refine zr_iconst (v := 0) dX10_makes_52 (by decide) ?_
    refine zr_iastore dX10_makes_53 kh27 (vp_in_nI (n := (42 + 5 * (kP A)) + 2) (by omega) (by omega)) ?_
    rw [nI_clamp (n := (42 + 5 * (kP A)) + 2) (by omega)]
    refine zr_sig (fun ks29 e_ks29 => ?_)
    have kh30 : ks29.1 y = zmO y F := by rw [e_ks29, zup_ne _ _ (by omega)]; exact kh26
    have kh31 : ks29.1 (y + 1) = .inl (0, 82, .inl (upd (upd (upd g ((42 + 5 * (kP A)) + 0) (nI (kN A i))) ((42 + 5 * (kP A)) + 1) 1) ((42 + 5 * (kP A)) + 2) 0)) := by rw [e_ks29]; exact zup_at _ _ _
    have kF32 := zFr.put kF28 e_ks29 rfl
    refine zr_aload_n dX10_makes_54 rfl ?_
    refine zr_getM (v := .ref (y + 1)) dX10_makes_55 fX10_7 kh30 rfl ?_
    refine zr_iload_n dX10_makes_58 rfl ?_
    refine zr_iconst (v := 3) dX10_makes_59 (by decide) ?_
    refine zr_iadd dX10_makes_60 ?_
    refine zr_eqi (x' := nI ((42 + 5 * (kP A)) + 3)) (nI_add (42 + 5 * (kP A)) 3) ?_
    refine zr_aload_n dX10_makes_61 rfl ?_
    refine zr_iload_n dX10_makes_62 rfl ?_
    refine zr_iconst (v := 3) dX10_makes_63 (by decide) ?_
    refine zr_pVi [.int (nI ((42 + 5 * (kP A)) + 3)), .ref ((y + 1))] dX10_makes_64 vX10_149 (qX10_of hX (i := i) (k := 3) kh30 kh31 (by omega)) kh30 (by decide) (by decide) (by decide) rfl rfl (Nat.le_of_ble_eq_true rfl) (by decide) rfl ?_
    refine zr_eqi (x' := (g (2 + 5 * i + 3))) (by rw [upd_ne _ _ (by omega), upd_ne _ _ (by omega), upd_ne _ _ (by omega)]) ?_
    refine zr_iastore dX10_makes_67 kh31 (vp_in_nI (n := (42 + 5 * (kP A)) + 3) (by omega) (by omega)) ?_
    rw [nI_clamp (n := (42 + 5 * (kP A)) + 3) (by omega)]
    refine zr_sig (fun ks33 e_ks33 => ?_)
    have kh34 : ks33.1 y = zmO y F := by rw [e_ks33, zup_ne _ _ (by omega)]; exact kh30
    have kh35 : ks33.1 (y + 1) = .inl (0, 82, .inl (upd (upd (upd (upd g ((42 + 5 * (kP A)) + 0) (nI (kN A i))) ((42 + 5 * (kP A)) + 1) 1) ((42 + 5 * (kP A)) + 2) 0) ((42 + 5 * (kP A)) + 3) (g (2 + 5 * i + 3)))) := by rw [e_ks33]; exact zup_at _ _ _
    have kF36 := zFr.put kF32 e_ks33 rfl
    refine zr_aload_n dX10_makes_68 rfl ?_
    refine zr_getM (v := .ref (y + 1)) dX10_makes_69 fX10_7 kh34 rfl ?_
    refine zr_iload_n dX10_makes_72 rfl ?_
    refine zr_iconst (v := 3) dX10_makes_73 (by decide) ?_
    refine zr_iadd dX10_makes_74 ?_
    refine zr_eqi (x' := nI ((42 + 5 * (kP A)) + 3)) (nI_add (42 + 5 * (kP A)) 3) ?_
    refine zr_iconst (v := 1) dX10_makes_75 (by decide) ?_
    refine zr_iadd dX10_makes_76 ?_
    refine zr_eqi (x' := nI (((42 + 5 * (kP A)) + 3) + 1)) (nI_add ((42 + 5 * (kP A)) + 3) 1) ?_
    refine zr_aload_n dX10_makes_77 rfl ?_
    refine zr_iload_n dX10_makes_78 rfl ?_
    refine zr_iconst (v := 4) dX10_makes_79 (by decide) ?_
    refine zr_pVi [.int (nI (((42 + 5 * (kP A)) + 3) + 1)), .ref ((y + 1))] dX10_makes_80 vX10_149 (qX10_of hX (i := i) (k := 4) kh34 kh35 (by omega)) kh34 (by decide) (by decide) (by decide) rfl rfl (Nat.le_of_ble_eq_true rfl) (by decide) rfl ?_
    refine zr_eqi (x' := (g (2 + 5 * i + 4))) (by rw [upd_ne _ _ (by omega), upd_ne _ _ (by omega), upd_ne _ _ (by omega), upd_ne _ _ (by omega)]) ?_
    refine zr_iastore dX10_makes_83 kh35 (vp_in_nI (n := ((42 + 5 * (kP A)) + 3) + 1) (by omega) (by omega)) ?_
    rw [nI_clamp (n := ((42 + 5 * (kP A)) + 3) + 1) (by omega)]
    refine zr_sig (fun ks37 e_ks37 => ?_)
    have kh38 : ks37.1 y = zmO y F := by rw [e_ks37, zup_ne _ _ (by omega)]; exact kh34
    have kh39 : ks37.1 (y + 1) = .inl (0, 82, .inl (upd (upd (upd (upd (upd g ((42 + 5 * (kP A)) + 0) (nI (kN A i))) ((42 + 5 * (kP A)) + 1) 1) ((42 + 5 * (kP A)) + 2) 0) ((42 + 5 * (kP A)) + 3) (g (2 + 5 * i + 3))) (((42 + 5 * (kP A)) + 3) + 1) (g (2 + 5 * i + 4)))) := by rw [e_ks37]; exact zup_at _ _ _
    have kF40 := zFr.put kF36 e_ks37 rfl
    refine zr_aload_n dX10_makes_84 rfl ?_
    refine zr_getM (v := .ref (y + 1)) dX10_makes_85 fX10_7 kh38 rfl ?_
    refine zr_iconst (v := 1) dX10_makes_88 (by decide) ?_
    refine zr_dup2 dX10_makes_89 rfl rfl ?_
    refine zr_iaload dX10_makes_90 kh39 (vp_in_nI (n := 1) (by omega) (by omega)) ?_
    rw [show (1 : Int32).toNatClampNeg = 1 from by decide]
    refine zr_eqi (x' := nI (kP A)) (by rw [upd_ne _ _ (by omega), upd_ne _ _ (by omega), upd_ne _ _ (by omega), upd_ne _ _ (by omega), upd_ne _ _ (by omega)]; exact r1) ?_
    refine zr_iconst (v := 1) dX10_makes_91 (by decide) ?_
    refine zr_iadd dX10_makes_92 ?_
    refine zr_eqi (x' := nI ((kP A) + 1)) (nI_add (kP A) 1) ?_
    refine zr_iastore dX10_makes_93 kh39 (vp_in_nI (n := 1) (by omega) (by omega)) ?_
    rw [show (1 : Int32).toNatClampNeg = 1 from by decide]
    refine zr_sig (fun ks41 e_ks41 => ?_)
    have kh42 : ks41.1 y = zmO y F := by rw [e_ks41, zup_ne _ _ (by omega)]; exact kh38
    have kh43 : ks41.1 (y + 1) = .inl (0, 82, .inl (upd (upd (upd (upd (upd (upd g ((42 + 5 * (kP A)) + 0) (nI (kN A i))) ((42 + 5 * (kP A)) + 1) 1) ((42 + 5 * (kP A)) + 2) 0) ((42 + 5 * (kP A)) + 3) (g (2 + 5 * i + 3))) (((42 + 5 * (kP A)) + 3) + 1) (g (2 + 5 * i + 4))) 1 (nI ((kP A) + 1)))) := by rw [e_ks41]; exact zup_at _ _ _
    have kF44 := zFr.put kF40 e_ks41 rfl
    refine zr_aload_n dX10_makes_94 rfl ?_
    refine zr_getM (v := .ref (y + 1)) dX10_makes_95 fX10_7 kh42 rfl ?_
    refine zr_iconst (v := 1) dX10_makes_98 (by decide) ?_
    refine zr_iaload dX10_makes_99 kh43 (vp_in_nI (n := 1) (by omega) (by omega)) ?_
    rw [show (1 : Int32).toNatClampNeg = 1 from by decide]
    refine zr_eqi (x' := nI (kP A + 1)) (upd_at _ _ _) ?_
    refine zr_iconst (v := 1) dX10_makes_100 (by decide) ?_
    refine zr_isub dX10_makes_101 ?_
    refine zr_eqi (x' := nI ((kP A + 1) - 1)) (pk_sub (a := (kP A + 1)) (b := 1) (by omega)) ?_
    refine zr_ireturn dX10_makes_102 rfl (rfl) ?_
    refine ⟨_, rfl, rfl, kF44, _, kh43, gr.prec gA hi hP (fun q a b => by rw [upd_ne _ _ (by omega), upd_ne _ _ (by omega), upd_ne _ _ (by omega), upd_ne _ _ (by omega), upd_ne _ _ (by omega), upd_ne _ _ (by omega)]) (upd_at _ _ _) ?_ ?_ ?_ ?_ ?_⟩
    · rw [upd_ne _ _ (by omega), upd_ne _ _ (by omega), upd_ne _ _ (by omega), upd_ne _ _ (by omega), upd_ne _ _ (by omega)]; exact upd_at _ _ _
    · rw [upd_ne _ _ (by omega), upd_ne _ _ (by omega), upd_ne _ _ (by omega), upd_ne _ _ (by omega), if_neg c_36]; exact upd_at _ _ _
    · rw [upd_ne _ _ (by omega), upd_ne _ _ (by omega), upd_ne _ _ (by omega)]; exact upd_at _ _ _
    · rw [upd_ne _ _ (by omega), upd_ne _ _ (by omega)]; exact upd_at _ _ _
    · rw [upd_ne _ _ (by omega)]; exact upd_at _ _ _

theorem zvt_p {B : zDk} {i p : Nat} (h : kR B i = nI p) (hp : p < 8) : zvt B i = if kT B p = 0 then 0 else 1 := by
  unfold zvt; rw [h, if_neg (nI_ne p (by omega)), nI_clamp (by omega)]
theorem zpd_1 (B : zDk) (p : Nat) : zpd B p = 1 ↔ ¬ kT B p = 0 := by
  unfold zpd
  by_cases h : kT B p = 0
  · rw [if_pos h]; exact ⟨fun q => absurd q (by decide), fun q => absurd h q⟩
  · rw [if_neg h]; exact ⟨fun _ => h, fun _ => rfl⟩
theorem aVer_f {A : zDk} {i p : Nat} (hz : zPf A i = nI p) (hp : p < 8) : aVer A i = aSetR A i (nI p) := by
  unfold aVer; rw [if_neg (by rw [hz]; exact nI_ne p (by omega)), hz]
theorem aVer_m {A : zDk} {i : Nat} (hz : zPf A i = -1) : aVer A i = aSetR (aPrec A i (zTg A i)) i (nI (kP A)) := by
  unfold aVer; rw [if_pos hz]
set_option maxHeartbeats 400000 in
set_option maxRecDepth 100000 in
theorem qX10_decideF {X : zX} (hX : X.1.stackTraces = false) {σ : zS} {y : Nat} {w tm cd dn : Int32} {K : zDk} {A S : zDk} {m : Nat} {U : Nat → zDk} {n : Nat} {T : Nat → Int32} {ll : Nat} {ln : Nat → Int32} {hs kf ld dt dc : Int32} {i p : Nat} (hM : zMo y w tm cd dn K A S m U n T ll ln hs kf ld dt dc σ) (gA : zGd A) (hi : i < kC A) (hr : kR A i = -1) (hp : p < kP A) (hz : zPf A i = nI p) (wU : ∀ t, t < m → zDw (U t)) : zMet X mX10_decide yX10_decide 5 0 0 [.ref y, .int (nI i)] σ (zI (fun y_ s => y_ = zvt (aVer A i) i ∧ zFr σ s (zMq y) ∧ zMo y w tm 0 0 K (aVer A i) S (mN w m) (UN w A U) n T ll ln hs kf ld dt dc s)) := by
  refine zMet_of (ls := [some (.ref y), some (.int (nI i)), none]) rfl (by decide +kernel) rfl (fun h => by cases h) hX (Nat.le_of_ble_eq_true rfl) rfl ?_
  obtain ⟨F, g, kp, sv, bf, ip, sg, td, h0, hf, h1, h2, h3, h4, h5, h6, h11, hWa, hC, hX9, hOt, gr, gS, gK, hm8, gU, hn60, hT, hll, hln⟩ := id hM
  obtain ⟨f4, f5, f6, f7, f8, f9, f10, f11, f13, f14, f16, f27⟩ := id hf
  have hA := gA.1
  obtain ⟨r0, r1, rc, rp⟩ := id gr
  obtain ⟨hC8, hP8, hW⟩ := id hA
  have n16 := (hW i (by omega)).1
  refine zr_aload_n dX10_decide_0 rfl ?_
  refine zr_iload_n dX10_decide_1 rfl ?_
  refine zr_callVi [] dX10_decide_2 vX10_155 (qX10_isNone hX (i := i) h0 h1 r0 (by omega) hi) h0 (by decide) (by decide) (by decide) rfl rfl (Nat.le_of_ble_eq_true rfl) (by decide) rfl (fun kr1 s_kr1 h_kr1 => ?_)
  obtain ⟨e_kr1, F_kr1, g0_kr1⟩ := h_kr1
  have kh2 : s_kr1.1 (y + 1) = .inl (0, 82, .inl g) := zFr.get F_kr1 (by omega) h1
  have kh3 : s_kr1.1 (y + 2) = .inl (0, 656, .inl kp) := zFr.get F_kr1 (by omega) h2
  have kh4 : s_kr1.1 (y + 3) = .inl (0, 82, .inl sv) := zFr.get F_kr1 (by omega) h3
  have kh5 : s_kr1.1 (y + 4) = .inl (0, 82, .inl bf) := zFr.get F_kr1 (by omega) h4
  have kh6 : s_kr1.1 (y + 5) = .inl (0, 60, .inl ip) := zFr.get F_kr1 (by omega) h5
  have kh7 : s_kr1.1 (y + 6) = .inl (1, 400, .inl sg) := zFr.get F_kr1 (by omega) h6
  have kh8 : s_kr1.1 (y + 11) = .inl (0, 93, .inl td) := zFr.get F_kr1 (by omega) h11
  have kR9 : zWa y s_kr1 := zWa.fr hWa F_kr1 (by intro q h1 h2 h3; (try simp only [zIn, zJf] at h3); omega)
  have kR10 : zCy y s_kr1 := zCy.fr hC F_kr1 (by intro q h1 h2 h3; (try simp only [zIn, zJf] at h3); omega)
  have kR11 : zXa y s_kr1 := zXa.fr hX9 F_kr1 (by intro q h1 h2 h3; (try simp only [zIn, zJf] at h3); omega)
  have kR12 : zOa y s_kr1 := zOa.fr hOt F_kr1 (by intro q h1 h2 h3; (try simp only [zIn, zJf] at h3); omega)
  have kF13 := zFr.tr zFr.rf (P := zMq y) F_kr1 (by intro q hq; unfold zMq; omega)
  obtain rfl := e_kr1.symm
  refine zr_if_ne (tgt := 16) dX10_decide_5 (by decide) (fun c_5 => absurd (by decide) c_5) (fun c_5 => ?_)
  refine zr_aload_n dX10_decide_8 rfl ?_
  refine zr_iload_n dX10_decide_9 rfl ?_
  refine zr_pVi [] dX10_decide_10 vX10_158 (qX10_isClosed hX (i := i) g0_kr1 kh2 gr hA hi hr) g0_kr1 (by decide) (by decide) (by decide) rfl rfl (Nat.le_of_ble_eq_true rfl) (by decide) rfl ?_
  refine zr_if_eq (tgt := 18) dX10_decide_13 (by decide) (fun c_13 => ?_) (fun c_13 => absurd (by decide) c_13)
  refine zr_aload_n dX10_decide_18 rfl ?_
  refine zr_aload_n dX10_decide_19 rfl ?_
  refine zr_getM (v := .ref (y + 1)) dX10_decide_20 fX10_7 g0_kr1 rfl ?_
  refine zr_callVv [] dX10_decide_23 vX10_145 (qX10_keeps hX (r := y + 1) g0_kr1 kh2 (by omega) (by omega) kh3 f5 f6 hm8 gr hA gU wU) g0_kr1 (by decide) (by decide) (by decide) rfl rfl (Nat.le_of_ble_eq_true rfl) (by decide) rfl (fun s0 h_ => ?_)
  obtain ⟨F0, g00, kp1, kc1, gU1⟩ := h_
  have kh14 : s0.1 (y + 1) = .inl (0, 82, .inl g) := zFr.get F0 (by omega) kh2
  have kh15 : s0.1 (y + 3) = .inl (0, 82, .inl sv) := zFr.get F0 (by omega) kh4
  have kh16 : s0.1 (y + 4) = .inl (0, 82, .inl bf) := zFr.get F0 (by omega) kh5
  have kh17 : s0.1 (y + 5) = .inl (0, 60, .inl ip) := zFr.get F0 (by omega) kh6
  have kh18 : s0.1 (y + 6) = .inl (1, 400, .inl sg) := zFr.get F0 (by omega) kh7
  have kh19 : s0.1 (y + 11) = .inl (0, 93, .inl td) := zFr.get F0 (by omega) kh8
  have kR20 := zWa.fr kR9 F0 (by intro q a b c; omega)
  have kR21 := zCy.fr kR10 F0 (by intro q a b c; omega)
  have kR22 := zXa.fr kR11 F0 (by intro q a b c; omega)
  have kR23 := zOa.fr kR12 F0 (by intro q a b c; omega)
  have kF24 := zFr.tr kF13 F0 (by intro q hq; unfold zMq; omega)
  refine zr_aload_n dX10_decide_26 rfl ?_
  refine zr_iload_n dX10_decide_27 rfl ?_
  refine zr_callVi [] dX10_decide_28 vX10_213 (qX10_precedent hX (i := i) g00 kh14 gr hA (by omega) kR20 kR22 kR23) g00 (by decide) (by decide) (by decide) rfl rfl (Nat.le_of_ble_eq_true rfl) (by decide) rfl (fun r1 s1 h_ => ?_)
  obtain ⟨rfl, v1, F1, g0, kW1, kX1, kO1⟩ := h_
  have kh25 : s1.1 (y + 1) = .inl (0, 82, .inl g) := zFr.get F1 (by omega) kh14
  have kh26 : s1.1 (y + 3) = .inl (0, 82, .inl sv) := zFr.get F1 (by omega) kh15
  have kh27 : s1.1 (y + 4) = .inl (0, 82, .inl bf) := zFr.get F1 (by omega) kh16
  have kh28 : s1.1 (y + 5) = .inl (0, 60, .inl ip) := zFr.get F1 (by omega) kh17
  have kh29 : s1.1 (y + 6) = .inl (1, 400, .inl sg) := zFr.get F1 (by omega) kh18
  have kh30 : s1.1 (y + 11) = .inl (0, 93, .inl td) := zFr.get F1 (by omega) kh19
  have kh31 : s1.1 (y + 2) = .inl (0, 656, .inl kp1) := zFr.get F1 (by omega) kc1
  have kR32 := zCy.fr kR21 F1 (by intro q a b c; omega)
  have kF33 := zFr.tr kF24 F1 (by intro q hq; unfold zMq; omega)
  rw [hz]
  refine zr_istore_n (ls' := [some (.ref y), some (.int (nI i)), some (.int (nI p))]) dX10_decide_31 rfl (by decide) rfl ?_
  refine zr_iload_n dX10_decide_32 rfl ?_
  refine zr_if_ge (tgt := 42) dX10_decide_33 (by decide) (fun c_33 => ?_) (fun c_33 => absurd (Int32.not_lt.mp (nI_pos (by omega))) c_33)
  refine zr_aload_n dX10_decide_42 rfl ?_
  refine zr_getM (v := .ref (y + 1)) dX10_decide_43 fX10_7 g0 rfl ?_
  refine zr_iload_n dX10_decide_46 rfl ?_
  refine zr_pSi [.ref ((y + 1))] dX10_decide_47 vX10_138 (qX10_caseAt hX (i := i)) (by decide) (by decide) (by decide) rfl rfl (Nat.le_of_ble_eq_true rfl) rfl ?_
  refine zr_iconst (v := 1) dX10_decide_50 (by decide) ?_
  refine zr_iadd dX10_decide_51 ?_
  refine zr_eqi (x' := nI ((2 + 5 * i) + 1)) (nI_add (2 + 5 * i) 1) ?_
  refine zr_aload_n dX10_decide_52 rfl ?_
  refine zr_getM (v := .ref (y + 1)) dX10_decide_53 fX10_7 g0 rfl ?_
  refine zr_iload_n dX10_decide_56 rfl ?_
  refine zr_pSi [.ref ((y + 1)), .int (nI ((2 + 5 * i) + 1)), .ref ((y + 1))] dX10_decide_57 vX10_207 (qX10_precedentAt hX (i := p)) (by decide) (by decide) (by decide) rfl rfl (Nat.le_of_ble_eq_true rfl) rfl ?_
  refine zr_iconst (v := 1) dX10_decide_60 (by decide) ?_
  refine zr_iadd dX10_decide_61 ?_
  refine zr_eqi (x' := nI ((42 + 5 * p) + 1)) (nI_add (42 + 5 * p) 1) ?_
  refine zr_iaload dX10_decide_62 kh25 (vp_in_nI (n := (42 + 5 * p) + 1) (by omega) (by omega)) ?_
  rw [nI_clamp (n := (42 + 5 * p) + 1) (by omega)]
  refine zr_eqi (x' := (zpd A p)) ((rp p hp).2.1) ?_
  refine zr_iastore dX10_decide_63 kh25 (vp_in_nI (n := (2 + 5 * i) + 1) (by omega) (by omega)) ?_
  rw [nI_clamp (n := (2 + 5 * i) + 1) (by omega)]
  refine zr_sig (fun ks34 e_ks34 => ?_)
  have kh35 : ks34.1 (y + 1) = .inl (0, 82, .inl (upd g ((2 + 5 * i) + 1) (zpd A p))) := by rw [e_ks34]; exact zup_at _ _ _
  have kh36 : ks34.1 (y + 3) = .inl (0, 82, .inl sv) := by rw [e_ks34, zup_ne _ _ (by omega)]; exact kh26
  have kh37 : ks34.1 (y + 4) = .inl (0, 82, .inl bf) := by rw [e_ks34, zup_ne _ _ (by omega)]; exact kh27
  have kh38 : ks34.1 (y + 5) = .inl (0, 60, .inl ip) := by rw [e_ks34, zup_ne _ _ (by omega)]; exact kh28
  have kh39 : ks34.1 (y + 6) = .inl (1, 400, .inl sg) := by rw [e_ks34, zup_ne _ _ (by omega)]; exact kh29
  have kh40 : ks34.1 (y + 11) = .inl (0, 93, .inl td) := by rw [e_ks34, zup_ne _ _ (by omega)]; exact kh30
  have kh41 : ks34.1 (y + 2) = .inl (0, 656, .inl kp1) := by rw [e_ks34, zup_ne _ _ (by omega)]; exact kh31
  have kh42 : ks34.1 y = zmO y (upd (upd (upd (upd F 5 (nI (mN w m))) 7 0) 8 0) 19 v1) := by rw [e_ks34, zup_ne _ _ (by omega)]; exact g0
  have kF43 := zFr.put kF33 e_ks34 (by unfold zMq; omega)
  have kR44 : zWa y ks34 := zWa.fr kW1 (zFr.put (P := fun q => q = (y + 1)) zFr.rf e_ks34 rfl) (by intro q h1 h2 h3; (try simp only [zIn, zJf] at h3); omega)
  have kR45 : zXa y ks34 := zXa.fr kX1 (zFr.put (P := fun q => q = (y + 1)) zFr.rf e_ks34 rfl) (by intro q h1 h2 h3; (try simp only [zIn, zJf] at h3); omega)
  have kR46 : zOa y ks34 := zOa.fr kO1 (zFr.put (P := fun q => q = (y + 1)) zFr.rf e_ks34 rfl) (by intro q h1 h2 h3; (try simp only [zIn, zJf] at h3); omega)
  have kR47 : zCy y ks34 := zCy.fr kR32 (zFr.put (P := fun q => q = (y + 1)) zFr.rf e_ks34 rfl) (by intro q h1 h2 h3; (try simp only [zIn, zJf] at h3); omega)
  refine zr_aload_n dX10_decide_64 rfl ?_
  refine zr_getM (v := .ref (y + 1)) dX10_decide_65 fX10_7 kh42 rfl ?_
  refine zr_iload_n dX10_decide_68 rfl ?_
  refine zr_pSi [.ref ((y + 1))] dX10_decide_69 vX10_138 (qX10_caseAt hX (i := i)) (by decide) (by decide) (by decide) rfl rfl (Nat.le_of_ble_eq_true rfl) rfl ?_
  refine zr_iconst (v := 2) dX10_decide_72 (by decide) ?_
  refine zr_iadd dX10_decide_73 ?_
  refine zr_eqi (x' := nI ((2 + 5 * i) + 2)) (nI_add (2 + 5 * i) 2) ?_
  refine zr_iload_n dX10_decide_74 rfl ?_
  refine zr_iastore dX10_decide_75 kh35 (vp_in_nI (n := (2 + 5 * i) + 2) (by omega) (by omega)) ?_
  rw [nI_clamp (n := (2 + 5 * i) + 2) (by omega)]
  refine zr_sig (fun ks48 e_ks48 => ?_)
  have kh49 : ks48.1 (y + 1) = .inl (0, 82, .inl (upd (upd g ((2 + 5 * i) + 1) (zpd A p)) ((2 + 5 * i) + 2) (nI p))) := by rw [e_ks48]; exact zup_at _ _ _
  have kh50 : ks48.1 (y + 3) = .inl (0, 82, .inl sv) := by rw [e_ks48, zup_ne _ _ (by omega)]; exact kh36
  have kh51 : ks48.1 (y + 4) = .inl (0, 82, .inl bf) := by rw [e_ks48, zup_ne _ _ (by omega)]; exact kh37
  have kh52 : ks48.1 (y + 5) = .inl (0, 60, .inl ip) := by rw [e_ks48, zup_ne _ _ (by omega)]; exact kh38
  have kh53 : ks48.1 (y + 6) = .inl (1, 400, .inl sg) := by rw [e_ks48, zup_ne _ _ (by omega)]; exact kh39
  have kh54 : ks48.1 (y + 11) = .inl (0, 93, .inl td) := by rw [e_ks48, zup_ne _ _ (by omega)]; exact kh40
  have kh55 : ks48.1 (y + 2) = .inl (0, 656, .inl kp1) := by rw [e_ks48, zup_ne _ _ (by omega)]; exact kh41
  have kh56 : ks48.1 y = zmO y (upd (upd (upd (upd F 5 (nI (mN w m))) 7 0) 8 0) 19 v1) := by rw [e_ks48, zup_ne _ _ (by omega)]; exact kh42
  have kF57 := zFr.put kF43 e_ks48 (by unfold zMq; omega)
  have kR58 : zWa y ks48 := zWa.fr kR44 (zFr.put (P := fun q => q = (y + 1)) zFr.rf e_ks48 rfl) (by intro q h1 h2 h3; (try simp only [zIn, zJf] at h3); omega)
  have kR59 : zXa y ks48 := zXa.fr kR45 (zFr.put (P := fun q => q = (y + 1)) zFr.rf e_ks48 rfl) (by intro q h1 h2 h3; (try simp only [zIn, zJf] at h3); omega)
  have kR60 : zOa y ks48 := zOa.fr kR46 (zFr.put (P := fun q => q = (y + 1)) zFr.rf e_ks48 rfl) (by intro q h1 h2 h3; (try simp only [zIn, zJf] at h3); omega)
  have kR61 : zCy y ks48 := zCy.fr kR47 (zFr.put (P := fun q => q = (y + 1)) zFr.rf e_ks48 rfl) (by intro q h1 h2 h3; (try simp only [zIn, zJf] at h3); omega)
  refine zr_aload_n dX10_decide_76 rfl ?_
  refine zr_iload_n dX10_decide_77 rfl ?_
  refine zr_iconst (v := 1) dX10_decide_78 (by decide) ?_
  refine zr_pVi [] dX10_decide_79 vX10_149 (qX10_of hX (i := i) (k := 1) kh56 kh49 (by omega)) kh56 (by decide) (by decide) (by decide) rfl rfl (Nat.le_of_ble_eq_true rfl) (by decide) rfl ?_
  refine zr_eqi (x' := (zpd A p)) (by rw [upd_ne _ _ (by omega)]; exact upd_at _ _ _) ?_
  refine zr_iconst (v := 1) dX10_decide_82 (by decide) ?_
  refine zr_icmp_ne (tgt := 90) dX10_decide_83 (by decide) (fun c_83 => ?_) (fun c_83 => ?_)
  · refine zr_iconst (v := 0) dX10_decide_90 (by decide) ?_
    exact zr_ireturn dX10_decide_91 rfl (rfl) (⟨_, rfl, by rw [zvt_p (B := aVer A i) (i := i) (p := p) (by rw [aVer_f hz (by omega)]; exact pk_us) (by omega), aVer_f hz (by omega)]; exact (if_pos (Classical.not_not.mp (fun q => c_83 ((zpd_1 A p).mpr q)))).symm, kF57, ⟨_, _, _, _, _, _, _, _, kh56, ⟨f4, rfl, f6, rfl, rfl, f9, f10, f11, f13, f14, f16, f27⟩, kh49, kh55, kh50, kh51, kh52, kh53, kh54, kR58, kR61, kR59, kR60, (by rw [aVer_f hz (by omega)]; exact zGr.setR gr hA hi (by omega) (fun q a b => by rw [upd_ne _ _ (by omega), upd_ne _ _ (by omega)]) (by rw [upd_ne _ _ (by omega)]; exact upd_at _ _ _) (upd_at _ _ _)), gS, gK, (mN_8 hm8), gU1, hn60, hT, hll, hln⟩⟩)
  · refine zr_iconst (v := 1) dX10_decide_86 (by decide) ?_
    refine zr_goto (tgt := 91) dX10_decide_87 (by decide) ?_
    exact zr_ireturn dX10_decide_91 rfl (rfl) (⟨_, rfl, by rw [zvt_p (B := aVer A i) (i := i) (p := p) (by rw [aVer_f hz (by omega)]; exact pk_us) (by omega), aVer_f hz (by omega)]; exact (if_neg ((zpd_1 A p).mp c_83)).symm, kF57, ⟨_, _, _, _, _, _, _, _, kh56, ⟨f4, rfl, f6, rfl, rfl, f9, f10, f11, f13, f14, f16, f27⟩, kh49, kh55, kh50, kh51, kh52, kh53, kh54, kR58, kR61, kR59, kR60, (by rw [aVer_f hz (by omega)]; exact zGr.setR gr hA hi (by omega) (fun q a b => by rw [upd_ne _ _ (by omega), upd_ne _ _ (by omega)]) (by rw [upd_ne _ _ (by omega)]; exact upd_at _ _ _) (upd_at _ _ _)), gS, gK, (mN_8 hm8), gU1, hn60, hT, hll, hln⟩⟩)

set_option maxHeartbeats 400000 in
set_option maxRecDepth 100000 in
theorem qX10_decideM {X : zX} (hX : X.1.stackTraces = false) {σ : zS} {y : Nat} {w tm cd dn : Int32} {K : zDk} {A S : zDk} {m : Nat} {U : Nat → zDk} {n : Nat} {T : Nat → Int32} {ll : Nat} {ln : Nat → Int32} {hs kf ld dt dc : Int32} {i : Nat} (hM : zMo y w tm cd dn K A S m U n T ll ln hs kf ld dt dc σ) (gA : zGd A) (hi : i < kC A) (hr : kR A i = -1) (hP7 : kP A < 8) (hz : zPf A i = -1) (wU : ∀ t, t < m → zDw (U t)) : zMet X mX10_decide yX10_decide 5 0 0 [.ref y, .int (nI i)] σ (zI (fun y_ s => y_ = zvt (aVer A i) i ∧ zFr σ s (zMq y) ∧ zMo y w tm 0 0 K (aVer A i) S (mN w m) (UN w A U) n T ll ln hs kf ld dt dc s)) := by
  refine zMet_of (ls := [some (.ref y), some (.int (nI i)), none]) rfl (by decide +kernel) rfl (fun h => by cases h) hX (Nat.le_of_ble_eq_true rfl) rfl ?_
  obtain ⟨F, g, kp, sv, bf, ip, sg, td, h0, hf, h1, h2, h3, h4, h5, h6, h11, hWa, hC, hX9, hOt, gr, gS, gK, hm8, gU, hn60, hT, hll, hln⟩ := id hM
  obtain ⟨f4, f5, f6, f7, f8, f9, f10, f11, f13, f14, f16, f27⟩ := id hf
  have hA := gA.1
  obtain ⟨r0, r1, rc, rp⟩ := id gr
  obtain ⟨hC8, hP8, hW⟩ := id hA
  have n16 := (hW i (by omega)).1
  refine zr_aload_n dX10_decide_0 rfl ?_
  refine zr_iload_n dX10_decide_1 rfl ?_
  refine zr_callVi [] dX10_decide_2 vX10_155 (qX10_isNone hX (i := i) h0 h1 r0 (by omega) hi) h0 (by decide) (by decide) (by decide) rfl rfl (Nat.le_of_ble_eq_true rfl) (by decide) rfl (fun kr1 s_kr1 h_kr1 => ?_)
  obtain ⟨e_kr1, F_kr1, g0_kr1⟩ := h_kr1
  have kh2 : s_kr1.1 (y + 1) = .inl (0, 82, .inl g) := zFr.get F_kr1 (by omega) h1
  have kh3 : s_kr1.1 (y + 2) = .inl (0, 656, .inl kp) := zFr.get F_kr1 (by omega) h2
  have kh4 : s_kr1.1 (y + 3) = .inl (0, 82, .inl sv) := zFr.get F_kr1 (by omega) h3
  have kh5 : s_kr1.1 (y + 4) = .inl (0, 82, .inl bf) := zFr.get F_kr1 (by omega) h4
  have kh6 : s_kr1.1 (y + 5) = .inl (0, 60, .inl ip) := zFr.get F_kr1 (by omega) h5
  have kh7 : s_kr1.1 (y + 6) = .inl (1, 400, .inl sg) := zFr.get F_kr1 (by omega) h6
  have kh8 : s_kr1.1 (y + 11) = .inl (0, 93, .inl td) := zFr.get F_kr1 (by omega) h11
  have kR9 : zWa y s_kr1 := zWa.fr hWa F_kr1 (by intro q h1 h2 h3; (try simp only [zIn, zJf] at h3); omega)
  have kR10 : zCy y s_kr1 := zCy.fr hC F_kr1 (by intro q h1 h2 h3; (try simp only [zIn, zJf] at h3); omega)
  have kR11 : zXa y s_kr1 := zXa.fr hX9 F_kr1 (by intro q h1 h2 h3; (try simp only [zIn, zJf] at h3); omega)
  have kR12 : zOa y s_kr1 := zOa.fr hOt F_kr1 (by intro q h1 h2 h3; (try simp only [zIn, zJf] at h3); omega)
  have kF13 := zFr.tr zFr.rf (P := zMq y) F_kr1 (by intro q hq; unfold zMq; omega)
  obtain rfl := e_kr1.symm
  refine zr_if_ne (tgt := 16) dX10_decide_5 (by decide) (fun c_5 => absurd (by decide) c_5) (fun c_5 => ?_)
  refine zr_aload_n dX10_decide_8 rfl ?_
  refine zr_iload_n dX10_decide_9 rfl ?_
  refine zr_pVi [] dX10_decide_10 vX10_158 (qX10_isClosed hX (i := i) g0_kr1 kh2 gr hA hi hr) g0_kr1 (by decide) (by decide) (by decide) rfl rfl (Nat.le_of_ble_eq_true rfl) (by decide) rfl ?_
  refine zr_if_eq (tgt := 18) dX10_decide_13 (by decide) (fun c_13 => ?_) (fun c_13 => absurd (by decide) c_13)
  refine zr_aload_n dX10_decide_18 rfl ?_
  refine zr_aload_n dX10_decide_19 rfl ?_
  refine zr_getM (v := .ref (y + 1)) dX10_decide_20 fX10_7 g0_kr1 rfl ?_
  refine zr_callVv [] dX10_decide_23 vX10_145 (qX10_keeps hX (r := y + 1) g0_kr1 kh2 (by omega) (by omega) kh3 f5 f6 hm8 gr hA gU wU) g0_kr1 (by decide) (by decide) (by decide) rfl rfl (Nat.le_of_ble_eq_true rfl) (by decide) rfl (fun s0 h_ => ?_)
  obtain ⟨F0, g00, kp1, kc1, gU1⟩ := h_
  have kh14 : s0.1 (y + 1) = .inl (0, 82, .inl g) := zFr.get F0 (by omega) kh2
  have kh15 : s0.1 (y + 3) = .inl (0, 82, .inl sv) := zFr.get F0 (by omega) kh4
  have kh16 : s0.1 (y + 4) = .inl (0, 82, .inl bf) := zFr.get F0 (by omega) kh5
  have kh17 : s0.1 (y + 5) = .inl (0, 60, .inl ip) := zFr.get F0 (by omega) kh6
  have kh18 : s0.1 (y + 6) = .inl (1, 400, .inl sg) := zFr.get F0 (by omega) kh7
  have kh19 : s0.1 (y + 11) = .inl (0, 93, .inl td) := zFr.get F0 (by omega) kh8
  have kR20 := zWa.fr kR9 F0 (by intro q a b c; omega)
  have kR21 := zCy.fr kR10 F0 (by intro q a b c; omega)
  have kR22 := zXa.fr kR11 F0 (by intro q a b c; omega)
  have kR23 := zOa.fr kR12 F0 (by intro q a b c; omega)
  have kF24 := zFr.tr kF13 F0 (by intro q hq; unfold zMq; omega)
  refine zr_aload_n dX10_decide_26 rfl ?_
  refine zr_iload_n dX10_decide_27 rfl ?_
  refine zr_callVi [] dX10_decide_28 vX10_213 (qX10_precedent hX (i := i) g00 kh14 gr hA (by omega) kR20 kR22 kR23) g00 (by decide) (by decide) (by decide) rfl rfl (Nat.le_of_ble_eq_true rfl) (by decide) rfl (fun r1 s1 h_ => ?_)
  obtain ⟨rfl, v1, F1, g0, kW1, kX1, kO1⟩ := h_
  have kh25 : s1.1 (y + 1) = .inl (0, 82, .inl g) := zFr.get F1 (by omega) kh14
  have kh26 : s1.1 (y + 3) = .inl (0, 82, .inl sv) := zFr.get F1 (by omega) kh15
  have kh27 : s1.1 (y + 4) = .inl (0, 82, .inl bf) := zFr.get F1 (by omega) kh16
  have kh28 : s1.1 (y + 5) = .inl (0, 60, .inl ip) := zFr.get F1 (by omega) kh17
  have kh29 : s1.1 (y + 6) = .inl (1, 400, .inl sg) := zFr.get F1 (by omega) kh18
  have kh30 : s1.1 (y + 11) = .inl (0, 93, .inl td) := zFr.get F1 (by omega) kh19
  have kh31 : s1.1 (y + 2) = .inl (0, 656, .inl kp1) := zFr.get F1 (by omega) kc1
  have kR32 := zCy.fr kR21 F1 (by intro q a b c; omega)
  have kF33 := zFr.tr kF24 F1 (by intro q hq; unfold zMq; omega)
  rw [hz]
  refine zr_istore_n (ls' := [some (.ref y), some (.int (nI i)), some (.int ((-1)))]) dX10_decide_31 rfl (by decide) rfl ?_
  refine zr_iload_n dX10_decide_32 rfl ?_
  refine zr_if_ge (tgt := 42) dX10_decide_33 (by decide) (fun c_33 => absurd c_33 (by decide)) (fun c_33 => ?_)
  refine zr_aload_n dX10_decide_36 rfl ?_
  refine zr_iload_n dX10_decide_37 rfl ?_
  refine zr_callVi [] dX10_decide_38 vX10_216 (qX10_makes hX (i := i) g0 kh25 gr hA gA hi hP7) g0 (by decide) (by decide) (by decide) rfl rfl (Nat.le_of_ble_eq_true rfl) (by decide) rfl (fun r4 s4 h_ => ?_)
  obtain ⟨rfl, F4, g4, c4, gr4⟩ := h_
  have kh34 : s4.1 (y + 3) = .inl (0, 82, .inl sv) := zFr.get F4 (by omega) kh26
  have kh35 : s4.1 (y + 4) = .inl (0, 82, .inl bf) := zFr.get F4 (by omega) kh27
  have kh36 : s4.1 (y + 5) = .inl (0, 60, .inl ip) := zFr.get F4 (by omega) kh28
  have kh37 : s4.1 (y + 6) = .inl (1, 400, .inl sg) := zFr.get F4 (by omega) kh29
  have kh38 : s4.1 (y + 11) = .inl (0, 93, .inl td) := zFr.get F4 (by omega) kh30
  have kh39 : s4.1 (y + 2) = .inl (0, 656, .inl kp1) := zFr.get F4 (by omega) kh31
  have kh40 : s4.1 y = zmO y (upd (upd (upd (upd F 5 (nI (mN w m))) 7 0) 8 0) 19 v1) := zFr.get F4 (by omega) g0
  have kR41 := zWa.fr kW1 F4 (by intro q a b c; omega)
  have kR42 := zXa.fr kX1 F4 (by intro q a b c; omega)
  have kR43 := zOa.fr kO1 F4 (by intro q a b c; omega)
  have kR44 := zCy.fr kR32 F4 (by intro q a b c; omega)
  have kF45 := zFr.tr kF33 F4 (by intro q hq; unfold zMq; omega)
  refine zr_istore_n (ls' := [some (.ref y), some (.int (nI i)), some (.int (nI (kP A)))]) dX10_decide_41 rfl (by decide) rfl ?_
  refine zr_aload_n dX10_decide_42 rfl ?_
  refine zr_getM (v := .ref (y + 1)) dX10_decide_43 fX10_7 kh40 rfl ?_
  refine zr_iload_n dX10_decide_46 rfl ?_
  refine zr_pSi [.ref ((y + 1))] dX10_decide_47 vX10_138 (qX10_caseAt hX (i := i)) (by decide) (by decide) (by decide) rfl rfl (Nat.le_of_ble_eq_true rfl) rfl ?_
  refine zr_iconst (v := 1) dX10_decide_50 (by decide) ?_
  refine zr_iadd dX10_decide_51 ?_
  refine zr_eqi (x' := nI ((2 + 5 * i) + 1)) (nI_add (2 + 5 * i) 1) ?_
  refine zr_aload_n dX10_decide_52 rfl ?_
  refine zr_getM (v := .ref (y + 1)) dX10_decide_53 fX10_7 kh40 rfl ?_
  refine zr_iload_n dX10_decide_56 rfl ?_
  refine zr_pSi [.ref ((y + 1)), .int (nI ((2 + 5 * i) + 1)), .ref ((y + 1))] dX10_decide_57 vX10_207 (qX10_precedentAt hX (i := kP A)) (by decide) (by decide) (by decide) rfl rfl (Nat.le_of_ble_eq_true rfl) rfl ?_
  refine zr_iconst (v := 1) dX10_decide_60 (by decide) ?_
  refine zr_iadd dX10_decide_61 ?_
  refine zr_eqi (x' := nI ((42 + 5 * (kP A)) + 1)) (nI_add (42 + 5 * (kP A)) 1) ?_
  refine zr_iaload dX10_decide_62 c4 (vp_in_nI (n := (42 + 5 * (kP A)) + 1) (by omega) (by omega)) ?_
  rw [nI_clamp (n := (42 + 5 * (kP A)) + 1) (by omega)]
  refine zr_eqi (x' := (zpd (aPrec A i (zTg A i)) (kP A))) ((gr4.2.2.2 (kP A) (Nat.lt_succ_self _)).2.1) ?_
  refine zr_iastore dX10_decide_63 c4 (vp_in_nI (n := (2 + 5 * i) + 1) (by omega) (by omega)) ?_
  rw [nI_clamp (n := (2 + 5 * i) + 1) (by omega)]
  refine zr_sig (fun ks46 e_ks46 => ?_)
  have kh47 : ks46.1 (y + 3) = .inl (0, 82, .inl sv) := by rw [e_ks46, zup_ne _ _ (by omega)]; exact kh34
  have kh48 : ks46.1 (y + 4) = .inl (0, 82, .inl bf) := by rw [e_ks46, zup_ne _ _ (by omega)]; exact kh35
  have kh49 : ks46.1 (y + 5) = .inl (0, 60, .inl ip) := by rw [e_ks46, zup_ne _ _ (by omega)]; exact kh36
  have kh50 : ks46.1 (y + 6) = .inl (1, 400, .inl sg) := by rw [e_ks46, zup_ne _ _ (by omega)]; exact kh37
  have kh51 : ks46.1 (y + 11) = .inl (0, 93, .inl td) := by rw [e_ks46, zup_ne _ _ (by omega)]; exact kh38
  have kh52 : ks46.1 (y + 2) = .inl (0, 656, .inl kp1) := by rw [e_ks46, zup_ne _ _ (by omega)]; exact kh39
  have kh53 : ks46.1 y = zmO y (upd (upd (upd (upd F 5 (nI (mN w m))) 7 0) 8 0) 19 v1) := by rw [e_ks46, zup_ne _ _ (by omega)]; exact kh40
  have kh54 : ks46.1 (y + 1) = .inl (0, 82, .inl (upd g4 ((2 + 5 * i) + 1) (zpd (aPrec A i (zTg A i)) (kP A)))) := by rw [e_ks46]; exact zup_at _ _ _
  have kF55 := zFr.put kF45 e_ks46 (by unfold zMq; omega)
  have kR56 : zWa y ks46 := zWa.fr kR41 (zFr.put (P := fun q => q = (y + 1)) zFr.rf e_ks46 rfl) (by intro q h1 h2 h3; (try simp only [zIn, zJf] at h3); omega)
  have kR57 : zXa y ks46 := zXa.fr kR42 (zFr.put (P := fun q => q = (y + 1)) zFr.rf e_ks46 rfl) (by intro q h1 h2 h3; (try simp only [zIn, zJf] at h3); omega)
  have kR58 : zOa y ks46 := zOa.fr kR43 (zFr.put (P := fun q => q = (y + 1)) zFr.rf e_ks46 rfl) (by intro q h1 h2 h3; (try simp only [zIn, zJf] at h3); omega)
  have kR59 : zCy y ks46 := zCy.fr kR44 (zFr.put (P := fun q => q = (y + 1)) zFr.rf e_ks46 rfl) (by intro q h1 h2 h3; (try simp only [zIn, zJf] at h3); omega)
  refine zr_aload_n dX10_decide_64 rfl ?_
  refine zr_getM (v := .ref (y + 1)) dX10_decide_65 fX10_7 kh53 rfl ?_
  refine zr_iload_n dX10_decide_68 rfl ?_
  refine zr_pSi [.ref ((y + 1))] dX10_decide_69 vX10_138 (qX10_caseAt hX (i := i)) (by decide) (by decide) (by decide) rfl rfl (Nat.le_of_ble_eq_true rfl) rfl ?_
  refine zr_iconst (v := 2) dX10_decide_72 (by decide) ?_
  refine zr_iadd dX10_decide_73 ?_
  refine zr_eqi (x' := nI ((2 + 5 * i) + 2)) (nI_add (2 + 5 * i) 2) ?_
  refine zr_iload_n dX10_decide_74 rfl ?_
  refine zr_iastore dX10_decide_75 kh54 (vp_in_nI (n := (2 + 5 * i) + 2) (by omega) (by omega)) ?_
  rw [nI_clamp (n := (2 + 5 * i) + 2) (by omega)]
  refine zr_sig (fun ks60 e_ks60 => ?_)
  have kh61 : ks60.1 (y + 3) = .inl (0, 82, .inl sv) := by rw [e_ks60, zup_ne _ _ (by omega)]; exact kh47
  have kh62 : ks60.1 (y + 4) = .inl (0, 82, .inl bf) := by rw [e_ks60, zup_ne _ _ (by omega)]; exact kh48
  have kh63 : ks60.1 (y + 5) = .inl (0, 60, .inl ip) := by rw [e_ks60, zup_ne _ _ (by omega)]; exact kh49
  have kh64 : ks60.1 (y + 6) = .inl (1, 400, .inl sg) := by rw [e_ks60, zup_ne _ _ (by omega)]; exact kh50
  have kh65 : ks60.1 (y + 11) = .inl (0, 93, .inl td) := by rw [e_ks60, zup_ne _ _ (by omega)]; exact kh51
  have kh66 : ks60.1 (y + 2) = .inl (0, 656, .inl kp1) := by rw [e_ks60, zup_ne _ _ (by omega)]; exact kh52
  have kh67 : ks60.1 y = zmO y (upd (upd (upd (upd F 5 (nI (mN w m))) 7 0) 8 0) 19 v1) := by rw [e_ks60, zup_ne _ _ (by omega)]; exact kh53
  have kh68 : ks60.1 (y + 1) = .inl (0, 82, .inl (upd (upd g4 ((2 + 5 * i) + 1) (zpd (aPrec A i (zTg A i)) (kP A))) ((2 + 5 * i) + 2) (nI (kP A)))) := by rw [e_ks60]; exact zup_at _ _ _
  have kF69 := zFr.put kF55 e_ks60 (by unfold zMq; omega)
  have kR70 : zWa y ks60 := zWa.fr kR56 (zFr.put (P := fun q => q = (y + 1)) zFr.rf e_ks60 rfl) (by intro q h1 h2 h3; (try simp only [zIn, zJf] at h3); omega)
  have kR71 : zXa y ks60 := zXa.fr kR57 (zFr.put (P := fun q => q = (y + 1)) zFr.rf e_ks60 rfl) (by intro q h1 h2 h3; (try simp only [zIn, zJf] at h3); omega)
  have kR72 : zOa y ks60 := zOa.fr kR58 (zFr.put (P := fun q => q = (y + 1)) zFr.rf e_ks60 rfl) (by intro q h1 h2 h3; (try simp only [zIn, zJf] at h3); omega)
  have kR73 : zCy y ks60 := zCy.fr kR59 (zFr.put (P := fun q => q = (y + 1)) zFr.rf e_ks60 rfl) (by intro q h1 h2 h3; (try simp only [zIn, zJf] at h3); omega)
  refine zr_aload_n dX10_decide_76 rfl ?_
  refine zr_iload_n dX10_decide_77 rfl ?_
  refine zr_iconst (v := 1) dX10_decide_78 (by decide) ?_
  refine zr_pVi [] dX10_decide_79 vX10_149 (qX10_of hX (i := i) (k := 1) kh67 kh68 (by omega)) kh67 (by decide) (by decide) (by decide) rfl rfl (Nat.le_of_ble_eq_true rfl) (by decide) rfl ?_
  refine zr_eqi (x' := (zpd (aPrec A i (zTg A i)) (kP A))) (by rw [upd_ne _ _ (by omega)]; exact upd_at _ _ _) ?_
  refine zr_iconst (v := 1) dX10_decide_82 (by decide) ?_
  refine zr_icmp_ne (tgt := 90) dX10_decide_83 (by decide) (fun c_83 => ?_) (fun c_83 => ?_)
  · refine zr_iconst (v := 0) dX10_decide_90 (by decide) ?_
    exact zr_ireturn dX10_decide_91 rfl (rfl) (⟨_, rfl, by rw [zvt_p (B := aVer A i) (i := i) (p := (kP A)) (by rw [aVer_m hz]; exact pk_us) (by omega), aVer_m hz]; exact (if_pos (Classical.not_not.mp (fun q => c_83 ((zpd_1 (aPrec A i (zTg A i)) (kP A)).mpr q)))).symm, kF69, ⟨_, _, _, _, _, _, _, _, kh67, ⟨f4, rfl, f6, rfl, rfl, f9, f10, f11, f13, f14, f16, f27⟩, kh68, kh66, kh61, kh62, kh63, kh64, kh65, kR70, kR73, kR71, kR72, (by rw [aVer_m hz]; exact zGr.setR gr4 (hA.prec hP7 (c := i) (by omega) (zTg01 A i)) hi (by omega) (fun q a b => by rw [upd_ne _ _ (by omega), upd_ne _ _ (by omega)]) (by rw [upd_ne _ _ (by omega)]; exact upd_at _ _ _) (upd_at _ _ _)), gS, gK, (mN_8 hm8), gU1, hn60, hT, hll, hln⟩⟩)
  · refine zr_iconst (v := 1) dX10_decide_86 (by decide) ?_
    refine zr_goto (tgt := 91) dX10_decide_87 (by decide) ?_
    exact zr_ireturn dX10_decide_91 rfl (rfl) (⟨_, rfl, by rw [zvt_p (B := aVer A i) (i := i) (p := (kP A)) (by rw [aVer_m hz]; exact pk_us) (by omega), aVer_m hz]; exact (if_neg ((zpd_1 (aPrec A i (zTg A i)) (kP A)).mp c_83)).symm, kF69, ⟨_, _, _, _, _, _, _, _, kh67, ⟨f4, rfl, f6, rfl, rfl, f9, f10, f11, f13, f14, f16, f27⟩, kh68, kh66, kh61, kh62, kh63, kh64, kh65, kR70, kR73, kR71, kR72, (by rw [aVer_m hz]; exact zGr.setR gr4 (hA.prec hP7 (c := i) (by omega) (zTg01 A i)) hi (by omega) (fun q a b => by rw [upd_ne _ _ (by omega), upd_ne _ _ (by omega)]) (by rw [upd_ne _ _ (by omega)]; exact upd_at _ _ _) (upd_at _ _ _)), gS, gK, (mN_8 hm8), gU1, hn60, hT, hll, hln⟩⟩)

set_option maxHeartbeats 400000 in
set_option maxRecDepth 100000 in
theorem qX10_decideD2 {X : zX} (hX : X.1.stackTraces = false) {σ : zS} {y : Nat} {w tm cd dn : Int32} {K : zDk} {A S : zDk} {m : Nat} {U : Nat → zDk} {n : Nat} {T : Nat → Int32} {ll : Nat} {ln : Nat → Int32} {hs kf ld dt dc : Int32} {i : Nat} (hM : zMo y w tm cd dn K A S m U n T ll ln hs kf ld dt dc σ) (gA : zGd A) (hi : i < kC A) (hr : ¬ kR A i = -1) : zMet X mX10_decide yX10_decide 4 0 0 [.ref y, .int (nI i)] σ (zI (fun y_ s => True ∧ zFr σ s (zMq y) ∧ zMo y w tm 2 1 K A S m U n T ll ln hs kf 2 (kR A i) 0 s)) := by
  refine zMet_of (ls := [some (.ref y), some (.int (nI i)), none]) rfl (by decide +kernel) rfl (fun h => by cases h) hX (Nat.le_of_ble_eq_true rfl) rfl ?_
  obtain ⟨F, g, kp, sv, bf, ip, sg, td, h0, hf, h1, h2, h3, h4, h5, h6, h11, hWa, hC, hX9, hOt, gr, gS, gK, hm8, gU, hn60, hT, hll, hln⟩ := id hM
  obtain ⟨f4, f5, f6, f7, f8, f9, f10, f11, f13, f14, f16, f27⟩ := id hf
  have hA := gA.1
  obtain ⟨r0, r1, rc, rp⟩ := id gr
  obtain ⟨hC8, hP8, hW⟩ := id hA
  refine zr_aload_n dX10_decide_0 rfl ?_
  refine zr_iload_n dX10_decide_1 rfl ?_
  refine zr_callVi [] dX10_decide_2 vX10_155 (qX10_isNone hX (i := i) h0 h1 r0 (by omega) hi) h0 (by decide) (by decide) (by decide) rfl rfl (Nat.le_of_ble_eq_true rfl) (by decide) rfl (fun kr1 s_kr1 h_kr1 => ?_)
  obtain ⟨e_kr1, F_kr1, g0_kr1⟩ := h_kr1
  have kh2 : s_kr1.1 (y + 1) = .inl (0, 82, .inl g) := zFr.get F_kr1 (by omega) h1
  have kh3 : s_kr1.1 (y + 2) = .inl (0, 656, .inl kp) := zFr.get F_kr1 (by omega) h2
  have kh4 : s_kr1.1 (y + 3) = .inl (0, 82, .inl sv) := zFr.get F_kr1 (by omega) h3
  have kh5 : s_kr1.1 (y + 4) = .inl (0, 82, .inl bf) := zFr.get F_kr1 (by omega) h4
  have kh6 : s_kr1.1 (y + 5) = .inl (0, 60, .inl ip) := zFr.get F_kr1 (by omega) h5
  have kh7 : s_kr1.1 (y + 6) = .inl (1, 400, .inl sg) := zFr.get F_kr1 (by omega) h6
  have kh8 : s_kr1.1 (y + 11) = .inl (0, 93, .inl td) := zFr.get F_kr1 (by omega) h11
  have kR9 : zWa y s_kr1 := zWa.fr hWa F_kr1 (by intro q h1 h2 h3; (try simp only [zIn, zJf] at h3); omega)
  have kR10 : zCy y s_kr1 := zCy.fr hC F_kr1 (by intro q h1 h2 h3; (try simp only [zIn, zJf] at h3); omega)
  have kR11 : zXa y s_kr1 := zXa.fr hX9 F_kr1 (by intro q h1 h2 h3; (try simp only [zIn, zJf] at h3); omega)
  have kR12 : zOa y s_kr1 := zOa.fr hOt F_kr1 (by intro q h1 h2 h3; (try simp only [zIn, zJf] at h3); omega)
  have kF13 := zFr.tr zFr.rf (P := zMq y) F_kr1 (by intro q hq; unfold zMq; omega)
  obtain rfl := e_kr1.symm
  refine zr_if_ne (tgt := 16) dX10_decide_5 (by decide) (fun c_5 => absurd (by decide) c_5) (fun c_5 => ?_)
  refine zr_aload_n dX10_decide_8 rfl ?_
  refine zr_iload_n dX10_decide_9 rfl ?_
  refine zr_callVi [] dX10_decide_10 vX10_158 (qX10_isClosedX hX (i := i) g0_kr1 kh2 gr hA hi hr) g0_kr1 (by decide) (by decide) (by decide) rfl rfl (Nat.le_of_ble_eq_true rfl) (by decide) rfl (fun kr14 s_kr14 h_kr14 => ?_)
  obtain ⟨e_kr14, F_kr14, g0_kr14⟩ := h_kr14
  have kh15 : s_kr14.1 (y + 1) = .inl (0, 82, .inl g) := zFr.get F_kr14 (by omega) kh2
  have kh16 : s_kr14.1 (y + 2) = .inl (0, 656, .inl kp) := zFr.get F_kr14 (by omega) kh3
  have kh17 : s_kr14.1 (y + 3) = .inl (0, 82, .inl sv) := zFr.get F_kr14 (by omega) kh4
  have kh18 : s_kr14.1 (y + 4) = .inl (0, 82, .inl bf) := zFr.get F_kr14 (by omega) kh5
  have kh19 : s_kr14.1 (y + 5) = .inl (0, 60, .inl ip) := zFr.get F_kr14 (by omega) kh6
  have kh20 : s_kr14.1 (y + 6) = .inl (1, 400, .inl sg) := zFr.get F_kr14 (by omega) kh7
  have kh21 : s_kr14.1 (y + 11) = .inl (0, 93, .inl td) := zFr.get F_kr14 (by omega) kh8
  have kR22 : zWa y s_kr14 := zWa.fr kR9 F_kr14 (by intro q h1 h2 h3; (try simp only [zIn, zJf] at h3); omega)
  have kR23 : zCy y s_kr14 := zCy.fr kR10 F_kr14 (by intro q h1 h2 h3; (try simp only [zIn, zJf] at h3); omega)
  have kR24 : zXa y s_kr14 := zXa.fr kR11 F_kr14 (by intro q h1 h2 h3; (try simp only [zIn, zJf] at h3); omega)
  have kR25 : zOa y s_kr14 := zOa.fr kR12 F_kr14 (by intro q h1 h2 h3; (try simp only [zIn, zJf] at h3); omega)
  have kF26 := zFr.tr kF13 F_kr14 (by intro q hq; unfold zMq; omega)
  obtain rfl := e_kr14.symm
  refine zr_if_eq (tgt := 18) dX10_decide_13 (by decide) (fun c_13 => absurd c_13 (by decide)) (fun c_13 => ?_)
  refine zr_iconst (v := 0) dX10_decide_16 (by decide) ?_
  exact zr_ireturn dX10_decide_17 rfl (rfl) (⟨_, rfl, trivial, kF26, ⟨_, _, _, _, _, _, _, _, g0_kr14, ⟨f4, f5, f6, rfl, rfl, rfl, rfl, rfl, f13, f14, f16, f27⟩, kh15, kh16, kh17, kh18, kh19, kh20, kh21, kR22, kR23, kR24, kR25, gr, gS, gK, hm8, gU, hn60, hT, hll, hln⟩⟩)

set_option maxHeartbeats 400000 in
set_option maxRecDepth 100000 in
theorem qX10_decideX {X : zX} (hX : X.1.stackTraces = false) {σ : zS} {y : Nat} {w tm cd dn : Int32} {K : zDk} {A S : zDk} {m : Nat} {U : Nat → zDk} {n : Nat} {T : Nat → Int32} {ll : Nat} {ln : Nat → Int32} {hs kf ld dt dc : Int32} {p : Int32} (hM : zMo y w tm cd dn K A S m U n T ll ln hs kf ld dt dc σ) (gA : zGd A) (hno : ¬ (¬ p < 0 ∧ p < nI (kC A))) : zMet X mX10_decide yX10_decide 4 0 0 [.ref y, .int p] σ (zI (fun y_ s => True ∧ zFr σ s (zMq y) ∧ zMo y w tm 1 0 K A S m U n T ll ln hs kf ld dt dc s)) := by
  refine zMet_of (ls := [some (.ref y), some (.int p), none]) rfl (by decide +kernel) rfl (fun h => by cases h) hX (Nat.le_of_ble_eq_true rfl) rfl ?_
  obtain ⟨F, g, kp, sv, bf, ip, sg, td, h0, hf, h1, h2, h3, h4, h5, h6, h11, hWa, hC, hX9, hOt, gr, gS, gK, hm8, gU, hn60, hT, hll, hln⟩ := id hM
  obtain ⟨f4, f5, f6, f7, f8, f9, f10, f11, f13, f14, f16, f27⟩ := id hf
  have hA := gA.1
  obtain ⟨r0, r1, rc, rp⟩ := id gr
  obtain ⟨hC8, hP8, hW⟩ := id hA
  refine zr_aload_n dX10_decide_0 rfl ?_
  refine zr_iload_n dX10_decide_1 rfl ?_
  refine zr_callVi [] dX10_decide_2 vX10_155 (qX10_isNoneX hX h0 h1 r0 (by omega) hno) h0 (by decide) (by decide) (by decide) rfl rfl (Nat.le_of_ble_eq_true rfl) (by decide) rfl (fun kr1 s_kr1 h_kr1 => ?_)
  obtain ⟨e_kr1, F_kr1, g0_kr1⟩ := h_kr1
  have kh2 : s_kr1.1 (y + 1) = .inl (0, 82, .inl g) := zFr.get F_kr1 (by omega) h1
  have kh3 : s_kr1.1 (y + 2) = .inl (0, 656, .inl kp) := zFr.get F_kr1 (by omega) h2
  have kh4 : s_kr1.1 (y + 3) = .inl (0, 82, .inl sv) := zFr.get F_kr1 (by omega) h3
  have kh5 : s_kr1.1 (y + 4) = .inl (0, 82, .inl bf) := zFr.get F_kr1 (by omega) h4
  have kh6 : s_kr1.1 (y + 5) = .inl (0, 60, .inl ip) := zFr.get F_kr1 (by omega) h5
  have kh7 : s_kr1.1 (y + 6) = .inl (1, 400, .inl sg) := zFr.get F_kr1 (by omega) h6
  have kh8 : s_kr1.1 (y + 11) = .inl (0, 93, .inl td) := zFr.get F_kr1 (by omega) h11
  have kR9 : zWa y s_kr1 := zWa.fr hWa F_kr1 (by intro q h1 h2 h3; (try simp only [zIn, zJf] at h3); omega)
  have kR10 : zCy y s_kr1 := zCy.fr hC F_kr1 (by intro q h1 h2 h3; (try simp only [zIn, zJf] at h3); omega)
  have kR11 : zXa y s_kr1 := zXa.fr hX9 F_kr1 (by intro q h1 h2 h3; (try simp only [zIn, zJf] at h3); omega)
  have kR12 : zOa y s_kr1 := zOa.fr hOt F_kr1 (by intro q h1 h2 h3; (try simp only [zIn, zJf] at h3); omega)
  have kF13 := zFr.tr zFr.rf (P := zMq y) F_kr1 (by intro q hq; unfold zMq; omega)
  obtain rfl := e_kr1.symm
  refine zr_if_ne (tgt := 16) dX10_decide_5 (by decide) (fun c_5 => ?_) (fun c_5 => absurd c_5 (by decide))
  refine zr_iconst (v := 0) dX10_decide_16 (by decide) ?_
  exact zr_ireturn dX10_decide_17 rfl (rfl) (⟨_, rfl, trivial, kF13, ⟨_, _, _, _, _, _, _, _, g0_kr1, ⟨f4, f5, f6, rfl, rfl, f9, f10, f11, f13, f14, f16, f27⟩, kh2, kh3, kh4, kh5, kh6, kh7, kh8, kR9, kR10, kR11, kR12, gr, gS, gK, hm8, gU, hn60, hT, hll, hln⟩⟩)

theorem zsf_1 (w : Nat → Int) : 0 < zsf w ↔ zsf w = 1 := by
  have : zsf w = 0 ∨ zsf w = 1 ∨ zsf w = -1 := by
    unfold zsf zsI
    (repeat' split) <;> simp
  rcases this with e | e | e <;> rw [e] <;> decide
def aRv (A : zDk) (p : Nat) : zDk := aSetT (aSetA A p 1) p (if kT A p = 0 then 1 else 0)
theorem zpd_rv (A : zDk) (p : Nat) : (3 : Int32) - zpd A p = zpd (aRv A p) p := by
  unfold zpd
  rw [show kT (aRv A p) p = (if kT A p = 0 then 1 else 0) from pk_us]
  by_cases h : kT A p = 0
  · rw [if_pos h, if_pos h]; decide
  · rw [if_neg h, if_neg h]; decide
theorem zvd_rv {A : zDk} {p j : Nat} (hp : p < 8) (hj : kR A j = -1 ∨ ∃ q, q < 8 ∧ kR A j = nI q) : zvd (aRv A p) j = if kR A j = nI p then zpd (aRv A p) p else zvd A j := by
  unfold zvd
  rw [show kR (aRv A p) j = kR A j from rfl]
  rcases hj with e | ⟨q, hq, e⟩
  · rw [e, if_pos rfl, if_neg (fun z => nI_ne p (by omega) z.symm), if_pos rfl]
  · rw [e, if_neg (nI_ne q (by omega)), nI_clamp (by omega)]
    by_cases h : q = p
    · subst h; rw [if_pos rfl]
    · rw [if_neg (fun z => h ((nI_eq (by omega) (by omega)).mp z)), if_neg (nI_ne q (by omega))]
      unfold zpd
      rw [show kT (aRv A p) q = kT A q from pk_un h]
set_option maxHeartbeats 400000 in
set_option maxRecDepth 100000 in
theorem l_ap {X : zX} (hX : X.1.stackTraces = false) {σ : zS} {y : Nat} {F : Nat → Int32} {A : zDk} {i p : Nat} {g2 : Nat → Int32} (h0 : σ.1 y = zmO y F) (hA : zDw A) (hp : p < kP A) (q0 : g2 0 = nI (kC A)) (qv : g2 (42 + 5 * p + 1) = zpd (aRv A p) p) (qr : ∀ t, t < kC A → g2 (2 + 5 * t + 2) = kR A t) : ∀ (k j : Nat) (s : zS) (gj : Nat → Int32) (u : Nat), j + k = (kC A) → (zFr σ s (fun q => q = y + 1)) → (s.1 (y + 1) = .inl (0, 82, .inl gj)) → ((∀ q, (∀ t, t < kC A → q ≠ 2 + 5 * t + 1) → gj q = g2 q) ∧ (∀ t, t < j → gj (2 + 5 * t + 1) = zvd (aRv A p) t) ∧ ∀ t, j ≤ t → t < kC A → gj (2 + 5 * t + 1) = zvd A t) → (u = zCt (fun t => decide (kR A t = nI p)) j) → zW X mX10_appeal 4 0 0 ((zI (fun y_ s => y_ = nI (zCt (fun t => decide (kR A t = nI p)) (kC A)) ∧ zFr σ s (fun q => q = y + 1) ∧ ∃ g3, s.1 (y + 1) = .inl (0, 82, .inl g3) ∧ (∀ q, (∀ t, t < kC A → q ≠ 2 + 5 * t + 1) → g3 q = g2 q) ∧ (∀ t, t < kC A → g3 (2 + 5 * t + 1) = zvd (aRv A p) t) ∧ ∀ t, kC A ≤ t → t < kC A → g3 (2 + 5 * t + 1) = zvd A t))) 114 [some (.ref y), some (.int (nI i)), some (.int (nI p)), some (.int (nI (42 + 5 * p))), some (.int (nI u)), some (.int (nI j))] [] s := by
  intro k
  induction k with
  | zero =>
    intro j s gj u hj hFr k1 hI hu
    have k0 := zFr.get hFr (by omega) h0
    obtain ⟨hC8, hP8, hW⟩ := id hA
    obtain ⟨i1, i2, i3⟩ := id hI
    refine zr_iload dX10_appeal_114 rfl ?_
    refine zr_aload_n dX10_appeal_116 rfl ?_
    refine zr_getM (v := .ref (y + 1)) dX10_appeal_117 fX10_7 k0 rfl ?_
    refine zr_iconst (v := 0) dX10_appeal_120 (by decide) ?_
    refine zr_iaload dX10_appeal_121 k1 (vp_in_nI (n := 0) (by omega) (by omega)) ?_
    rw [show (0 : Int32).toNatClampNeg = 0 from by decide]
    refine zr_eqi (x' := nI (kC A)) ((i1 0 (fun t _ => by omega)).trans q0) ?_
    refine zr_icmp_ge (tgt := 178) dX10_appeal_122 (by decide) (fun c_122 => ?_) (fun c_122 => absurd ((nI_leI (a := kC A) (b := j) (by omega) (by omega)).mpr (by omega)) c_122)
    refine zr_iload dX10_appeal_178 rfl ?_
    exact zr_ireturn dX10_appeal_180 rfl (rfl) (by have e1 : j = kC A := (by omega); rw [e1] at hI hu; exact ⟨_, rfl, congrArg nI hu, hFr, gj, k1, hI⟩)
  | succ k ih =>
    intro j s gj u hj hFr k1 hI hu
    have k0 := zFr.get hFr (by omega) h0
    obtain ⟨hC8, hP8, hW⟩ := id hA
    obtain ⟨i1, i2, i3⟩ := id hI
    refine zr_iload dX10_appeal_114 rfl ?_
    refine zr_aload_n dX10_appeal_116 rfl ?_
    refine zr_getM (v := .ref (y + 1)) dX10_appeal_117 fX10_7 k0 rfl ?_
    refine zr_iconst (v := 0) dX10_appeal_120 (by decide) ?_
    refine zr_iaload dX10_appeal_121 k1 (vp_in_nI (n := 0) (by omega) (by omega)) ?_
    rw [show (0 : Int32).toNatClampNeg = 0 from by decide]
    refine zr_eqi (x' := nI (kC A)) ((i1 0 (fun t _ => by omega)).trans q0) ?_
    refine zr_icmp_ge (tgt := 178) dX10_appeal_122 (by decide) (fun c_122 => absurd c_122 (fun h => absurd ((nI_leI (a := kC A) (b := j) (by omega) (by omega)).mp h) (by omega))) (fun c_122 => ?_)
    refine zr_aload_n dX10_appeal_125 rfl ?_
    refine zr_iload dX10_appeal_126 rfl ?_
    refine zr_iconst (v := 1) dX10_appeal_128 (by decide) ?_
    refine zr_pVi [] dX10_appeal_129 vX10_149 (qX10_of hX (i := j) (k := 1) k0 k1 (by omega)) k0 (by decide) (by decide) (by decide) rfl rfl (Nat.le_of_ble_eq_true rfl) (by decide) rfl ?_
    refine zr_eqi (x' := (zvd A j)) (i3 j (Nat.le_refl _) (by omega)) ?_
    refine zr_if_eq (tgt := 172) dX10_appeal_132 (by decide) (fun c_132 => ?_) (fun c_132 => ?_)
    · refine zr_iinc (v := nI (j + 1)) (ls' := [some (.ref y), some (.int (nI i)), some (.int (nI p)), some (.int (nI (42 + 5 * p))), some (.int (nI u)), some (.int (nI (j + 1)))]) dX10_appeal_172 rfl (nI_1 _) (by decide) rfl ?_
      refine zr_goto (tgt := 114) dX10_appeal_175 (by decide) ?_
      have er := zvd_rv (A := A) (p := p) (j := j) (by omega) (hW j (by omega)).2.2.1
      have e0 : kR A j = -1 := (zvd0 A j).mp c_132
      have ne : ¬ kR A j = nI p := fun q => nI_ne p (by omega) (q.symm.trans e0)
      exact ih (j + 1) _ _ _ (by omega) (hFr) (k1) (⟨i1, fun t ht => by by_cases e : t = j; (rw [e, er, if_neg ne]; exact i3 j (Nat.le_refl _) (by omega)); exact i2 t (by omega), fun t h4 h5 => i3 t (by omega) h5⟩) (by simp only [zCt]; rw [hu, if_neg (fun q => ne (of_decide_eq_true q))])
    · refine zr_aload_n dX10_appeal_135 rfl ?_
      refine zr_iload dX10_appeal_136 rfl ?_
      refine zr_iconst (v := 2) dX10_appeal_138 (by decide) ?_
      refine zr_pVi [] dX10_appeal_139 vX10_149 (qX10_of hX (i := j) (k := 2) k0 k1 (by omega)) k0 (by decide) (by decide) (by decide) rfl rfl (Nat.le_of_ble_eq_true rfl) (by decide) rfl ?_
      refine zr_eqi (x' := (kR A j)) ((i1 _ (fun t _ => by omega)).trans (qr j (by omega))) ?_
      refine zr_iload_n dX10_appeal_142 rfl ?_
      refine zr_icmp_eq (tgt := 149) dX10_appeal_143 (by decide) (fun c_143 => ?_) (fun c_143 => ?_)
      · refine zr_aload_n dX10_appeal_149 rfl ?_
        refine zr_getM (v := .ref (y + 1)) dX10_appeal_150 fX10_7 k0 rfl ?_
        refine zr_iload dX10_appeal_153 rfl ?_
        refine zr_pSi [.ref ((y + 1))] dX10_appeal_155 vX10_138 (qX10_caseAt hX (i := j)) (by decide) (by decide) (by decide) rfl rfl (Nat.le_of_ble_eq_true rfl) rfl ?_
        refine zr_iconst (v := 1) dX10_appeal_158 (by decide) ?_
        refine zr_iadd dX10_appeal_159 ?_
        refine zr_eqi (x' := nI ((2 + 5 * j) + 1)) (nI_add (2 + 5 * j) 1) ?_
        refine zr_aload_n dX10_appeal_160 rfl ?_
        refine zr_getM (v := .ref (y + 1)) dX10_appeal_161 fX10_7 k0 rfl ?_
        refine zr_iload_n dX10_appeal_164 rfl ?_
        refine zr_iconst (v := 1) dX10_appeal_165 (by decide) ?_
        refine zr_iadd dX10_appeal_166 ?_
        refine zr_eqi (x' := nI ((42 + 5 * p) + 1)) (nI_add (42 + 5 * p) 1) ?_
        refine zr_iaload dX10_appeal_167 k1 (vp_in_nI (n := (42 + 5 * p) + 1) (by omega) (by omega)) ?_
        rw [nI_clamp (n := (42 + 5 * p) + 1) (by omega)]
        refine zr_eqi (x' := (zpd (aRv A p) p)) ((i1 _ (fun t _ => by omega)).trans qv) ?_
        refine zr_iastore dX10_appeal_168 k1 (vp_in_nI (n := (2 + 5 * j) + 1) (by omega) (by omega)) ?_
        rw [nI_clamp (n := (2 + 5 * j) + 1) (by omega)]
        refine zr_sig (fun ks1 e_ks1 => ?_)
        have kh2 : ks1.1 y = zmO y F := by rw [e_ks1, zup_ne _ _ (by omega)]; exact k0
        have kh3 : ks1.1 (y + 1) = .inl (0, 82, .inl (upd gj ((2 + 5 * j) + 1) (zpd (aRv A p) p))) := by rw [e_ks1]; exact zup_at _ _ _
        have kF4 := zFr.put hFr e_ks1 rfl
        refine zr_iinc (v := nI (u + 1)) (ls' := [some (.ref y), some (.int (nI i)), some (.int (nI p)), some (.int (nI (42 + 5 * p))), some (.int (nI (u + 1))), some (.int (nI j))]) dX10_appeal_169 rfl (nI_1 _) (by decide) rfl ?_
        refine zr_iinc (v := nI (j + 1)) (ls' := [some (.ref y), some (.int (nI i)), some (.int (nI p)), some (.int (nI (42 + 5 * p))), some (.int (nI (u + 1))), some (.int (nI (j + 1)))]) dX10_appeal_172 rfl (nI_1 _) (by decide) rfl ?_
        refine zr_goto (tgt := 114) dX10_appeal_175 (by decide) ?_
        have er := zvd_rv (A := A) (p := p) (j := j) (by omega) (hW j (by omega)).2.2.1
        exact ih (j + 1) _ _ _ (by omega) (kF4) (kh3) (⟨fun q hq => (upd_ne _ _ (hq j (by omega))).trans (i1 q hq), fun t ht => by by_cases e : t = j; (rw [e, er, if_pos c_143]; exact upd_at _ _ _); (rw [upd_ne _ _ (by omega)]; exact i2 t (by omega)), fun t h4 h5 => by rw [upd_ne _ _ (by omega)]; exact i3 t (by omega) h5⟩) (by simp only [zCt]; rw [hu, if_pos (decide_eq_true c_143)])
      · refine zr_goto (tgt := 172) dX10_appeal_146 (by decide) ?_
        refine zr_iinc (v := nI (j + 1)) (ls' := [some (.ref y), some (.int (nI i)), some (.int (nI p)), some (.int (nI (42 + 5 * p))), some (.int (nI u)), some (.int (nI (j + 1)))]) dX10_appeal_172 rfl (nI_1 _) (by decide) rfl ?_
        refine zr_goto (tgt := 114) dX10_appeal_175 (by decide) ?_
        have er := zvd_rv (A := A) (p := p) (j := j) (by omega) (hW j (by omega)).2.2.1
        have ne : ¬ kR A j = nI p := c_143
        exact ih (j + 1) _ _ _ (by omega) (hFr) (k1) (⟨i1, fun t ht => by by_cases e : t = j; (rw [e, er, if_neg ne]; exact i3 j (Nat.le_refl _) (by omega)); exact i2 t (by omega), fun t h4 h5 => i3 t (by omega) h5⟩) (by simp only [zCt]; rw [hu, if_neg (fun q => ne (of_decide_eq_true q))])

theorem zMono_w {X : zX} {M : zMd} {d bc bs : Nat} {Q Q' : zO → zS → Prop} {pc : Nat} {ls : List (Option Value)} {st : List Value} {σ : zS} (h : zW X M d bc bs Q pc ls st σ) (hq : ∀ o s, Q o s → Q' o s) : zW X M d bc bs Q' pc ls st σ := h.mono hq
set_option maxHeartbeats 400000 in
set_option maxRecDepth 100000 in
theorem qX10_appeal {X : zX} (hX : X.1.stackTraces = false) {σ : zS} {y : Nat} {w tm cd dn : Int32} {K : zDk} {A S : zDk} {m : Nat} {U : Nat → zDk} {n : Nat} {T : Nat → Int32} {ll : Nat} {ln : Nat → Int32} {hs kf ld dt dc : Int32} {i p : Nat} (hM : zMo y w tm cd dn K A S m U n T ll ln hs kf ld dt dc σ) (gA : zGd A) (hi : i < kC A) (hp : p < kP A) (hR : kR A i = nI p) (hk : kA A p = 0) (wU : ∀ t, t < m → zDw (U t)) : zMet X mX10_appeal yX10_appeal 4 0 0 [.ref y, .int (nI i)] σ (zI (fun y_ s => y_ = zRv A p ∧ zFr σ s (zMq y) ∧ zMo y w tm 0 0 K (aRev A p) S (mN w m) (UN w A U) n T ll ln hs kf ld dt dc s)) := by
  refine zMet_of (ls := [some (.ref y), some (.int (nI i)), none, none, none, none]) rfl (by decide +kernel) rfl (fun h => by cases h) hX (Nat.le_of_ble_eq_true rfl) rfl ?_
  obtain ⟨F, g, kp, sv, bf, ip, sg, td, h0, hf, h1, h2, h3, h4, h5, h6, h11, hWa, hC, hX9, hOt, gr, gS, gK, hm8, gU, hn60, hT, hll, hln⟩ := id hM
  obtain ⟨f4, f5, f6, f7, f8, f9, f10, f11, f13, f14, f16, f27⟩ := id hf
  have hA := gA.1
  obtain ⟨r0, r1, rc, rp⟩ := id gr
  obtain ⟨hC8, hP8, hW⟩ := id hA
  have n16 := (hW i (by omega)).1
  refine zr_aload_n dX10_appeal_0 rfl ?_
  refine zr_iload_n dX10_appeal_1 rfl ?_
  refine zr_callVi [] dX10_appeal_2 vX10_155 (qX10_isNone hX (i := i) h0 h1 r0 (by omega) hi) h0 (by decide) (by decide) (by decide) rfl rfl (Nat.le_of_ble_eq_true rfl) (by decide) rfl (fun kr1 s_kr1 h_kr1 => ?_)
  obtain ⟨e_kr1, F_kr1, g0_kr1⟩ := h_kr1
  have kh2 : s_kr1.1 (y + 1) = .inl (0, 82, .inl g) := zFr.get F_kr1 (by omega) h1
  have kh3 : s_kr1.1 (y + 2) = .inl (0, 656, .inl kp) := zFr.get F_kr1 (by omega) h2
  have kh4 : s_kr1.1 (y + 3) = .inl (0, 82, .inl sv) := zFr.get F_kr1 (by omega) h3
  have kh5 : s_kr1.1 (y + 4) = .inl (0, 82, .inl bf) := zFr.get F_kr1 (by omega) h4
  have kh6 : s_kr1.1 (y + 5) = .inl (0, 60, .inl ip) := zFr.get F_kr1 (by omega) h5
  have kh7 : s_kr1.1 (y + 6) = .inl (1, 400, .inl sg) := zFr.get F_kr1 (by omega) h6
  have kh8 : s_kr1.1 (y + 11) = .inl (0, 93, .inl td) := zFr.get F_kr1 (by omega) h11
  have kR9 : zWa y s_kr1 := zWa.fr hWa F_kr1 (by intro q h1 h2 h3; (try simp only [zIn, zJf] at h3); omega)
  have kR10 : zCy y s_kr1 := zCy.fr hC F_kr1 (by intro q h1 h2 h3; (try simp only [zIn, zJf] at h3); omega)
  have kR11 : zXa y s_kr1 := zXa.fr hX9 F_kr1 (by intro q h1 h2 h3; (try simp only [zIn, zJf] at h3); omega)
  have kR12 : zOa y s_kr1 := zOa.fr hOt F_kr1 (by intro q h1 h2 h3; (try simp only [zIn, zJf] at h3); omega)
  have kF13 := zFr.tr zFr.rf (P := zMq y) F_kr1 (by intro q hq; unfold zMq; omega)
  obtain rfl := e_kr1.symm
  refine zr_if_eq (tgt := 10) dX10_appeal_5 (by decide) (fun c_5 => ?_) (fun c_5 => absurd (by decide) c_5)
  refine zr_aload_n dX10_appeal_10 rfl ?_
  refine zr_iload_n dX10_appeal_11 rfl ?_
  refine zr_iconst (v := 1) dX10_appeal_12 (by decide) ?_
  refine zr_pVi [] dX10_appeal_13 vX10_149 (qX10_of hX (i := i) (k := 1) g0_kr1 kh2 (by omega)) g0_kr1 (by decide) (by decide) (by decide) rfl rfl (Nat.le_of_ble_eq_true rfl) (by decide) rfl ?_
  refine zr_eqi (x' := (zvd A i)) ((rc i hi).2.1) ?_
  refine zr_if_ne (tgt := 27) dX10_appeal_16 (by decide) (fun c_16 => ?_) (fun c_16 => absurd c_16 (fun q => absurd ((zvd0 A i).mp q) (by rw [hR]; exact nI_ne p (by omega))))
  refine zr_aload_n dX10_appeal_27 rfl ?_
  refine zr_iload_n dX10_appeal_28 rfl ?_
  refine zr_iconst (v := 2) dX10_appeal_29 (by decide) ?_
  refine zr_pVi [] dX10_appeal_30 vX10_149 (qX10_of hX (i := i) (k := 2) g0_kr1 kh2 (by omega)) g0_kr1 (by decide) (by decide) (by decide) rfl rfl (Nat.le_of_ble_eq_true rfl) (by decide) rfl ?_
  refine zr_eqi (x' := nI p) ((rc i hi).2.2.1.trans hR) ?_
  refine zr_istore_n (ls' := [some (.ref y), some (.int (nI i)), some (.int (nI p)), none, none, none]) dX10_appeal_33 rfl (by decide) rfl ?_
  refine zr_iload_n dX10_appeal_34 rfl ?_
  refine zr_pSi [] dX10_appeal_35 vX10_207 (qX10_precedentAt hX (i := p)) (by decide) (by decide) (by decide) rfl rfl (Nat.le_of_ble_eq_true rfl) rfl ?_
  refine zr_istore_n (ls' := [some (.ref y), some (.int (nI i)), some (.int (nI p)), some (.int (nI (42 + 5 * p))), none, none]) dX10_appeal_38 rfl (by decide) rfl ?_
  refine zr_aload_n dX10_appeal_39 rfl ?_
  refine zr_getM (v := .ref (y + 1)) dX10_appeal_40 fX10_7 g0_kr1 rfl ?_
  refine zr_iload_n dX10_appeal_43 rfl ?_
  refine zr_iconst (v := 2) dX10_appeal_44 (by decide) ?_
  refine zr_iadd dX10_appeal_45 ?_
  refine zr_eqi (x' := nI ((42 + 5 * p) + 2)) (nI_add (42 + 5 * p) 2) ?_
  refine zr_iaload dX10_appeal_46 kh2 (vp_in_nI (n := (42 + 5 * p) + 2) (by omega) (by omega)) ?_
  rw [nI_clamp (n := (42 + 5 * p) + 2) (by omega)]
  refine zr_eqi (x' := 0) ((rp p hp).2.2.1.trans hk) ?_
  refine zr_if_le (tgt := 59) dX10_appeal_47 (by decide) (fun c_47 => ?_) (fun c_47 => absurd (by decide) c_47)
  refine zr_aload_n dX10_appeal_59 rfl ?_
  refine zr_aload_n dX10_appeal_60 rfl ?_
  refine zr_getM (v := .ref (y + 1)) dX10_appeal_61 fX10_7 g0_kr1 rfl ?_
  refine zr_callVv [] dX10_appeal_64 vX10_145 (qX10_keeps hX (r := y + 1) g0_kr1 kh2 (by omega) (by omega) kh3 f5 f6 hm8 gr hA gU wU) g0_kr1 (by decide) (by decide) (by decide) rfl rfl (Nat.le_of_ble_eq_true rfl) (by decide) rfl (fun s0 h_ => ?_)
  obtain ⟨F0, g00, kp1, kc1, gU1⟩ := h_
  have kh14 : s0.1 (y + 1) = .inl (0, 82, .inl g) := zFr.get F0 (by omega) kh2
  have kh15 : s0.1 (y + 3) = .inl (0, 82, .inl sv) := zFr.get F0 (by omega) kh4
  have kh16 : s0.1 (y + 4) = .inl (0, 82, .inl bf) := zFr.get F0 (by omega) kh5
  have kh17 : s0.1 (y + 5) = .inl (0, 60, .inl ip) := zFr.get F0 (by omega) kh6
  have kh18 : s0.1 (y + 6) = .inl (1, 400, .inl sg) := zFr.get F0 (by omega) kh7
  have kh19 : s0.1 (y + 11) = .inl (0, 93, .inl td) := zFr.get F0 (by omega) kh8
  have kR20 := zWa.fr kR9 F0 (by intro q a b c; omega)
  have kR21 := zCy.fr kR10 F0 (by intro q a b c; omega)
  have kR22 := zXa.fr kR11 F0 (by intro q a b c; omega)
  have kR23 := zOa.fr kR12 F0 (by intro q a b c; omega)
  have kF24 := zFr.tr kF13 F0 (by intro q hq; unfold zMq; omega)
  refine zr_aload_n dX10_appeal_67 rfl ?_
  refine zr_getM (v := .ref (y + 1)) dX10_appeal_68 fX10_7 g00 rfl ?_
  refine zr_iload_n dX10_appeal_71 rfl ?_
  refine zr_iconst (v := 2) dX10_appeal_72 (by decide) ?_
  refine zr_iadd dX10_appeal_73 ?_
  refine zr_eqi (x' := nI ((42 + 5 * p) + 2)) (nI_add (42 + 5 * p) 2) ?_
  refine zr_iconst (v := 1) dX10_appeal_74 (by decide) ?_
  refine zr_iastore dX10_appeal_75 kh14 (vp_in_nI (n := (42 + 5 * p) + 2) (by omega) (by omega)) ?_
  rw [nI_clamp (n := (42 + 5 * p) + 2) (by omega)]
  refine zr_sig (fun ks25 e_ks25 => ?_)
  have kh26 : ks25.1 (y + 1) = .inl (0, 82, .inl (upd g ((42 + 5 * p) + 2) 1)) := by rw [e_ks25]; exact zup_at _ _ _
  have kh27 : ks25.1 (y + 3) = .inl (0, 82, .inl sv) := by rw [e_ks25, zup_ne _ _ (by omega)]; exact kh15
  have kh28 : ks25.1 (y + 4) = .inl (0, 82, .inl bf) := by rw [e_ks25, zup_ne _ _ (by omega)]; exact kh16
  have kh29 : ks25.1 (y + 5) = .inl (0, 60, .inl ip) := by rw [e_ks25, zup_ne _ _ (by omega)]; exact kh17
  have kh30 : ks25.1 (y + 6) = .inl (1, 400, .inl sg) := by rw [e_ks25, zup_ne _ _ (by omega)]; exact kh18
  have kh31 : ks25.1 (y + 11) = .inl (0, 93, .inl td) := by rw [e_ks25, zup_ne _ _ (by omega)]; exact kh19
  have kh32 : ks25.1 y = zmO y (upd (upd (upd F 5 (nI (mN w m))) 7 0) 8 0) := by rw [e_ks25, zup_ne _ _ (by omega)]; exact g00
  have kh33 : ks25.1 (y + 2) = .inl (0, 656, .inl kp1) := by rw [e_ks25, zup_ne _ _ (by omega)]; exact kc1
  have kF34 := zFr.put kF24 e_ks25 (by unfold zMq; omega)
  have kR35 : zWa y ks25 := zWa.fr kR20 (zFr.put (P := fun q => q = (y + 1)) zFr.rf e_ks25 rfl) (by intro q h1 h2 h3; (try simp only [zIn, zJf] at h3); omega)
  have kR36 : zCy y ks25 := zCy.fr kR21 (zFr.put (P := fun q => q = (y + 1)) zFr.rf e_ks25 rfl) (by intro q h1 h2 h3; (try simp only [zIn, zJf] at h3); omega)
  have kR37 : zXa y ks25 := zXa.fr kR22 (zFr.put (P := fun q => q = (y + 1)) zFr.rf e_ks25 rfl) (by intro q h1 h2 h3; (try simp only [zIn, zJf] at h3); omega)
  have kR38 : zOa y ks25 := zOa.fr kR23 (zFr.put (P := fun q => q = (y + 1)) zFr.rf e_ks25 rfl) (by intro q h1 h2 h3; (try simp only [zIn, zJf] at h3); omega)
  refine zr_aload_n dX10_appeal_76 rfl ?_
  refine zr_iload_n dX10_appeal_77 rfl ?_
  obtain ⟨L7, hL7⟩ := kR35
  have n17 := (hW (zmk A p) (hA.mk (i := p) (by omega)).1).1
  refine zr_callVv [] dX10_appeal_78 vX10_128 (qX10_takes hX (w := 42 + 5 * p) (n := kN A (zmk A p)) kh32 kh26 hL7 (by rw [upd_ne _ _ (by omega)]; exact (rp p hp).1) n17 (by omega)) kh32 (by decide) (by decide) (by decide) rfl rfl (Nat.le_of_ble_eq_true rfl) (by decide) rfl (fun s5 h_ => ?_)
  obtain ⟨F5, g5, w5⟩ := h_
  replace w5 : zWk y (zWd A (zmk A p)) s5 := w5.cs (zP_congr (fun k hk => (zdl_cg (upd_ne _ _ (by omega))).trans ((rp p hp).2.2.2 k hk)))
  have kh39 : s5.1 (y + 1) = .inl (0, 82, .inl (upd g ((42 + 5 * p) + 2) 1)) := zFr.get F5 (by omega) kh26
  have kh40 : s5.1 (y + 3) = .inl (0, 82, .inl sv) := zFr.get F5 (by omega) kh27
  have kh41 : s5.1 (y + 4) = .inl (0, 82, .inl bf) := zFr.get F5 (by omega) kh28
  have kh42 : s5.1 (y + 5) = .inl (0, 60, .inl ip) := zFr.get F5 (by omega) kh29
  have kh43 : s5.1 (y + 6) = .inl (1, 400, .inl sg) := zFr.get F5 (by omega) kh30
  have kh44 : s5.1 (y + 11) = .inl (0, 93, .inl td) := zFr.get F5 (by omega) kh31
  have kh45 : s5.1 (y + 2) = .inl (0, 656, .inl kp1) := zFr.get F5 (by omega) kh33
  have kR46 := zCy.fr kR36 F5 (by intro q a b c; omega)
  have kR47 := zXa.fr kR37 F5 (by intro q a b c; omega)
  have kR48 := zOa.fr kR38 F5 (by intro q a b c; omega)
  have kF49 := zFr.tr kF34 F5 (by intro q hq; unfold zMq; omega)
  refine zr_aload_n dX10_appeal_81 rfl ?_
  refine zr_callVi [] dX10_appeal_82 vX10_201 (qX10_signMeasured hX g5 (by rw [zWd_l]; rfl) w5 (hA.wd (hA.mk (i := p) (by omega)).1) (by have := zWd_len hA (i := zmk A p) (hA.mk (i := p) (by omega)).1; omega) kR47) g5 (by decide) (by decide) (by decide) rfl rfl (Nat.le_of_ble_eq_true rfl) (by decide) rfl (fun kr50 s_kr50 h_kr50 => ?_)
  obtain ⟨e_kr50, F_kr50, r0_kr50⟩ := h_kr50
  have kh51 : s_kr50.1 (y + 1) = .inl (0, 82, .inl (upd g ((42 + 5 * p) + 2) 1)) := zFr.get F_kr50 (by omega) kh39
  have kh52 : s_kr50.1 (y + 3) = .inl (0, 82, .inl sv) := zFr.get F_kr50 (by omega) kh40
  have kh53 : s_kr50.1 (y + 4) = .inl (0, 82, .inl bf) := zFr.get F_kr50 (by omega) kh41
  have kh54 : s_kr50.1 (y + 5) = .inl (0, 60, .inl ip) := zFr.get F_kr50 (by omega) kh42
  have kh55 : s_kr50.1 (y + 6) = .inl (1, 400, .inl sg) := zFr.get F_kr50 (by omega) kh43
  have kh56 : s_kr50.1 (y + 11) = .inl (0, 93, .inl td) := zFr.get F_kr50 (by omega) kh44
  have kh57 : s_kr50.1 (y + 2) = .inl (0, 656, .inl kp1) := zFr.get F_kr50 (by omega) kh45
  have kh58 : s_kr50.1 y = zmO y (upd (upd (upd (upd F 5 (nI (mN w m))) 7 0) 8 0) 19 (nI (kN A (zmk A p)))) := zFr.get F_kr50 (by omega) g5
  have kR59 : zWk y (zWd A (zmk A p)) s_kr50 := zWk.fr w5 F_kr50 (by intro q h1 h2 h3; (try simp only [zIn, zJf] at h3); omega)
  have kR60 : zCy y s_kr50 := zCy.fr kR46 F_kr50 (by intro q h1 h2 h3; (try simp only [zIn, zJf] at h3); omega)
  have kR61 : zOa y s_kr50 := zOa.fr kR48 F_kr50 (by intro q h1 h2 h3; (try simp only [zIn, zJf] at h3); omega)
  have kF62 := zFr.tr kF49 F_kr50 (by intro q hq; unfold zMq; omega)
  obtain rfl := e_kr50.symm
  refine zr_if_gt (tgt := 90) dX10_appeal_85 (by decide) (fun c_85 => ?_) (fun c_85 => ?_)
  · have e85 : zsf (zcw A (zmk A p)) = 1 := (zsf_1 _).mp c_85
    refine zr_aload_n dX10_appeal_90 rfl ?_
    refine zr_getM (v := .ref (y + 1)) dX10_appeal_91 fX10_7 kh58 rfl ?_
    refine zr_iload_n dX10_appeal_94 rfl ?_
    refine zr_iconst (v := 1) dX10_appeal_95 (by decide) ?_
    refine zr_iadd dX10_appeal_96 ?_
    refine zr_eqi (x' := nI ((42 + 5 * p) + 1)) (nI_add (42 + 5 * p) 1) ?_
    refine zr_iconst (v := 3) dX10_appeal_97 (by decide) ?_
    refine zr_aload_n dX10_appeal_98 rfl ?_
    refine zr_getM (v := .ref (y + 1)) dX10_appeal_99 fX10_7 kh58 rfl ?_
    refine zr_iload_n dX10_appeal_102 rfl ?_
    refine zr_iconst (v := 1) dX10_appeal_103 (by decide) ?_
    refine zr_iadd dX10_appeal_104 ?_
    refine zr_eqi (x' := nI ((42 + 5 * p) + 1)) (nI_add (42 + 5 * p) 1) ?_
    refine zr_iaload dX10_appeal_105 kh51 (vp_in_nI (n := (42 + 5 * p) + 1) (by omega) (by omega)) ?_
    rw [nI_clamp (n := (42 + 5 * p) + 1) (by omega)]
    refine zr_eqi (x' := (zpd A p)) (by rw [upd_ne _ _ (by omega)]; exact (rp p hp).2.1) ?_
    refine zr_isub dX10_appeal_106 ?_
    refine zr_eqi (x' := (zpd (aRv A p) p)) (zpd_rv A p) ?_
    refine zr_iastore dX10_appeal_107 kh51 (vp_in_nI (n := (42 + 5 * p) + 1) (by omega) (by omega)) ?_
    rw [nI_clamp (n := (42 + 5 * p) + 1) (by omega)]
    refine zr_sig (fun ks63 e_ks63 => ?_)
    have kh64 : ks63.1 (y + 1) = .inl (0, 82, .inl (upd (upd g ((42 + 5 * p) + 2) 1) ((42 + 5 * p) + 1) (zpd (aRv A p) p))) := by rw [e_ks63]; exact zup_at _ _ _
    have kh65 : ks63.1 (y + 3) = .inl (0, 82, .inl sv) := by rw [e_ks63, zup_ne _ _ (by omega)]; exact kh52
    have kh66 : ks63.1 (y + 4) = .inl (0, 82, .inl bf) := by rw [e_ks63, zup_ne _ _ (by omega)]; exact kh53
    have kh67 : ks63.1 (y + 5) = .inl (0, 60, .inl ip) := by rw [e_ks63, zup_ne _ _ (by omega)]; exact kh54
    have kh68 : ks63.1 (y + 6) = .inl (1, 400, .inl sg) := by rw [e_ks63, zup_ne _ _ (by omega)]; exact kh55
    have kh69 : ks63.1 (y + 11) = .inl (0, 93, .inl td) := by rw [e_ks63, zup_ne _ _ (by omega)]; exact kh56
    have kh70 : ks63.1 (y + 2) = .inl (0, 656, .inl kp1) := by rw [e_ks63, zup_ne _ _ (by omega)]; exact kh57
    have kh71 : ks63.1 y = zmO y (upd (upd (upd (upd F 5 (nI (mN w m))) 7 0) 8 0) 19 (nI (kN A (zmk A p)))) := by rw [e_ks63, zup_ne _ _ (by omega)]; exact kh58
    have kF72 := zFr.put kF62 e_ks63 (by unfold zMq; omega)
    have kR73 : zWk y (zWd A (zmk A p)) ks63 := zWk.fr kR59 (zFr.put (P := fun q => q = (y + 1)) zFr.rf e_ks63 rfl) (by intro q h1 h2 h3; (try simp only [zIn, zJf] at h3); omega)
    have kR74 : zCy y ks63 := zCy.fr kR60 (zFr.put (P := fun q => q = (y + 1)) zFr.rf e_ks63 rfl) (by intro q h1 h2 h3; (try simp only [zIn, zJf] at h3); omega)
    have kR75 : zXa y ks63 := zXa.fr r0_kr50 (zFr.put (P := fun q => q = (y + 1)) zFr.rf e_ks63 rfl) (by intro q h1 h2 h3; (try simp only [zIn, zJf] at h3); omega)
    have kR76 : zOa y ks63 := zOa.fr kR61 (zFr.put (P := fun q => q = (y + 1)) zFr.rf e_ks63 rfl) (by intro q h1 h2 h3; (try simp only [zIn, zJf] at h3); omega)
    refine zr_iconst (v := 0) dX10_appeal_108 (by decide) ?_
    refine zr_istore (ls' := [some (.ref y), some (.int (nI i)), some (.int (nI p)), some (.int (nI (42 + 5 * p))), some (.int 0), none]) dX10_appeal_109 (by decide) rfl ?_
    refine zr_iconst (v := 0) dX10_appeal_111 (by decide) ?_
    refine zr_istore (ls' := [some (.ref y), some (.int (nI i)), some (.int (nI p)), some (.int (nI (42 + 5 * p))), some (.int 0), some (.int 0)]) dX10_appeal_112 (by decide) rfl ?_
    refine zMono_w (l_ap hX kh71 hA hp (g2 := (upd (upd g ((42 + 5 * p) + 2) 1) ((42 + 5 * p) + 1) (zpd (aRv A p) p))) (by rw [upd_ne _ _ (by omega), upd_ne _ _ (by omega)]; exact r0) (upd_at _ _ _) (fun t ht => by rw [upd_ne _ _ (by omega), upd_ne _ _ (by omega)]; exact (rc t ht).2.2.1) (kC A) 0 _ (upd (upd g ((42 + 5 * p) + 2) 1) ((42 + 5 * p) + 1) (zpd (aRv A p) p)) 0 (by omega) zFr.rf kh64 ⟨fun q _ => rfl, fun t ht => absurd ht (by omega), fun t _ ht => by rw [upd_ne _ _ (by omega), upd_ne _ _ (by omega)]; exact (rc t ht).2.1⟩ rfl) (fun o s6 q => ?_)
    obtain ⟨r6, e6, v6, F6, g6, c6, i1, i2, i3⟩ := q
    have kh77 : s6.1 (y + 3) = .inl (0, 82, .inl sv) := zFr.get F6 (by omega) kh65
    have kh78 : s6.1 (y + 4) = .inl (0, 82, .inl bf) := zFr.get F6 (by omega) kh66
    have kh79 : s6.1 (y + 5) = .inl (0, 60, .inl ip) := zFr.get F6 (by omega) kh67
    have kh80 : s6.1 (y + 6) = .inl (1, 400, .inl sg) := zFr.get F6 (by omega) kh68
    have kh81 : s6.1 (y + 11) = .inl (0, 93, .inl td) := zFr.get F6 (by omega) kh69
    have kh82 : s6.1 (y + 2) = .inl (0, 656, .inl kp1) := zFr.get F6 (by omega) kh70
    have kh83 : s6.1 y = zmO y (upd (upd (upd (upd F 5 (nI (mN w m))) 7 0) 8 0) 19 (nI (kN A (zmk A p)))) := zFr.get F6 (by omega) kh71
    have kR84 := zWk.fr kR73 F6 (by intro q a b c; omega)
    have kR85 := zCy.fr kR74 F6 (by intro q a b c; omega)
    have kR86 := zXa.fr kR75 F6 (by intro q a b c; omega)
    have kR87 := zOa.fr kR76 F6 (by intro q a b c; omega)
    have kF88 := zFr.tr kF72 F6 (by intro q hq; unfold zMq; omega)
    have eB : aRev A p = aRv A p := if_pos e85
    have grB : zGr (aRev A p) g6 := by
      rw [eB]
      refine zGr.app gr hA hp rfl rfl rfl rfl rfl rfl (fun q hq => pk_un hq) (fun q hq => pk_un hq) (fun q a b c => ?_) ?_ ?_ i2
      · rw [i1 q c, upd_ne _ _ a, upd_ne _ _ b]
      · rw [i1 _ (fun t _ => by omega)]; exact upd_at _ _ _
      · rw [i1 _ (fun t _ => by omega), upd_ne _ _ (by omega)]; exact (upd_at _ _ _).trans (show kA (aRv A p) p = 1 from pk_us).symm
    exact ⟨r6, e6, v6.trans (by unfold zRv; rw [if_pos e85]), kF88, ⟨_, _, _, _, _, _, _, _, kh83, ⟨f4, rfl, f6, rfl, rfl, f9, f10, f11, f13, f14, f16, f27⟩, c6, kh82, kh77, kh78, kh79, kh80, kh81, (kR84).wa, kR85, kR86, kR87, grB, gS, gK, (mN_8 hm8), gU1, hn60, hT, hll, hln⟩⟩
  · have e85 : ¬ zsf (zcw A (zmk A p)) = 1 := fun q => c_85 ((zsf_1 _).mpr q)
    refine zr_iconst (v := 0) dX10_appeal_88 (by decide) ?_
    exact zr_ireturn dX10_appeal_89 rfl (rfl) (⟨_, rfl, by unfold zRv; rw [if_neg e85], kF62, ⟨_, _, _, _, _, _, _, _, kh58, ⟨f4, rfl, f6, rfl, rfl, f9, f10, f11, f13, f14, f16, f27⟩, kh51, kh57, kh52, kh53, kh54, kh55, kh56, (kR59).wa, kR60, r0_kr50, kR61, (by rw [show aRev A p = aSetA A p 1 from if_neg e85]; exact zGr.app gr hA hp rfl rfl rfl rfl rfl rfl (fun q _ => rfl) (fun q hq => pk_un hq) (fun q a b c => upd_ne _ _ b) ((upd_ne _ _ (by omega)).trans (rp p hp).2.1) ((upd_at _ _ _).trans (show kA (aSetA A p 1) p = 1 from pk_us).symm) (fun t ht => (upd_ne _ _ (by omega)).trans (rc t ht).2.1)), gS, gK, (mN_8 hm8), gU1, hn60, hT, hll, hln⟩⟩)

set_option maxHeartbeats 400000 in
set_option maxRecDepth 100000 in
theorem qX10_appealD3 {X : zX} (hX : X.1.stackTraces = false) {σ : zS} {y : Nat} {w tm cd dn : Int32} {K : zDk} {A S : zDk} {m : Nat} {U : Nat → zDk} {n : Nat} {T : Nat → Int32} {ll : Nat} {ln : Nat → Int32} {hs kf ld dt dc : Int32} {i : Nat} (hM : zMo y w tm cd dn K A S m U n T ll ln hs kf ld dt dc σ) (gA : zGd A) (hi : i < kC A) (hr : kR A i = -1) : zMet X mX10_appeal yX10_appeal 4 0 0 [.ref y, .int (nI i)] σ (zI (fun y_ s => True ∧ zFr σ s (zMq y) ∧ zMo y w tm 2 1 K A S m U n T ll ln hs kf 3 (nI i) 0 s)) := by
  refine zMet_of (ls := [some (.ref y), some (.int (nI i)), none, none, none, none]) rfl (by decide +kernel) rfl (fun h => by cases h) hX (Nat.le_of_ble_eq_true rfl) rfl ?_
  obtain ⟨F, g, kp, sv, bf, ip, sg, td, h0, hf, h1, h2, h3, h4, h5, h6, h11, hWa, hC, hX9, hOt, gr, gS, gK, hm8, gU, hn60, hT, hll, hln⟩ := id hM
  obtain ⟨f4, f5, f6, f7, f8, f9, f10, f11, f13, f14, f16, f27⟩ := id hf
  have hA := gA.1
  obtain ⟨r0, r1, rc, rp⟩ := id gr
  obtain ⟨hC8, hP8, hW⟩ := id hA
  refine zr_aload_n dX10_appeal_0 rfl ?_
  refine zr_iload_n dX10_appeal_1 rfl ?_
  refine zr_callVi [] dX10_appeal_2 vX10_155 (qX10_isNone hX (i := i) h0 h1 r0 (by omega) hi) h0 (by decide) (by decide) (by decide) rfl rfl (Nat.le_of_ble_eq_true rfl) (by decide) rfl (fun kr1 s_kr1 h_kr1 => ?_)
  obtain ⟨e_kr1, F_kr1, g0_kr1⟩ := h_kr1
  have kh2 : s_kr1.1 (y + 1) = .inl (0, 82, .inl g) := zFr.get F_kr1 (by omega) h1
  have kh3 : s_kr1.1 (y + 2) = .inl (0, 656, .inl kp) := zFr.get F_kr1 (by omega) h2
  have kh4 : s_kr1.1 (y + 3) = .inl (0, 82, .inl sv) := zFr.get F_kr1 (by omega) h3
  have kh5 : s_kr1.1 (y + 4) = .inl (0, 82, .inl bf) := zFr.get F_kr1 (by omega) h4
  have kh6 : s_kr1.1 (y + 5) = .inl (0, 60, .inl ip) := zFr.get F_kr1 (by omega) h5
  have kh7 : s_kr1.1 (y + 6) = .inl (1, 400, .inl sg) := zFr.get F_kr1 (by omega) h6
  have kh8 : s_kr1.1 (y + 11) = .inl (0, 93, .inl td) := zFr.get F_kr1 (by omega) h11
  have kR9 : zWa y s_kr1 := zWa.fr hWa F_kr1 (by intro q h1 h2 h3; (try simp only [zIn, zJf] at h3); omega)
  have kR10 : zCy y s_kr1 := zCy.fr hC F_kr1 (by intro q h1 h2 h3; (try simp only [zIn, zJf] at h3); omega)
  have kR11 : zXa y s_kr1 := zXa.fr hX9 F_kr1 (by intro q h1 h2 h3; (try simp only [zIn, zJf] at h3); omega)
  have kR12 : zOa y s_kr1 := zOa.fr hOt F_kr1 (by intro q h1 h2 h3; (try simp only [zIn, zJf] at h3); omega)
  have kF13 := zFr.tr zFr.rf (P := zMq y) F_kr1 (by intro q hq; unfold zMq; omega)
  obtain rfl := e_kr1.symm
  refine zr_if_eq (tgt := 10) dX10_appeal_5 (by decide) (fun c_5 => ?_) (fun c_5 => absurd (by decide) c_5)
  refine zr_aload_n dX10_appeal_10 rfl ?_
  refine zr_iload_n dX10_appeal_11 rfl ?_
  refine zr_iconst (v := 1) dX10_appeal_12 (by decide) ?_
  refine zr_pVi [] dX10_appeal_13 vX10_149 (qX10_of hX (i := i) (k := 1) g0_kr1 kh2 (by omega)) g0_kr1 (by decide) (by decide) (by decide) rfl rfl (Nat.le_of_ble_eq_true rfl) (by decide) rfl ?_
  refine zr_eqi (x' := (zvd A i)) ((rc i hi).2.1) ?_
  refine zr_if_ne (tgt := 27) dX10_appeal_16 (by decide) (fun c_16 => absurd ((zvd0 A i).mpr hr) c_16) (fun c_16 => ?_)
  refine zr_aload_n dX10_appeal_19 rfl ?_
  refine zr_iconst (v := 2) dX10_appeal_20 (by decide) ?_
  refine zr_iconst (v := 3) dX10_appeal_21 (by decide) ?_
  refine zr_iload_n dX10_appeal_22 rfl ?_
  refine zr_callVi [] dX10_appeal_23 vX10_141 (qX10_denies hX (p := 2) (n := 3) (q := nI i) g0_kr1) g0_kr1 (by decide) (by decide) (by decide) rfl rfl (Nat.le_of_ble_eq_true rfl) (by decide) rfl (fun kr14 s_kr14 h_kr14 => ?_)
  obtain ⟨e_kr14, F_kr14, g0_kr14⟩ := h_kr14
  have kh15 : s_kr14.1 (y + 1) = .inl (0, 82, .inl g) := zFr.get F_kr14 (by omega) kh2
  have kh16 : s_kr14.1 (y + 2) = .inl (0, 656, .inl kp) := zFr.get F_kr14 (by omega) kh3
  have kh17 : s_kr14.1 (y + 3) = .inl (0, 82, .inl sv) := zFr.get F_kr14 (by omega) kh4
  have kh18 : s_kr14.1 (y + 4) = .inl (0, 82, .inl bf) := zFr.get F_kr14 (by omega) kh5
  have kh19 : s_kr14.1 (y + 5) = .inl (0, 60, .inl ip) := zFr.get F_kr14 (by omega) kh6
  have kh20 : s_kr14.1 (y + 6) = .inl (1, 400, .inl sg) := zFr.get F_kr14 (by omega) kh7
  have kh21 : s_kr14.1 (y + 11) = .inl (0, 93, .inl td) := zFr.get F_kr14 (by omega) kh8
  have kR22 : zWa y s_kr14 := zWa.fr kR9 F_kr14 (by intro q h1 h2 h3; (try simp only [zIn, zJf] at h3); omega)
  have kR23 : zCy y s_kr14 := zCy.fr kR10 F_kr14 (by intro q h1 h2 h3; (try simp only [zIn, zJf] at h3); omega)
  have kR24 : zXa y s_kr14 := zXa.fr kR11 F_kr14 (by intro q h1 h2 h3; (try simp only [zIn, zJf] at h3); omega)
  have kR25 : zOa y s_kr14 := zOa.fr kR12 F_kr14 (by intro q h1 h2 h3; (try simp only [zIn, zJf] at h3); omega)
  have kF26 := zFr.tr kF13 F_kr14 (by intro q hq; unfold zMq; omega)
  obtain rfl := e_kr14.symm
  exact zr_ireturn dX10_appeal_26 rfl (rfl) (⟨_, rfl, trivial, kF26, ⟨_, _, _, _, _, _, _, _, g0_kr14, ⟨f4, f5, f6, rfl, rfl, rfl, rfl, rfl, f13, f14, f16, f27⟩, kh15, kh16, kh17, kh18, kh19, kh20, kh21, kR22, kR23, kR24, kR25, gr, gS, gK, hm8, gU, hn60, hT, hll, hln⟩⟩)

set_option maxHeartbeats 400000 in
set_option maxRecDepth 100000 in
theorem qX10_appealD6 {X : zX} (hX : X.1.stackTraces = false) {σ : zS} {y : Nat} {w tm cd dn : Int32} {K : zDk} {A S : zDk} {m : Nat} {U : Nat → zDk} {n : Nat} {T : Nat → Int32} {ll : Nat} {ln : Nat → Int32} {hs kf ld dt dc : Int32} {i p : Nat} (hM : zMo y w tm cd dn K A S m U n T ll ln hs kf ld dt dc σ) (gA : zGd A) (hi : i < kC A) (hp : p < kP A) (hR : kR A i = nI p) (hk : kA A p = 1) : zMet X mX10_appeal yX10_appeal 4 0 0 [.ref y, .int (nI i)] σ (zI (fun y_ s => True ∧ zFr σ s (zMq y) ∧ zMo y w tm 2 1 K A S m U n T ll ln hs kf 6 (nI p) 0 s)) := by
  refine zMet_of (ls := [some (.ref y), some (.int (nI i)), none, none, none, none]) rfl (by decide +kernel) rfl (fun h => by cases h) hX (Nat.le_of_ble_eq_true rfl) rfl ?_
  obtain ⟨F, g, kp, sv, bf, ip, sg, td, h0, hf, h1, h2, h3, h4, h5, h6, h11, hWa, hC, hX9, hOt, gr, gS, gK, hm8, gU, hn60, hT, hll, hln⟩ := id hM
  obtain ⟨f4, f5, f6, f7, f8, f9, f10, f11, f13, f14, f16, f27⟩ := id hf
  have hA := gA.1
  obtain ⟨r0, r1, rc, rp⟩ := id gr
  obtain ⟨hC8, hP8, hW⟩ := id hA
  refine zr_aload_n dX10_appeal_0 rfl ?_
  refine zr_iload_n dX10_appeal_1 rfl ?_
  refine zr_callVi [] dX10_appeal_2 vX10_155 (qX10_isNone hX (i := i) h0 h1 r0 (by omega) hi) h0 (by decide) (by decide) (by decide) rfl rfl (Nat.le_of_ble_eq_true rfl) (by decide) rfl (fun kr1 s_kr1 h_kr1 => ?_)
  obtain ⟨e_kr1, F_kr1, g0_kr1⟩ := h_kr1
  have kh2 : s_kr1.1 (y + 1) = .inl (0, 82, .inl g) := zFr.get F_kr1 (by omega) h1
  have kh3 : s_kr1.1 (y + 2) = .inl (0, 656, .inl kp) := zFr.get F_kr1 (by omega) h2
  have kh4 : s_kr1.1 (y + 3) = .inl (0, 82, .inl sv) := zFr.get F_kr1 (by omega) h3
  have kh5 : s_kr1.1 (y + 4) = .inl (0, 82, .inl bf) := zFr.get F_kr1 (by omega) h4
  have kh6 : s_kr1.1 (y + 5) = .inl (0, 60, .inl ip) := zFr.get F_kr1 (by omega) h5
  have kh7 : s_kr1.1 (y + 6) = .inl (1, 400, .inl sg) := zFr.get F_kr1 (by omega) h6
  have kh8 : s_kr1.1 (y + 11) = .inl (0, 93, .inl td) := zFr.get F_kr1 (by omega) h11
  have kR9 : zWa y s_kr1 := zWa.fr hWa F_kr1 (by intro q h1 h2 h3; (try simp only [zIn, zJf] at h3); omega)
  have kR10 : zCy y s_kr1 := zCy.fr hC F_kr1 (by intro q h1 h2 h3; (try simp only [zIn, zJf] at h3); omega)
  have kR11 : zXa y s_kr1 := zXa.fr hX9 F_kr1 (by intro q h1 h2 h3; (try simp only [zIn, zJf] at h3); omega)
  have kR12 : zOa y s_kr1 := zOa.fr hOt F_kr1 (by intro q h1 h2 h3; (try simp only [zIn, zJf] at h3); omega)
  have kF13 := zFr.tr zFr.rf (P := zMq y) F_kr1 (by intro q hq; unfold zMq; omega)
  obtain rfl := e_kr1.symm
  refine zr_if_eq (tgt := 10) dX10_appeal_5 (by decide) (fun c_5 => ?_) (fun c_5 => absurd (by decide) c_5)
  refine zr_aload_n dX10_appeal_10 rfl ?_
  refine zr_iload_n dX10_appeal_11 rfl ?_
  refine zr_iconst (v := 1) dX10_appeal_12 (by decide) ?_
  refine zr_pVi [] dX10_appeal_13 vX10_149 (qX10_of hX (i := i) (k := 1) g0_kr1 kh2 (by omega)) g0_kr1 (by decide) (by decide) (by decide) rfl rfl (Nat.le_of_ble_eq_true rfl) (by decide) rfl ?_
  refine zr_eqi (x' := (zvd A i)) ((rc i hi).2.1) ?_
  refine zr_if_ne (tgt := 27) dX10_appeal_16 (by decide) (fun c_16 => ?_) (fun c_16 => absurd c_16 (fun q => absurd ((zvd0 A i).mp q) (by rw [hR]; exact nI_ne p (by omega))))
  refine zr_aload_n dX10_appeal_27 rfl ?_
  refine zr_iload_n dX10_appeal_28 rfl ?_
  refine zr_iconst (v := 2) dX10_appeal_29 (by decide) ?_
  refine zr_pVi [] dX10_appeal_30 vX10_149 (qX10_of hX (i := i) (k := 2) g0_kr1 kh2 (by omega)) g0_kr1 (by decide) (by decide) (by decide) rfl rfl (Nat.le_of_ble_eq_true rfl) (by decide) rfl ?_
  refine zr_eqi (x' := nI p) ((rc i hi).2.2.1.trans hR) ?_
  refine zr_istore_n (ls' := [some (.ref y), some (.int (nI i)), some (.int (nI p)), none, none, none]) dX10_appeal_33 rfl (by decide) rfl ?_
  refine zr_iload_n dX10_appeal_34 rfl ?_
  refine zr_pSi [] dX10_appeal_35 vX10_207 (qX10_precedentAt hX (i := p)) (by decide) (by decide) (by decide) rfl rfl (Nat.le_of_ble_eq_true rfl) rfl ?_
  refine zr_istore_n (ls' := [some (.ref y), some (.int (nI i)), some (.int (nI p)), some (.int (nI (42 + 5 * p))), none, none]) dX10_appeal_38 rfl (by decide) rfl ?_
  refine zr_aload_n dX10_appeal_39 rfl ?_
  refine zr_getM (v := .ref (y + 1)) dX10_appeal_40 fX10_7 g0_kr1 rfl ?_
  refine zr_iload_n dX10_appeal_43 rfl ?_
  refine zr_iconst (v := 2) dX10_appeal_44 (by decide) ?_
  refine zr_iadd dX10_appeal_45 ?_
  refine zr_eqi (x' := nI ((42 + 5 * p) + 2)) (nI_add (42 + 5 * p) 2) ?_
  refine zr_iaload dX10_appeal_46 kh2 (vp_in_nI (n := (42 + 5 * p) + 2) (by omega) (by omega)) ?_
  rw [nI_clamp (n := (42 + 5 * p) + 2) (by omega)]
  refine zr_eqi (x' := 1) ((rp p hp).2.2.1.trans hk) ?_
  refine zr_if_le (tgt := 59) dX10_appeal_47 (by decide) (fun c_47 => absurd c_47 (by decide)) (fun c_47 => ?_)
  refine zr_aload_n dX10_appeal_50 rfl ?_
  refine zr_iconst (v := 2) dX10_appeal_51 (by decide) ?_
  refine zr_bipush (v := 6) dX10_appeal_52 (by decide) ?_
  refine zr_iload_n dX10_appeal_54 rfl ?_
  refine zr_callVi [] dX10_appeal_55 vX10_141 (qX10_denies hX (p := 2) (n := 6) (q := nI p) g0_kr1) g0_kr1 (by decide) (by decide) (by decide) rfl rfl (Nat.le_of_ble_eq_true rfl) (by decide) rfl (fun kr14 s_kr14 h_kr14 => ?_)
  obtain ⟨e_kr14, F_kr14, g0_kr14⟩ := h_kr14
  have kh15 : s_kr14.1 (y + 1) = .inl (0, 82, .inl g) := zFr.get F_kr14 (by omega) kh2
  have kh16 : s_kr14.1 (y + 2) = .inl (0, 656, .inl kp) := zFr.get F_kr14 (by omega) kh3
  have kh17 : s_kr14.1 (y + 3) = .inl (0, 82, .inl sv) := zFr.get F_kr14 (by omega) kh4
  have kh18 : s_kr14.1 (y + 4) = .inl (0, 82, .inl bf) := zFr.get F_kr14 (by omega) kh5
  have kh19 : s_kr14.1 (y + 5) = .inl (0, 60, .inl ip) := zFr.get F_kr14 (by omega) kh6
  have kh20 : s_kr14.1 (y + 6) = .inl (1, 400, .inl sg) := zFr.get F_kr14 (by omega) kh7
  have kh21 : s_kr14.1 (y + 11) = .inl (0, 93, .inl td) := zFr.get F_kr14 (by omega) kh8
  have kR22 : zWa y s_kr14 := zWa.fr kR9 F_kr14 (by intro q h1 h2 h3; (try simp only [zIn, zJf] at h3); omega)
  have kR23 : zCy y s_kr14 := zCy.fr kR10 F_kr14 (by intro q h1 h2 h3; (try simp only [zIn, zJf] at h3); omega)
  have kR24 : zXa y s_kr14 := zXa.fr kR11 F_kr14 (by intro q h1 h2 h3; (try simp only [zIn, zJf] at h3); omega)
  have kR25 : zOa y s_kr14 := zOa.fr kR12 F_kr14 (by intro q h1 h2 h3; (try simp only [zIn, zJf] at h3); omega)
  have kF26 := zFr.tr kF13 F_kr14 (by intro q hq; unfold zMq; omega)
  obtain rfl := e_kr14.symm
  exact zr_ireturn dX10_appeal_58 rfl (rfl) (⟨_, rfl, trivial, kF26, ⟨_, _, _, _, _, _, _, _, g0_kr14, ⟨f4, f5, f6, rfl, rfl, rfl, rfl, rfl, f13, f14, f16, f27⟩, kh15, kh16, kh17, kh18, kh19, kh20, kh21, kR22, kR23, kR24, kR25, gr, gS, gK, hm8, gU, hn60, hT, hll, hln⟩⟩)

set_option maxHeartbeats 400000 in
set_option maxRecDepth 100000 in
theorem qX10_appealX {X : zX} (hX : X.1.stackTraces = false) {σ : zS} {y : Nat} {w tm cd dn : Int32} {K : zDk} {A S : zDk} {m : Nat} {U : Nat → zDk} {n : Nat} {T : Nat → Int32} {ll : Nat} {ln : Nat → Int32} {hs kf ld dt dc : Int32} {p : Int32} (hM : zMo y w tm cd dn K A S m U n T ll ln hs kf ld dt dc σ) (gA : zGd A) (hno : ¬ (¬ p < 0 ∧ p < nI (kC A))) : zMet X mX10_appeal yX10_appeal 4 0 0 [.ref y, .int p] σ (zI (fun y_ s => True ∧ zFr σ s (zMq y) ∧ zMo y w tm 1 0 K A S m U n T ll ln hs kf ld dt dc s)) := by
  refine zMet_of (ls := [some (.ref y), some (.int p), none, none, none, none]) rfl (by decide +kernel) rfl (fun h => by cases h) hX (Nat.le_of_ble_eq_true rfl) rfl ?_
  obtain ⟨F, g, kp, sv, bf, ip, sg, td, h0, hf, h1, h2, h3, h4, h5, h6, h11, hWa, hC, hX9, hOt, gr, gS, gK, hm8, gU, hn60, hT, hll, hln⟩ := id hM
  obtain ⟨f4, f5, f6, f7, f8, f9, f10, f11, f13, f14, f16, f27⟩ := id hf
  have hA := gA.1
  obtain ⟨r0, r1, rc, rp⟩ := id gr
  obtain ⟨hC8, hP8, hW⟩ := id hA
  refine zr_aload_n dX10_appeal_0 rfl ?_
  refine zr_iload_n dX10_appeal_1 rfl ?_
  refine zr_callVi [] dX10_appeal_2 vX10_155 (qX10_isNoneX hX h0 h1 r0 (by omega) hno) h0 (by decide) (by decide) (by decide) rfl rfl (Nat.le_of_ble_eq_true rfl) (by decide) rfl (fun kr1 s_kr1 h_kr1 => ?_)
  obtain ⟨e_kr1, F_kr1, g0_kr1⟩ := h_kr1
  have kh2 : s_kr1.1 (y + 1) = .inl (0, 82, .inl g) := zFr.get F_kr1 (by omega) h1
  have kh3 : s_kr1.1 (y + 2) = .inl (0, 656, .inl kp) := zFr.get F_kr1 (by omega) h2
  have kh4 : s_kr1.1 (y + 3) = .inl (0, 82, .inl sv) := zFr.get F_kr1 (by omega) h3
  have kh5 : s_kr1.1 (y + 4) = .inl (0, 82, .inl bf) := zFr.get F_kr1 (by omega) h4
  have kh6 : s_kr1.1 (y + 5) = .inl (0, 60, .inl ip) := zFr.get F_kr1 (by omega) h5
  have kh7 : s_kr1.1 (y + 6) = .inl (1, 400, .inl sg) := zFr.get F_kr1 (by omega) h6
  have kh8 : s_kr1.1 (y + 11) = .inl (0, 93, .inl td) := zFr.get F_kr1 (by omega) h11
  have kR9 : zWa y s_kr1 := zWa.fr hWa F_kr1 (by intro q h1 h2 h3; (try simp only [zIn, zJf] at h3); omega)
  have kR10 : zCy y s_kr1 := zCy.fr hC F_kr1 (by intro q h1 h2 h3; (try simp only [zIn, zJf] at h3); omega)
  have kR11 : zXa y s_kr1 := zXa.fr hX9 F_kr1 (by intro q h1 h2 h3; (try simp only [zIn, zJf] at h3); omega)
  have kR12 : zOa y s_kr1 := zOa.fr hOt F_kr1 (by intro q h1 h2 h3; (try simp only [zIn, zJf] at h3); omega)
  have kF13 := zFr.tr zFr.rf (P := zMq y) F_kr1 (by intro q hq; unfold zMq; omega)
  obtain rfl := e_kr1.symm
  refine zr_if_eq (tgt := 10) dX10_appeal_5 (by decide) (fun c_5 => absurd c_5 (by decide)) (fun c_5 => ?_)
  refine zr_iconst (v := 0) dX10_appeal_8 (by decide) ?_
  exact zr_ireturn dX10_appeal_9 rfl (rfl) (⟨_, rfl, trivial, kF13, ⟨_, _, _, _, _, _, _, _, g0_kr1, ⟨f4, f5, f6, rfl, rfl, f9, f10, f11, f13, f14, f16, f27⟩, kh2, kh3, kh4, kh5, kh6, kh7, kh8, kR9, kR10, kR11, kR12, gr, gS, gK, hm8, gU, hn60, hT, hll, hln⟩⟩)

