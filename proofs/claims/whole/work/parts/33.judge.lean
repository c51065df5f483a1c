/-! the judge: its object at x + 1, the relaxer, three curves -/
def zJd (x : Nat) (σ : zS) : Prop := σ.1 (x + 1) = .inr (3, [.ref (x + 2), .ref (x + 24), .ref (x + 27), .ref (x + 29)]) ∧ zRx (x + 24) σ ∧ zCu (x + 253) σ ∧ zCu (x + 27) σ ∧ zCu (x + 29) σ
def zJf (x : Nat) (q : Nat) : Prop := (x + 24 ≤ q ∧ q < x + 31) ∨ (x + 253 ≤ q ∧ q < x + 255)
theorem zJd.fr {x : Nat} {σ s : zS} {P : Nat → Prop} (h : zJd x σ) (F : zFr σ s P) (hp : ∀ q, x + 1 ≤ q → (q = x + 1 ∨ (x + 24 ≤ q ∧ q < x + 31) ∨ (x + 253 ≤ q ∧ q < x + 255)) → ¬ P q) : zJd x s := by
  obtain ⟨h1, h2, h3, h4, h5⟩ := h
  exact ⟨F.get (hp _ (by omega) (by omega)) h1, h2.fr F (fun q a b => hp q (by omega) (by omega)), h3.fr F (fun q a b => hp q (by omega) (by omega)), h4.fr F (fun q a b => hp q (by omega) (by omega)), h5.fr F (fun q a b => hp q (by omega) (by omega))⟩
theorem zJd.obj {x : Nat} {σ : zS} (h : zJd x σ) : σ.1 (x + 1) = .inr (3, [.ref (x + 2), .ref (x + 24), .ref (x + 27), .ref (x + 29)]) := h.1
/-- what stands against an appeal -/
def zOA (A : zDk) (i : Nat) : Int32 := if kR A i = -1 then 3 else if kA A (kR A i).toNatClampNeg = 0 then 0 else 6
def zOR (O : Option (Nat × List Int32)) : Int32 := match O with
  | none => 5
  | some q => if 16 < q.2.length then 5 else 0
/-- what stands against a command -/
def zOb (A : zDk) (c k : Nat) : Int32 := if c = 0 then (if kC A < 8 then 0 else 1) else if ¬ k < kC A then 8 else if c = 6 then zOA A k else if ¬ kR A k = -1 then 2 else if c = 1 then (if kN A k < 16 then 0 else 1) else if c = 2 then (if kN A k = 0 then 4 else 0) else if c = 4 then zOR (zRn 2000 [] (zWd A k)) else 0
theorem hc_iff {k c : Nat} (hk : k < 2 ^ 31) (hc : c < 2 ^ 31) : (if ¬ nI k < 0 ∧ nI k < nI c then (1 : Int32) else 0) = 0 ↔ ¬ k < c := by
  rw [ite10, nI_ltI hk hc]
  constructor
  · intro h q; exact h ⟨nI_pos hk, q⟩
  · intro h q; exact h q.2
set_option maxHeartbeats 400000 in
set_option maxRecDepth 100000 in
theorem qX5_objectionToAppeal {X : zX} (hX : X.1.stackTraces = false) {σ : zS} {x i : Nat} {A : zDk} (hj : σ.1 (x + 1) = .inr (3, [.ref (x + 2), .ref (x + 24), .ref (x + 27), .ref (x + 29)])) (h : zDA (x + 2) A σ) (hA : zDw A) (hi : i < 8) : zMet X mX5_objectionToAppeal yX5_objectionToAppeal 1 0 0 [.ref ((x + 1)), .int (nI i)] σ (zI (fun y_ s_ => y_ = zOA A i ∧ s_ = σ)) := by
  refine zMet_of (ls := [some (.ref ((x + 1))), some (.int (nI i))]) rfl (by decide +kernel) rfl (fun h => by cases h) hX (Nat.le_of_ble_eq_true rfl) rfl ?_
  refine zr_aload_n dX5_objectionToAppeal_0 rfl ?_
  refine zr_getfield dX5_objectionToAppeal_1 fX5_12 hj rfl (by decide) ?_
  refine zr_iload_n dX5_objectionToAppeal_4 rfl ?_
  refine zr_pVi [] dX5_objectionToAppeal_5 vX5_56 (qX3_hasVerdict hX (i := i) h hA (by omega)) (zDA.obj h) (by decide) (by decide) (by decide) rfl rfl (Nat.le_of_ble_eq_true rfl) (by decide) rfl ?_
  refine zr_if_ne (tgt := 13) dX5_objectionToAppeal_8 (by decide) (fun c_8 => ?_) (fun c_8 => ?_)
  · have e8 := fun q => c_8 (ite01.mpr q)
    obtain ⟨p, hp, ep⟩ : ∃ p, p < 8 ∧ kR A i = nI p := ((hA.2.2 i hi).2.2.1).resolve_left e8
    refine zr_aload_n dX5_objectionToAppeal_13 rfl ?_
    refine zr_getfield dX5_objectionToAppeal_14 fX5_12 hj rfl (by decide) ?_
    obtain ⟨wr1, rr1, mr1, tr1, ar1, fr1, ca1, cb1, cc1, cd1, ce1, cf1, cw1⟩ := id h
    refine zr_getfield dX5_objectionToAppeal_17 fX5_91 ca1 rfl (by decide) ?_
    refine zr_aload_n dX5_objectionToAppeal_20 rfl ?_
    refine zr_getfield dX5_objectionToAppeal_21 fX5_12 hj rfl (by decide) ?_
    refine zr_getfield dX5_objectionToAppeal_24 fX5_95 ca1 rfl (by decide) ?_
    refine zr_iload_n dX5_objectionToAppeal_27 rfl ?_
    refine zr_iaload dX5_objectionToAppeal_28 cc1 (vp_in_nI (n := i) (by omega) (by omega)) ?_
    rw [nI_clamp (n := i) (by omega)]
    refine zr_eqi (x' := (kR A i)) (cw1 i (by omega)).2.1.1 ?_
    refine zr_eqi (x' := nI p) (ep) ?_
    refine zr_baload dX5_objectionToAppeal_29 cf1 (vp_in_nI (n := p) (by omega) (by omega)) ?_
    rw [nI_clamp (n := p) (by omega)]
    refine zr_eqi (x' := (kA A p)) (cw1 p (by omega)).2.1.2.2.2 ?_
    refine zr_if_eq (tgt := 38) dX5_objectionToAppeal_30 (by decide) (fun c_30 => ?_) (fun c_30 => ?_)
    · refine zr_iconst (v := 0) dX5_objectionToAppeal_38 (by decide) ?_
      exact zr_ireturn dX5_objectionToAppeal_39 rfl (rfl) (⟨_, rfl, by unfold zOA; rw [if_neg e8, ep, nI_clamp (by omega)]; first | rw [if_pos c_30] | rw [if_neg c_30], rfl⟩)
    · refine zr_bipush (v := 6) dX5_objectionToAppeal_33 (by decide) ?_
      refine zr_goto (tgt := 39) dX5_objectionToAppeal_35 (by decide) ?_
      exact zr_ireturn dX5_objectionToAppeal_39 rfl (rfl) (⟨_, rfl, by unfold zOA; rw [if_neg e8, ep, nI_clamp (by omega)]; first | rw [if_pos c_30] | rw [if_neg c_30], rfl⟩)
  · refine zr_iconst (v := 3) dX5_objectionToAppeal_11 (by decide) ?_
    exact zr_ireturn dX5_objectionToAppeal_12 rfl (rfl) (⟨_, rfl, by unfold zOA; rw [if_pos (ite01.mp c_8)], rfl⟩)

set_option maxHeartbeats 400000 in
set_option maxRecDepth 100000 in
theorem qX5_objectionTo0 {X : zX} (hX : X.1.stackTraces = false) {σ : zS} {x : Nat} {A : zDk} {k : Nat} (hJ : zJd x σ) (h : zDA (x + 2) A σ) (hA : zDw A) (hQ : ∀ i j : Nat, i < 7 → j < 7 → zQ X i = zQ X j → i = j) (hk31 : k < 2 ^ 31) : zMet X mX5_objectionTo yX5_objectionTo 5 0 0 [.ref ((x + 1)), .ref ((zQ X 0)), .int (nI k)] σ (zI (fun y_ s => y_ = zOb A 0 k ∧ zFr σ s (zJf x) ∧ zJd x s)) := by
  refine zMet_of (ls := [some (.ref ((x + 1))), some (.ref ((zQ X 0))), some (.int (nI k)), none]) rfl (by decide +kernel) rfl (fun h => by cases h) hX (Nat.le_of_ble_eq_true rfl) rfl ?_
  obtain ⟨hj, jr, jk, jc, jo⟩ := id hJ
  obtain ⟨hC8, hP8, hW⟩ := id hA
  refine zr_aload_n dX5_objectionTo_0 rfl ?_
  refine zr_enum (i := 0) dX5_objectionTo_1 (by decide) rfl fX5_35 ?_
  refine zr_acmp_ne (tgt := 23) dX5_objectionTo_4 (by decide) (fun c_4 => absurd (rfl) c_4) (fun c_4 => ?_)
  refine zr_aload_n dX5_objectionTo_7 rfl ?_
  refine zr_getfield dX5_objectionTo_8 fX5_12 hj rfl (by decide) ?_
  refine zr_pVi [] dX5_objectionTo_11 vX5_41 (qX3_isFull hX  h hA ) (zDA.obj h) (by decide) (by decide) (by decide) rfl rfl (Nat.le_of_ble_eq_true rfl) (by decide) rfl ?_
  refine zr_if_eq (tgt := 21) dX5_objectionTo_14 (by decide) (fun c_14 => ?_) (fun c_14 => ?_)
  · refine zr_iconst (v := 0) dX5_objectionTo_21 (by decide) ?_
    exact zr_ireturn dX5_objectionTo_22 rfl (rfl) (⟨_, rfl, by unfold zOb; rw [if_pos rfl]; first | rw [if_pos (ite01.mp c_14)] | rw [if_neg (fun q => c_14 (ite01.mpr q))], zFr.rf (P := zJf x), ⟨hj, jr, jk, jc, jo⟩⟩)
  · refine zr_iconst (v := 1) dX5_objectionTo_17 (by decide) ?_
    refine zr_goto (tgt := 22) dX5_objectionTo_18 (by decide) ?_
    exact zr_ireturn dX5_objectionTo_22 rfl (rfl) (⟨_, rfl, by unfold zOb; rw [if_pos rfl]; first | rw [if_pos (ite01.mp c_14)] | rw [if_neg (fun q => c_14 (ite01.mpr q))], zFr.rf (P := zJf x), ⟨hj, jr, jk, jc, jo⟩⟩)

set_option maxHeartbeats 400000 in
set_option maxRecDepth 100000 in
theorem qX5_objectionTo1 {X : zX} (hX : X.1.stackTraces = false) {σ : zS} {x : Nat} {A : zDk} {k : Nat} (hJ : zJd x σ) (h : zDA (x + 2) A σ) (hA : zDw A) (hQ : ∀ i j : Nat, i < 7 → j < 7 → zQ X i = zQ X j → i = j) (hk31 : k < 2 ^ 31) : zMet X mX5_objectionTo yX5_objectionTo 5 0 0 [.ref ((x + 1)), .ref ((zQ X 1)), .int (nI k)] σ (zI (fun y_ s => y_ = zOb A 1 k ∧ zFr σ s (zJf x) ∧ zJd x s)) := by
  refine zMet_of (ls := [some (.ref ((x + 1))), some (.ref ((zQ X 1))), some (.int (nI k)), none]) rfl (by decide +kernel) rfl (fun h => by cases h) hX (Nat.le_of_ble_eq_true rfl) rfl ?_
  obtain ⟨hj, jr, jk, jc, jo⟩ := id hJ
  obtain ⟨hC8, hP8, hW⟩ := id hA
  refine zr_aload_n dX5_objectionTo_0 rfl ?_
  refine zr_enum (i := 0) dX5_objectionTo_1 (by decide) rfl fX5_35 ?_
  refine zr_acmp_ne (tgt := 23) dX5_objectionTo_4 (by decide) (fun c_4 => ?_) (fun c_4 => absurd c_4 (fun q => absurd (hQ 1 0 (by decide) (by decide) q) (by decide)))
  refine zr_aload_n dX5_objectionTo_23 rfl ?_
  refine zr_getfield dX5_objectionTo_24 fX5_12 hj rfl (by decide) ?_
  refine zr_iload_n dX5_objectionTo_27 rfl ?_
  refine zr_pVi [] dX5_objectionTo_28 vX5_45 (qX3_hasCase hX (x := nI k) h) (zDA.obj h) (by decide) (by decide) (by decide) rfl rfl (Nat.le_of_ble_eq_true rfl) (by decide) rfl ?_
  refine zr_if_ne (tgt := 37) dX5_objectionTo_31 (by decide) (fun c_31 => ?_) (fun c_31 => ?_)
  · have hk : k < kC A := Classical.not_not.mp (fun q => c_31 ((hc_iff (by omega) (by omega)).mpr q))
    have h16 := (hW k (by omega)).1
    refine zr_aload_n dX5_objectionTo_37 rfl ?_
    refine zr_enum (i := 6) dX5_objectionTo_38 (by decide) rfl fX5_49 ?_
    refine zr_acmp_ne (tgt := 50) dX5_objectionTo_41 (by decide) (fun c_41 => ?_) (fun c_41 => absurd c_41 (fun q => absurd (hQ 1 6 (by decide) (by decide) q) (by decide)))
    refine zr_aload_n dX5_objectionTo_50 rfl ?_
    refine zr_getfield dX5_objectionTo_51 fX5_12 hj rfl (by decide) ?_
    refine zr_iload_n dX5_objectionTo_54 rfl ?_
    refine zr_pVi [] dX5_objectionTo_55 vX5_56 (qX3_hasVerdict hX (i := k) h hA (by omega)) (zDA.obj h) (by decide) (by decide) (by decide) rfl rfl (Nat.le_of_ble_eq_true rfl) (by decide) rfl ?_
    refine zr_if_eq (tgt := 63) dX5_objectionTo_58 (by decide) (fun c_58 => ?_) (fun c_58 => ?_)
    · refine zr_aload_n dX5_objectionTo_63 rfl ?_
      refine zr_getfield dX5_objectionTo_64 fX5_12 hj rfl (by decide) ?_
      obtain ⟨wr1, rr1, mr1, tr1, ar1, fr1, ca1, cb1, cc1, cd1, ce1, cf1, cw1⟩ := id h
      refine zr_getfield dX5_objectionTo_67 fX5_59 ca1 rfl (by decide) ?_
      refine zr_iload_n dX5_objectionTo_70 rfl ?_
      refine zr_aaload6 (b := (x + 2 + 6 + 2 * k)) dX5_objectionTo_71 cb1 (vp_in_nI (n := k) (by omega) (by omega)) (by rw [nI_clamp (by omega)]; exact (cw1 k (by omega)).1) ?_
      refine zr_astore_n (ls' := [some (.ref ((x + 1))), some (.ref ((zQ X 1))), some (.int (nI k)), some (.ref ((x + 2 + 6 + 2 * k)))]) dX5_objectionTo_72 rfl (by decide) rfl ?_
      refine zr_MAP dX5_objectionTo_73 fX5_63 ?_
      refine zr_aload_n dX5_objectionTo_76 rfl ?_
      refine zr_callO hX [.ref ((zQ X 36))] dX5_objectionTo_77 rfl (i := 1) (by decide) (by omega) (Nat.le_of_ble_eq_true rfl) rfl ?_
      refine zr_MAPat (v := 1) dX5_objectionTo_80 (vp_in_nI (n := 1) (by omega) (by omega)) (by rw [nI_clamp (by omega)]; rfl) ?_
      refine zr_tableIn (off := 27) (tgt := 108) dX5_objectionTo_81 (by decide) (by decide) (by decide) (by decide) ?_
      refine zr_aload_n dX5_objectionTo_108 rfl ?_
      refine zr_pVi [] dX5_objectionTo_109 vX5_73 (qW_isFull hX (i := k) h hA (by omega)) (zDA.wobj h (by omega)) (by decide) (by decide) (by decide) rfl rfl (Nat.le_of_ble_eq_true rfl) (by decide) rfl ?_
      refine zr_if_eq (tgt := 119) dX5_objectionTo_112 (by decide) (fun c_112 => ?_) (fun c_112 => ?_)
      · refine zr_iconst (v := 0) dX5_objectionTo_119 (by decide) ?_
        exact zr_ireturn dX5_objectionTo_120 rfl (rfl) (⟨_, rfl, by unfold zOb; rw [if_neg (by decide)]; rw [if_neg (not_not_intro hk)]; rw [if_neg (by decide)]; rw [if_neg (not_not_intro (ite01.mp c_58))]; rw [if_pos rfl]; first | rw [if_pos (ite01.mp c_112)] | rw [if_neg (fun q => c_112 (ite01.mpr q))], zFr.rf (P := zJf x), ⟨hj, jr, jk, jc, jo⟩⟩)
      · refine zr_iconst (v := 1) dX5_objectionTo_115 (by decide) ?_
        refine zr_goto (tgt := 120) dX5_objectionTo_116 (by decide) ?_
        exact zr_ireturn dX5_objectionTo_120 rfl (rfl) (⟨_, rfl, by unfold zOb; rw [if_neg (by decide)]; rw [if_neg (not_not_intro hk)]; rw [if_neg (by decide)]; rw [if_neg (not_not_intro (ite01.mp c_58))]; rw [if_pos rfl]; first | rw [if_pos (ite01.mp c_112)] | rw [if_neg (fun q => c_112 (ite01.mpr q))], zFr.rf (P := zJf x), ⟨hj, jr, jk, jc, jo⟩⟩)
    · refine zr_iconst (v := 2) dX5_objectionTo_61 (by decide) ?_
      exact zr_ireturn dX5_objectionTo_62 rfl (rfl) (⟨_, rfl, by unfold zOb; rw [if_neg (by decide)]; rw [if_neg (not_not_intro hk)]; rw [if_neg (by decide)]; rw [if_pos (fun q => c_58 (ite01.mpr q))], zFr.rf (P := zJf x), ⟨hj, jr, jk, jc, jo⟩⟩)
  · refine zr_bipush (v := 8) dX5_objectionTo_34 (by decide) ?_
    exact zr_ireturn dX5_objectionTo_36 rfl (rfl) (⟨_, rfl, by unfold zOb; rw [if_neg (by decide)]; rw [if_pos ((hc_iff (by omega) (by omega)).mp c_31)], zFr.rf (P := zJf x), ⟨hj, jr, jk, jc, jo⟩⟩)

set_option maxHeartbeats 400000 in
set_option maxRecDepth 100000 in
theorem qX5_objectionTo2 {X : zX} (hX : X.1.stackTraces = false) {σ : zS} {x : Nat} {A : zDk} {k : Nat} (hJ : zJd x σ) (h : zDA (x + 2) A σ) (hA : zDw A) (hQ : ∀ i j : Nat, i < 7 → j < 7 → zQ X i = zQ X j → i = j) (hk31 : k < 2 ^ 31) : zMet X mX5_objectionTo yX5_objectionTo 5 0 0 [.ref ((x + 1)), .ref ((zQ X 2)), .int (nI k)] σ (zI (fun y_ s => y_ = zOb A 2 k ∧ zFr σ s (zJf x) ∧ zJd x s)) := by
  refine zMet_of (ls := [some (.ref ((x + 1))), some (.ref ((zQ X 2))), some (.int (nI k)), none]) rfl (by decide +kernel) rfl (fun h => by cases h) hX (Nat.le_of_ble_eq_true rfl) rfl ?_
  obtain ⟨hj, jr, jk, jc, jo⟩ := id hJ
  obtain ⟨hC8, hP8, hW⟩ := id hA
  refine zr_aload_n dX5_objectionTo_0 rfl ?_
  refine zr_enum (i := 0) dX5_objectionTo_1 (by decide) rfl fX5_35 ?_
  refine zr_acmp_ne (tgt := 23) dX5_objectionTo_4 (by decide) (fun c_4 => ?_) (fun c_4 => absurd c_4 (fun q => absurd (hQ 2 0 (by decide) (by decide) q) (by decide)))
  refine zr_aload_n dX5_objectionTo_23 rfl ?_
  refine zr_getfield dX5_objectionTo_24 fX5_12 hj rfl (by decide) ?_
  refine zr_iload_n dX5_objectionTo_27 rfl ?_
  refine zr_pVi [] dX5_objectionTo_28 vX5_45 (qX3_hasCase hX (x := nI k) h) (zDA.obj h) (by decide) (by decide) (by decide) rfl rfl (Nat.le_of_ble_eq_true rfl) (by decide) rfl ?_
  refine zr_if_ne (tgt := 37) dX5_objectionTo_31 (by decide) (fun c_31 => ?_) (fun c_31 => ?_)
  · have hk : k < kC A := Classical.not_not.mp (fun q => c_31 ((hc_iff (by omega) (by omega)).mpr q))
    have h16 := (hW k (by omega)).1
    refine zr_aload_n dX5_objectionTo_37 rfl ?_
    refine zr_enum (i := 6) dX5_objectionTo_38 (by decide) rfl fX5_49 ?_
    refine zr_acmp_ne (tgt := 50) dX5_objectionTo_41 (by decide) (fun c_41 => ?_) (fun c_41 => absurd c_41 (fun q => absurd (hQ 2 6 (by decide) (by decide) q) (by decide)))
    refine zr_aload_n dX5_objectionTo_50 rfl ?_
    refine zr_getfield dX5_objectionTo_51 fX5_12 hj rfl (by decide) ?_
    refine zr_iload_n dX5_objectionTo_54 rfl ?_
    refine zr_pVi [] dX5_objectionTo_55 vX5_56 (qX3_hasVerdict hX (i := k) h hA (by omega)) (zDA.obj h) (by decide) (by decide) (by decide) rfl rfl (Nat.le_of_ble_eq_true rfl) (by decide) rfl ?_
    refine zr_if_eq (tgt := 63) dX5_objectionTo_58 (by decide) (fun c_58 => ?_) (fun c_58 => ?_)
    · refine zr_aload_n dX5_objectionTo_63 rfl ?_
      refine zr_getfield dX5_objectionTo_64 fX5_12 hj rfl (by decide) ?_
      obtain ⟨wr1, rr1, mr1, tr1, ar1, fr1, ca1, cb1, cc1, cd1, ce1, cf1, cw1⟩ := id h
      refine zr_getfield dX5_objectionTo_67 fX5_59 ca1 rfl (by decide) ?_
      refine zr_iload_n dX5_objectionTo_70 rfl ?_
      refine zr_aaload6 (b := (x + 2 + 6 + 2 * k)) dX5_objectionTo_71 cb1 (vp_in_nI (n := k) (by omega) (by omega)) (by rw [nI_clamp (by omega)]; exact (cw1 k (by omega)).1) ?_
      refine zr_astore_n (ls' := [some (.ref ((x + 1))), some (.ref ((zQ X 2))), some (.int (nI k)), some (.ref ((x + 2 + 6 + 2 * k)))]) dX5_objectionTo_72 rfl (by decide) rfl ?_
      refine zr_MAP dX5_objectionTo_73 fX5_63 ?_
      refine zr_aload_n dX5_objectionTo_76 rfl ?_
      refine zr_callO hX [.ref ((zQ X 36))] dX5_objectionTo_77 rfl (i := 2) (by decide) (by omega) (Nat.le_of_ble_eq_true rfl) rfl ?_
      refine zr_MAPat (v := 2) dX5_objectionTo_80 (vp_in_nI (n := 2) (by omega) (by omega)) (by rw [nI_clamp (by omega)]; rfl) ?_
      refine zr_tableIn (off := 40) (tgt := 121) dX5_objectionTo_81 (by decide) (by decide) (by decide) (by decide) ?_
      refine zr_aload_n dX5_objectionTo_121 rfl ?_
      obtain ⟨we2, wg2, wc2, wl2, wm2⟩ := cw1 k (by omega)
      refine zr_getfield dX5_objectionTo_122 fX5_76 wc2 rfl (by decide) ?_
      refine zr_if_ne (tgt := 132) dX5_objectionTo_125 (by decide) (fun c_125 => ?_) (fun c_125 => ?_)
      · refine zr_iconst (v := 0) dX5_objectionTo_132 (by decide) ?_
        exact zr_ireturn dX5_objectionTo_133 rfl (rfl) (⟨_, rfl, by unfold zOb; rw [if_neg (by decide)]; rw [if_neg (not_not_intro hk)]; rw [if_neg (by decide)]; rw [if_neg (not_not_intro (ite01.mp c_58))]; rw [if_neg (by decide), if_pos rfl]; first | rw [if_pos ((nI_eq (b := 0) (by omega) (by omega)).mp c_125)] | rw [if_neg (fun q => c_125 ((nI_eq (b := 0) (by omega) (by omega)).mpr q))], zFr.rf (P := zJf x), ⟨hj, jr, jk, jc, jo⟩⟩)
      · refine zr_iconst (v := 4) dX5_objectionTo_128 (by decide) ?_
        refine zr_goto (tgt := 133) dX5_objectionTo_129 (by decide) ?_
        exact zr_ireturn dX5_objectionTo_133 rfl (rfl) (⟨_, rfl, by unfold zOb; rw [if_neg (by decide)]; rw [if_neg (not_not_intro hk)]; rw [if_neg (by decide)]; rw [if_neg (not_not_intro (ite01.mp c_58))]; rw [if_neg (by decide), if_pos rfl]; first | rw [if_pos ((nI_eq (b := 0) (by omega) (by omega)).mp c_125)] | rw [if_neg (fun q => c_125 ((nI_eq (b := 0) (by omega) (by omega)).mpr q))], zFr.rf (P := zJf x), ⟨hj, jr, jk, jc, jo⟩⟩)
    · refine zr_iconst (v := 2) dX5_objectionTo_61 (by decide) ?_
      exact zr_ireturn dX5_objectionTo_62 rfl (rfl) (⟨_, rfl, by unfold zOb; rw [if_neg (by decide)]; rw [if_neg (not_not_intro hk)]; rw [if_neg (by decide)]; rw [if_pos (fun q => c_58 (ite01.mpr q))], zFr.rf (P := zJf x), ⟨hj, jr, jk, jc, jo⟩⟩)
  · refine zr_bipush (v := 8) dX5_objectionTo_34 (by decide) ?_
    exact zr_ireturn dX5_objectionTo_36 rfl (rfl) (⟨_, rfl, by unfold zOb; rw [if_neg (by decide)]; rw [if_pos ((hc_iff (by omega) (by omega)).mp c_31)], zFr.rf (P := zJf x), ⟨hj, jr, jk, jc, jo⟩⟩)

set_option maxHeartbeats 400000 in
set_option maxRecDepth 100000 in
theorem qX5_objectionTo3 {X : zX} (hX : X.1.stackTraces = false) {σ : zS} {x : Nat} {A : zDk} {k : Nat} (hJ : zJd x σ) (h : zDA (x + 2) A σ) (hA : zDw A) (hQ : ∀ i j : Nat, i < 7 → j < 7 → zQ X i = zQ X j → i = j) (hk31 : k < 2 ^ 31) : zMet X mX5_objectionTo yX5_objectionTo 5 0 0 [.ref ((x + 1)), .ref ((zQ X 3)), .int (nI k)] σ (zI (fun y_ s => y_ = zOb A 3 k ∧ zFr σ s (zJf x) ∧ zJd x s)) := by
  refine zMet_of (ls := [some (.ref ((x + 1))), some (.ref ((zQ X 3))), some (.int (nI k)), none]) rfl (by decide +kernel) rfl (fun h => by cases h) hX (Nat.le_of_ble_eq_true rfl) rfl ?_
  obtain ⟨hj, jr, jk, jc, jo⟩ := id hJ
  obtain ⟨hC8, hP8, hW⟩ := id hA
  refine zr_aload_n dX5_objectionTo_0 rfl ?_
  refine zr_enum (i := 0) dX5_objectionTo_1 (by decide) rfl fX5_35 ?_
  refine zr_acmp_ne (tgt := 23) dX5_objectionTo_4 (by decide) (fun c_4 => ?_) (fun c_4 => absurd c_4 (fun q => absurd (hQ 3 0 (by decide) (by decide) q) (by decide)))
  refine zr_aload_n dX5_objectionTo_23 rfl ?_
  refine zr_getfield dX5_objectionTo_24 fX5_12 hj rfl (by decide) ?_
  refine zr_iload_n dX5_objectionTo_27 rfl ?_
  refine zr_pVi [] dX5_objectionTo_28 vX5_45 (qX3_hasCase hX (x := nI k) h) (zDA.obj h) (by decide) (by decide) (by decide) rfl rfl (Nat.le_of_ble_eq_true rfl) (by decide) rfl ?_
  refine zr_if_ne (tgt := 37) dX5_objectionTo_31 (by decide) (fun c_31 => ?_) (fun c_31 => ?_)
  · have hk : k < kC A := Classical.not_not.mp (fun q => c_31 ((hc_iff (by omega) (by omega)).mpr q))
    have h16 := (hW k (by omega)).1
    refine zr_aload_n dX5_objectionTo_37 rfl ?_
    refine zr_enum (i := 6) dX5_objectionTo_38 (by decide) rfl fX5_49 ?_
    refine zr_acmp_ne (tgt := 50) dX5_objectionTo_41 (by decide) (fun c_41 => ?_) (fun c_41 => absurd c_41 (fun q => absurd (hQ 3 6 (by decide) (by decide) q) (by decide)))
    refine zr_aload_n dX5_objectionTo_50 rfl ?_
    refine zr_getfield dX5_objectionTo_51 fX5_12 hj rfl (by decide) ?_
    refine zr_iload_n dX5_objectionTo_54 rfl ?_
    refine zr_pVi [] dX5_objectionTo_55 vX5_56 (qX3_hasVerdict hX (i := k) h hA (by omega)) (zDA.obj h) (by decide) (by decide) (by decide) rfl rfl (Nat.le_of_ble_eq_true rfl) (by decide) rfl ?_
    refine zr_if_eq (tgt := 63) dX5_objectionTo_58 (by decide) (fun c_58 => ?_) (fun c_58 => ?_)
    · refine zr_aload_n dX5_objectionTo_63 rfl ?_
      refine zr_getfield dX5_objectionTo_64 fX5_12 hj rfl (by decide) ?_
      obtain ⟨wr1, rr1, mr1, tr1, ar1, fr1, ca1, cb1, cc1, cd1, ce1, cf1, cw1⟩ := id h
      refine zr_getfield dX5_objectionTo_67 fX5_59 ca1 rfl (by decide) ?_
      refine zr_iload_n dX5_objectionTo_70 rfl ?_
      refine zr_aaload6 (b := (x + 2 + 6 + 2 * k)) dX5_objectionTo_71 cb1 (vp_in_nI (n := k) (by omega) (by omega)) (by rw [nI_clamp (by omega)]; exact (cw1 k (by omega)).1) ?_
      refine zr_astore_n (ls' := [some (.ref ((x + 1))), some (.ref ((zQ X 3))), some (.int (nI k)), some (.ref ((x + 2 + 6 + 2 * k)))]) dX5_objectionTo_72 rfl (by decide) rfl ?_
      refine zr_MAP dX5_objectionTo_73 fX5_63 ?_
      refine zr_aload_n dX5_objectionTo_76 rfl ?_
      refine zr_callO hX [.ref ((zQ X 36))] dX5_objectionTo_77 rfl (i := 3) (by decide) (by omega) (Nat.le_of_ble_eq_true rfl) rfl ?_
      refine zr_MAPat (v := 5) dX5_objectionTo_80 (vp_in_nI (n := 3) (by omega) (by omega)) (by rw [nI_clamp (by omega)]; rfl) ?_
      refine zr_tableOut (tgt := 170) dX5_objectionTo_81 (by decide) (by decide) ?_
      refine zr_iconst (v := 0) dX5_objectionTo_170 (by decide) ?_
      exact zr_ireturn dX5_objectionTo_171 rfl (rfl) (⟨_, rfl, by unfold zOb; rw [if_neg (by decide)]; rw [if_neg (not_not_intro hk)]; rw [if_neg (by decide)]; rw [if_neg (not_not_intro (ite01.mp c_58))]; rw [if_neg (by decide), if_neg (by decide), if_neg (by decide)], zFr.rf (P := zJf x), ⟨hj, jr, jk, jc, jo⟩⟩)
    · refine zr_iconst (v := 2) dX5_objectionTo_61 (by decide) ?_
      exact zr_ireturn dX5_objectionTo_62 rfl (rfl) (⟨_, rfl, by unfold zOb; rw [if_neg (by decide)]; rw [if_neg (not_not_intro hk)]; rw [if_neg (by decide)]; rw [if_pos (fun q => c_58 (ite01.mpr q))], zFr.rf (P := zJf x), ⟨hj, jr, jk, jc, jo⟩⟩)
  · refine zr_bipush (v := 8) dX5_objectionTo_34 (by decide) ?_
    exact zr_ireturn dX5_objectionTo_36 rfl (rfl) (⟨_, rfl, by unfold zOb; rw [if_neg (by decide)]; rw [if_pos ((hc_iff (by omega) (by omega)).mp c_31)], zFr.rf (P := zJf x), ⟨hj, jr, jk, jc, jo⟩⟩)

set_option maxHeartbeats 400000 in
set_option maxRecDepth 100000 in
theorem qX5_objectionTo4 {X : zX} (hX : X.1.stackTraces = false) {σ : zS} {x : Nat} {A : zDk} {k : Nat} (hJ : zJd x σ) (h : zDA (x + 2) A σ) (hA : zDw A) (hQ : ∀ i j : Nat, i < 7 → j < 7 → zQ X i = zQ X j → i = j) (hk31 : k < 2 ^ 31) : zMet X mX5_objectionTo yX5_objectionTo 5 0 0 [.ref ((x + 1)), .ref ((zQ X 4)), .int (nI k)] σ (zI (fun y_ s => y_ = zOb A 4 k ∧ zFr σ s (zJf x) ∧ zJd x s)) := by
  refine zMet_of (ls := [some (.ref ((x + 1))), some (.ref ((zQ X 4))), some (.int (nI k)), none]) rfl (by decide +kernel) rfl (fun h => by cases h) hX (Nat.le_of_ble_eq_true rfl) rfl ?_
  obtain ⟨hj, jr, jk, jc, jo⟩ := id hJ
  obtain ⟨hC8, hP8, hW⟩ := id hA
  refine zr_aload_n dX5_objectionTo_0 rfl ?_
  refine zr_enum (i := 0) dX5_objectionTo_1 (by decide) rfl fX5_35 ?_
  refine zr_acmp_ne (tgt := 23) dX5_objectionTo_4 (by decide) (fun c_4 => ?_) (fun c_4 => absurd c_4 (fun q => absurd (hQ 4 0 (by decide) (by decide) q) (by decide)))
  refine zr_aload_n dX5_objectionTo_23 rfl ?_
  refine zr_getfield dX5_objectionTo_24 fX5_12 hj rfl (by decide) ?_
  refine zr_iload_n dX5_objectionTo_27 rfl ?_
  refine zr_pVi [] dX5_objectionTo_28 vX5_45 (qX3_hasCase hX (x := nI k) h) (zDA.obj h) (by decide) (by decide) (by decide) rfl rfl (Nat.le_of_ble_eq_true rfl) (by decide) rfl ?_
  refine zr_if_ne (tgt := 37) dX5_objectionTo_31 (by decide) (fun c_31 => ?_) (fun c_31 => ?_)
  · have hk : k < kC A := Classical.not_not.mp (fun q => c_31 ((hc_iff (by omega) (by omega)).mpr q))
    have h16 := (hW k (by omega)).1
    refine zr_aload_n dX5_objectionTo_37 rfl ?_
    refine zr_enum (i := 6) dX5_objectionTo_38 (by decide) rfl fX5_49 ?_
    refine zr_acmp_ne (tgt := 50) dX5_objectionTo_41 (by decide) (fun c_41 => ?_) (fun c_41 => absurd c_41 (fun q => absurd (hQ 4 6 (by decide) (by decide) q) (by decide)))
    refine zr_aload_n dX5_objectionTo_50 rfl ?_
    refine zr_getfield dX5_objectionTo_51 fX5_12 hj rfl (by decide) ?_
    refine zr_iload_n dX5_objectionTo_54 rfl ?_
    refine zr_pVi [] dX5_objectionTo_55 vX5_56 (qX3_hasVerdict hX (i := k) h hA (by omega)) (zDA.obj h) (by decide) (by decide) (by decide) rfl rfl (Nat.le_of_ble_eq_true rfl) (by decide) rfl ?_
    refine zr_if_eq (tgt := 63) dX5_objectionTo_58 (by decide) (fun c_58 => ?_) (fun c_58 => ?_)
    · refine zr_aload_n dX5_objectionTo_63 rfl ?_
      refine zr_getfield dX5_objectionTo_64 fX5_12 hj rfl (by decide) ?_
      obtain ⟨wr1, rr1, mr1, tr1, ar1, fr1, ca1, cb1, cc1, cd1, ce1, cf1, cw1⟩ := id h
      refine zr_getfield dX5_objectionTo_67 fX5_59 ca1 rfl (by decide) ?_
      refine zr_iload_n dX5_objectionTo_70 rfl ?_
      refine zr_aaload6 (b := (x + 2 + 6 + 2 * k)) dX5_objectionTo_71 cb1 (vp_in_nI (n := k) (by omega) (by omega)) (by rw [nI_clamp (by omega)]; exact (cw1 k (by omega)).1) ?_
      refine zr_astore_n (ls' := [some (.ref ((x + 1))), some (.ref ((zQ X 4))), some (.int (nI k)), some (.ref ((x + 2 + 6 + 2 * k)))]) dX5_objectionTo_72 rfl (by decide) rfl ?_
      refine zr_MAP dX5_objectionTo_73 fX5_63 ?_
      refine zr_aload_n dX5_objectionTo_76 rfl ?_
      refine zr_callO hX [.ref ((zQ X 36))] dX5_objectionTo_77 rfl (i := 4) (by decide) (by omega) (Nat.le_of_ble_eq_true rfl) rfl ?_
      refine zr_MAPat (v := 3) dX5_objectionTo_80 (vp_in_nI (n := 4) (by omega) (by omega)) (by rw [nI_clamp (by omega)]; rfl) ?_
      refine zr_tableIn (off := 53) (tgt := 134) dX5_objectionTo_81 (by decide) (by decide) (by decide) (by decide) ?_
      refine zr_aload_n dX5_objectionTo_134 rfl ?_
      refine zr_getfield dX5_objectionTo_135 fX5_21 hj rfl (by decide) ?_
      refine zr_aload_n dX5_objectionTo_138 rfl ?_
      refine zr_callVv [] dX5_objectionTo_139 vX5_80 (qR_relaxWord hX (i := k) jr h hA (by omega) (by omega)) (zRx.obj jr).choose_spec (by decide) (by decide) (by decide) rfl rfl (Nat.le_of_ble_eq_true rfl) (by decide) rfl (fun s_kr2 h_kr2 => ?_)
      obtain ⟨F_kr2, r0_kr2⟩ := h_kr2
      have kh3 : s_kr2.1 (x + 1) = .inr (3, [.ref ((x + 2)), .ref ((x + 24)), .ref ((x + 27)), .ref ((x + 29))]) := zFr.get F_kr2 (by omega) hj
      have kR4 : zDA (x + 2) A s_kr2 := zDA.fr h F_kr2 (by intro q h1 h2 h3; (try simp only [zIn, zJf] at h3); omega)
      have kR5 : zCu (x + 253) s_kr2 := zCu.fr jk F_kr2 (by intro q h1 h2 h3; (try simp only [zIn, zJf] at h3); omega)
      have kR6 : zCu (x + 27) s_kr2 := zCu.fr jc F_kr2 (by intro q h1 h2 h3; (try simp only [zIn, zJf] at h3); omega)
      have kR7 : zCu (x + 29) s_kr2 := zCu.fr jo F_kr2 (by intro q h1 h2 h3; (try simp only [zIn, zJf] at h3); omega)
      have kF8 := zFr.tr zFr.rf (P := zJf x) F_kr2 (by intro q hq; (try simp only [zIn, zJf] at hq); unfold zJf; omega)
      obtain ⟨rf9, rg9, rn9, rm9, rc9, rl9, qa9, qb9, qc9, qd9⟩ := id r0_kr2
      rcases hO : (zRn 2000 [] (zWd A k)) with _ | ⟨rq, rW⟩
      · have qe : rl9 = 1 := by rw [hO] at qd9; exact qd9
        rw [qe] at qa9
        refine zr_aload_n dX5_objectionTo_142 rfl ?_
        refine zr_getfield dX5_objectionTo_143 fX5_21 kh3 rfl (by decide) ?_
        refine zr_getfield dX5_objectionTo_146 fX5_84 qa9 rfl (by decide) ?_
        refine zr_if_ne (tgt := 164) dX5_objectionTo_149 (by decide) (fun c_149 => ?_) (fun c_149 => absurd c_149 (by decide))
        refine zr_iconst (v := 5) dX5_objectionTo_164 (by decide) ?_
        refine zr_goto (tgt := 169) dX5_objectionTo_165 (by decide) ?_
        exact zr_ireturn dX5_objectionTo_169 rfl (rfl) (⟨_, rfl, by unfold zOb; rw [if_neg (by decide)]; rw [if_neg (not_not_intro hk)]; rw [if_neg (by decide)]; rw [if_neg (not_not_intro (ite01.mp c_58))]; rw [if_neg (by decide), if_neg (by decide), if_pos rfl, hO]; rfl, kF8, ⟨kh3, (zRo.rx r0_kr2), kR5, kR6, kR7⟩⟩)
      · obtain ⟨qe, qW, qn, qr⟩ : rl9 = 0 ∧ zP rf9 rn9 = rW ∧ rn9 ≤ 400 ∧ rc9 + rq = 2000 := by rw [hO] at qd9; exact qd9
        rw [qe] at qa9
        refine zr_aload_n dX5_objectionTo_142 rfl ?_
        refine zr_getfield dX5_objectionTo_143 fX5_21 kh3 rfl (by decide) ?_
        refine zr_getfield dX5_objectionTo_146 fX5_84 qa9 rfl (by decide) ?_
        refine zr_if_ne (tgt := 164) dX5_objectionTo_149 (by decide) (fun c_149 => absurd (by decide) c_149) (fun c_149 => ?_)
        refine zr_aload_n dX5_objectionTo_152 rfl ?_
        refine zr_getfield dX5_objectionTo_153 fX5_21 kh3 rfl (by decide) ?_
        refine zr_getfield dX5_objectionTo_156 fX5_88 qa9 rfl (by decide) ?_
        refine zr_bipush (v := 16) dX5_objectionTo_159 (by decide) ?_
        refine zr_icmp_le (tgt := 168) dX5_objectionTo_161 (by decide) (fun c_161 => ?_) (fun c_161 => ?_)
        · refine zr_iconst (v := 0) dX5_objectionTo_168 (by decide) ?_
          exact zr_ireturn dX5_objectionTo_169 rfl (rfl) (⟨_, rfl, by unfold zOb; rw [if_neg (by decide)]; rw [if_neg (not_not_intro hk)]; rw [if_neg (by decide)]; rw [if_neg (not_not_intro (ite01.mp c_58))]; rw [if_neg (by decide), if_neg (by decide), if_pos rfl, hO]; (show _ = if 16 < rW.length then _ else _); rw [← qW, zP_len]; first | rw [if_pos (Nat.not_le.mp (fun q => c_161 ((nI_leI (b := 16) (by omega) (by omega)).mpr q)))] | rw [if_neg (Nat.not_lt.mpr ((nI_leI (b := 16) (by omega) (by omega)).mp c_161))], kF8, ⟨kh3, (zRo.rx r0_kr2), kR5, kR6, kR7⟩⟩)
        · refine zr_iconst (v := 5) dX5_objectionTo_164 (by decide) ?_
          refine zr_goto (tgt := 169) dX5_objectionTo_165 (by decide) ?_
          exact zr_ireturn dX5_objectionTo_169 rfl (rfl) (⟨_, rfl, by unfold zOb; rw [if_neg (by decide)]; rw [if_neg (not_not_intro hk)]; rw [if_neg (by decide)]; rw [if_neg (not_not_intro (ite01.mp c_58))]; rw [if_neg (by decide), if_neg (by decide), if_pos rfl, hO]; (show _ = if 16 < rW.length then _ else _); rw [← qW, zP_len]; first | rw [if_pos (Nat.not_le.mp (fun q => c_161 ((nI_leI (b := 16) (by omega) (by omega)).mpr q)))] | rw [if_neg (Nat.not_lt.mpr ((nI_leI (b := 16) (by omega) (by omega)).mp c_161))], kF8, ⟨kh3, (zRo.rx r0_kr2), kR5, kR6, kR7⟩⟩)
    · refine zr_iconst (v := 2) dX5_objectionTo_61 (by decide) ?_
      exact zr_ireturn dX5_objectionTo_62 rfl (rfl) (⟨_, rfl, by unfold zOb; rw [if_neg (by decide)]; rw [if_neg (not_not_intro hk)]; rw [if_neg (by decide)]; rw [if_pos (fun q => c_58 (ite01.mpr q))], zFr.rf (P := zJf x), ⟨hj, jr, jk, jc, jo⟩⟩)
  · refine zr_bipush (v := 8) dX5_objectionTo_34 (by decide) ?_
    exact zr_ireturn dX5_objectionTo_36 rfl (rfl) (⟨_, rfl, by unfold zOb; rw [if_neg (by decide)]; rw [if_pos ((hc_iff (by omega) (by omega)).mp c_31)], zFr.rf (P := zJf x), ⟨hj, jr, jk, jc, jo⟩⟩)

set_option maxHeartbeats 400000 in
set_option maxRecDepth 100000 in
theorem qX5_objectionTo5 {X : zX} (hX : X.1.stackTraces = false) {σ : zS} {x : Nat} {A : zDk} {k : Nat} (hJ : zJd x σ) (h : zDA (x + 2) A σ) (hA : zDw A) (hQ : ∀ i j : Nat, i < 7 → j < 7 → zQ X i = zQ X j → i = j) (hk31 : k < 2 ^ 31) : zMet X mX5_objectionTo yX5_objectionTo 5 0 0 [.ref ((x + 1)), .ref ((zQ X 5)), .int (nI k)] σ (zI (fun y_ s => y_ = zOb A 5 k ∧ zFr σ s (zJf x) ∧ zJd x s)) := by
  refine zMet_of (ls := [some (.ref ((x + 1))), some (.ref ((zQ X 5))), some (.int (nI k)), none]) rfl (by decide +kernel) rfl (fun h => by cases h) hX (Nat.le_of_ble_eq_true rfl) rfl ?_
  obtain ⟨hj, jr, jk, jc, jo⟩ := id hJ
  obtain ⟨hC8, hP8, hW⟩ := id hA
  refine zr_aload_n dX5_objectionTo_0 rfl ?_
  refine zr_enum (i := 0) dX5_objectionTo_1 (by decide) rfl fX5_35 ?_
  refine zr_acmp_ne (tgt := 23) dX5_objectionTo_4 (by decide) (fun c_4 => ?_) (fun c_4 => absurd c_4 (fun q => absurd (hQ 5 0 (by decide) (by decide) q) (by decide)))
  refine zr_aload_n dX5_objectionTo_23 rfl ?_
  refine zr_getfield dX5_objectionTo_24 fX5_12 hj rfl (by decide) ?_
  refine zr_iload_n dX5_objectionTo_27 rfl ?_
  refine zr_pVi [] dX5_objectionTo_28 vX5_45 (qX3_hasCase hX (x := nI k) h) (zDA.obj h) (by decide) (by decide) (by decide) rfl rfl (Nat.le_of_ble_eq_true rfl) (by decide) rfl ?_
  refine zr_if_ne (tgt := 37) dX5_objectionTo_31 (by decide) (fun c_31 => ?_) (fun c_31 => ?_)
  · have hk : k < kC A := Classical.not_not.mp (fun q => c_31 ((hc_iff (by omega) (by omega)).mpr q))
    have h16 := (hW k (by omega)).1
    refine zr_aload_n dX5_objectionTo_37 rfl ?_
    refine zr_enum (i := 6) dX5_objectionTo_38 (by decide) rfl fX5_49 ?_
    refine zr_acmp_ne (tgt := 50) dX5_objectionTo_41 (by decide) (fun c_41 => ?_) (fun c_41 => absurd c_41 (fun q => absurd (hQ 5 6 (by decide) (by decide) q) (by decide)))
    refine zr_aload_n dX5_objectionTo_50 rfl ?_
    refine zr_getfield dX5_objectionTo_51 fX5_12 hj rfl (by decide) ?_
    refine zr_iload_n dX5_objectionTo_54 rfl ?_
    refine zr_pVi [] dX5_objectionTo_55 vX5_56 (qX3_hasVerdict hX (i := k) h hA (by omega)) (zDA.obj h) (by decide) (by decide) (by decide) rfl rfl (Nat.le_of_ble_eq_true rfl) (by decide) rfl ?_
    refine zr_if_eq (tgt := 63) dX5_objectionTo_58 (by decide) (fun c_58 => ?_) (fun c_58 => ?_)
    · refine zr_aload_n dX5_objectionTo_63 rfl ?_
      refine zr_getfield dX5_objectionTo_64 fX5_12 hj rfl (by decide) ?_
      obtain ⟨wr1, rr1, mr1, tr1, ar1, fr1, ca1, cb1, cc1, cd1, ce1, cf1, cw1⟩ := id h
      refine zr_getfield dX5_objectionTo_67 fX5_59 ca1 rfl (by decide) ?_
      refine zr_iload_n dX5_objectionTo_70 rfl ?_
      refine zr_aaload6 (b := (x + 2 + 6 + 2 * k)) dX5_objectionTo_71 cb1 (vp_in_nI (n := k) (by omega) (by omega)) (by rw [nI_clamp (by omega)]; exact (cw1 k (by omega)).1) ?_
      refine zr_astore_n (ls' := [some (.ref ((x + 1))), some (.ref ((zQ X 5))), some (.int (nI k)), some (.ref ((x + 2 + 6 + 2 * k)))]) dX5_objectionTo_72 rfl (by decide) rfl ?_
      refine zr_MAP dX5_objectionTo_73 fX5_63 ?_
      refine zr_aload_n dX5_objectionTo_76 rfl ?_
      refine zr_callO hX [.ref ((zQ X 36))] dX5_objectionTo_77 rfl (i := 5) (by decide) (by omega) (Nat.le_of_ble_eq_true rfl) rfl ?_
      refine zr_MAPat (v := 6) dX5_objectionTo_80 (vp_in_nI (n := 5) (by omega) (by omega)) (by rw [nI_clamp (by omega)]; rfl) ?_
      refine zr_tableOut (tgt := 170) dX5_objectionTo_81 (by decide) (by decide) ?_
      refine zr_iconst (v := 0) dX5_objectionTo_170 (by decide) ?_
      exact zr_ireturn dX5_objectionTo_171 rfl (rfl) (⟨_, rfl, by unfold zOb; rw [if_neg (by decide)]; rw [if_neg (not_not_intro hk)]; rw [if_neg (by decide)]; rw [if_neg (not_not_intro (ite01.mp c_58))]; rw [if_neg (by decide), if_neg (by decide), if_neg (by decide)], zFr.rf (P := zJf x), ⟨hj, jr, jk, jc, jo⟩⟩)
    · refine zr_iconst (v := 2) dX5_objectionTo_61 (by decide) ?_
      exact zr_ireturn dX5_objectionTo_62 rfl (rfl) (⟨_, rfl, by unfold zOb; rw [if_neg (by decide)]; rw [if_neg (not_not_intro hk)]; rw [if_neg (by decide)]; rw [if_pos (fun q => c_58 (ite01.mpr q))], zFr.rf (P := zJf x), ⟨hj, jr, jk, jc, jo⟩⟩)
  · refine zr_bipush (v := 8) dX5_objectionTo_34 (by decide) ?_
    exact zr_ireturn dX5_objectionTo_36 rfl (rfl) (⟨_, rfl, by unfold zOb; rw [if_neg (by decide)]; rw [if_pos ((hc_iff (by omega) (by omega)).mp c_31)], zFr.rf (P := zJf x), ⟨hj, jr, jk, jc, jo⟩⟩)

set_option maxHeartbeats 400000 in
set_option maxRecDepth 100000 in
theorem qX5_objectionTo6 {X : zX} (hX : X.1.stackTraces = false) {σ : zS} {x : Nat} {A : zDk} {k : Nat} (hJ : zJd x σ) (h : zDA (x + 2) A σ) (hA : zDw A) (hQ : ∀ i j : Nat, i < 7 → j < 7 → zQ X i = zQ X j → i = j) (hk31 : k < 2 ^ 31) : zMet X mX5_objectionTo yX5_objectionTo 5 0 0 [.ref ((x + 1)), .ref ((zQ X 6)), .int (nI k)] σ (zI (fun y_ s => y_ = zOb A 6 k ∧ zFr σ s (zJf x) ∧ zJd x s)) := by
  refine zMet_of (ls := [some (.ref ((x + 1))), some (.ref ((zQ X 6))), some (.int (nI k)), none]) rfl (by decide +kernel) rfl (fun h => by cases h) hX (Nat.le_of_ble_eq_true rfl) rfl ?_
  obtain ⟨hj, jr, jk, jc, jo⟩ := id hJ
  obtain ⟨hC8, hP8, hW⟩ := id hA
  refine zr_aload_n dX5_objectionTo_0 rfl ?_
  refine zr_enum (i := 0) dX5_objectionTo_1 (by decide) rfl fX5_35 ?_
  refine zr_acmp_ne (tgt := 23) dX5_objectionTo_4 (by decide) (fun c_4 => ?_) (fun c_4 => absurd c_4 (fun q => absurd (hQ 6 0 (by decide) (by decide) q) (by decide)))
  refine zr_aload_n dX5_objectionTo_23 rfl ?_
  refine zr_getfield dX5_objectionTo_24 fX5_12 hj rfl (by decide) ?_
  refine zr_iload_n dX5_objectionTo_27 rfl ?_
  refine zr_pVi [] dX5_objectionTo_28 vX5_45 (qX3_hasCase hX (x := nI k) h) (zDA.obj h) (by decide) (by decide) (by decide) rfl rfl (Nat.le_of_ble_eq_true rfl) (by decide) rfl ?_
  refine zr_if_ne (tgt := 37) dX5_objectionTo_31 (by decide) (fun c_31 => ?_) (fun c_31 => ?_)
  · have hk : k < kC A := Classical.not_not.mp (fun q => c_31 ((hc_iff (by omega) (by omega)).mpr q))
    have h16 := (hW k (by omega)).1
    refine zr_aload_n dX5_objectionTo_37 rfl ?_
    refine zr_enum (i := 6) dX5_objectionTo_38 (by decide) rfl fX5_49 ?_
    refine zr_acmp_ne (tgt := 50) dX5_objectionTo_41 (by decide) (fun c_41 => absurd (rfl) c_41) (fun c_41 => ?_)
    refine zr_aload_n dX5_objectionTo_44 rfl ?_
    refine zr_iload_n dX5_objectionTo_45 rfl ?_
    refine zr_pVi [] dX5_objectionTo_46 vX5_52 (qX5_objectionToAppeal hX (i := k) hj h hA (by omega)) hj (by decide) (by decide) (by decide) rfl rfl (Nat.le_of_ble_eq_true rfl) (by decide) rfl ?_
    exact zr_ireturn dX5_objectionTo_49 rfl (rfl) (⟨_, rfl, by unfold zOb; rw [if_neg (by decide)]; rw [if_neg (not_not_intro hk)]; rw [if_pos rfl], zFr.rf (P := zJf x), ⟨hj, jr, jk, jc, jo⟩⟩)
  · refine zr_bipush (v := 8) dX5_objectionTo_34 (by decide) ?_
    exact zr_ireturn dX5_objectionTo_36 rfl (rfl) (⟨_, rfl, by unfold zOb; rw [if_neg (by decide)]; rw [if_pos ((hc_iff (by omega) (by omega)).mp c_31)], zFr.rf (P := zJf x), ⟨hj, jr, jk, jc, jo⟩⟩)

theorem qX5_objectionTo {X : zX} (hX : X.1.stackTraces = false) {σ : zS} {x : Nat} {A : zDk} {k c : Nat} (hJ : zJd x σ) (h : zDA (x + 2) A σ) (hA : zDw A) (hQ : ∀ i j : Nat, i < 7 → j < 7 → zQ X i = zQ X j → i = j) (hk31 : k < 2 ^ 31) (hc7 : c < 7) : zMet X mX5_objectionTo yX5_objectionTo 5 0 0 [.ref (x + 1), .ref (zQ X c), .int (nI k)] σ (zI (fun y_ s => y_ = zOb A c k ∧ zFr σ s (zJf x) ∧ zJd x s)) := by
  have : c = 0 ∨ c = 1 ∨ c = 2 ∨ c = 3 ∨ c = 4 ∨ c = 5 ∨ c = 6 := by omega
  rcases this with rfl | rfl | rfl | rfl | rfl | rfl | rfl
  · exact qX5_objectionTo0 hX hJ h hA hQ hk31
  · exact qX5_objectionTo1 hX hJ h hA hQ hk31
  · exact qX5_objectionTo2 hX hJ h hA hQ hk31
  · exact qX5_objectionTo3 hX hJ h hA hQ hk31
  · exact qX5_objectionTo4 hX hJ h hA hQ hk31
  · exact qX5_objectionTo5 hX hJ h hA hQ hk31
  · exact qX5_objectionTo6 hX hJ h hA hQ hk31
