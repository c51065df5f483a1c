/-! the constructors: what is made lies from the heap's end on -/
def zNw (b : Nat) (σ s : zS) (k : Nat) : Prop := s.2 = some (b + k) ∧ ∀ q, q < b → s.1 q = σ.1 q
def zE0 : zDk := (0, 0, fun _ => -1, fun _ => 0, fun _ => 0, fun _ => 0, fun _ => 0, fun _ _ => 0)
theorem zr_room {X : zX} {M : zMd} {d bc bs bc' bs' : Nat} {Q : zO → zS → Prop} {pc : Nat} {ls : List (Option Value)} {st : List Value} {σ : zS} (e1 : bc = bc') (e2 : bs = bs') (kk : zW X M d bc' bs' Q pc ls st σ) : zW X M d bc bs Q pc ls st σ := by subst e1; subst e2; exact kk
set_option maxHeartbeats 400000 in
set_option maxRecDepth 100000 in
theorem qX8_init {X : zX} (hX : X.1.stackTraces = false) {σ : zS} {b : Nat}  (h0 : σ.1 b = .inr (6, [.null, .int 0])) (hh : σ.2 = some (b + 1))  : zMet X mX8_init yX8_init 1 1 16 [.ref b] σ (zV (fun s => zNw b σ s 2 ∧ s.1 b = .inr (6, [.ref (b + 1), .int 0]) ∧ s.1 (b + 1) = .inl (0, 16, .inl (fun _ => 0)))) := by
  refine zMet_of (ls := [some (.ref b)]) rfl (by decide +kernel) rfl (fun _ => rfl) hX (Nat.le_of_ble_eq_true rfl) rfl ?_
  have hB : ∀ q, q < b → σ.1 q = σ.1 q := fun q _ => rfl
  refine zr_aload_n dX8_init_0 rfl ?_
  refine zr_objInit dX8_init_1 oX8_3 (by decide) (by decide) ?_
  refine zr_aload_n dX8_init_4 rfl ?_
  refine zr_bipush (v := 16) dX8_init_5 (by decide) ?_
  refine zr_newarray (t := 0) (N := 16) (x := (16, .inl (fun _ => 0))) dX8_init_7 ac_int rfl rfl (fun C q => by cases q) (fun _ => rfl) (by decide) (by decide) (by decide) hh (by omega) (by omega) ?_
  refine zr_sig (fun ks1 e_ks1 => ?_)
  have kh2 : ks1.1 b = .inr (6, [.null, .int 0]) := by rw [e_ks1, zup_ne _ _ (by omega)]; exact h0
  have kh3 : ks1.1 (b + 1) = .inl (0, 16, .inl (fun _ => 0)) := by rw [e_ks1]; exact zup_at _ _ _
  have kH4 : ks1.2 = some (b + 2) := by rw [e_ks1]; rfl
  have kB5 : ∀ q, q < b → ks1.1 q = σ.1 q := fun q hq => by rw [e_ks1]; exact (zup_ne _ _ (by omega)).trans (hB q hq)
  refine zr_putfinal (fs' := [.ref ((b + 1)), .int 0]) dX8_init_9 rfl pX8_9 kh2 (by decide) rfl rfl (Nat.le_of_ble_eq_true rfl) rfl ?_
  refine zr_sig (fun ks6 e_ks6 => ?_)
  have kh7 : ks6.1 b = .inr (6, [.ref ((b + 1)), .int 0]) := by rw [e_ks6]; exact zup_at _ _ _
  have kh8 : ks6.1 (b + 1) = .inl (0, 16, .inl (fun _ => 0)) := by rw [e_ks6, zup_ne _ _ (by omega)]; exact kh3
  have kH9 : ks6.2 = some (b + 2) := by rw [e_ks6]; exact kH4
  have kB10 : ∀ q, q < b → ks6.1 q = σ.1 q := fun q hq => by rw [e_ks6]; exact (zup_ne _ _ (by omega)).trans (kB5 q hq)
  refine zr_aload_n dX8_init_12 rfl ?_
  refine zr_iconst (v := 0) dX8_init_13 (by decide) ?_
  refine zr_putfield (fs' := [.ref ((b + 1)), .int 0]) dX8_init_14 pX8_15 kh7 (by decide) (rfl) (rfl) (Nat.le_of_ble_eq_true rfl) rfl ?_
  refine zr_sig (fun ks11 e_ks11 => ?_)
  have kh12 : ks11.1 b = .inr (6, [.ref ((b + 1)), .int 0]) := by rw [e_ks11]; exact zup_at _ _ _
  have kh13 : ks11.1 (b + 1) = .inl (0, 16, .inl (fun _ => 0)) := by rw [e_ks11, zup_ne _ _ (by omega)]; exact kh8
  have kH14 : ks11.2 = some (b + 2) := by rw [e_ks11]; exact kH9
  have kB15 : ∀ q, q < b → ks11.1 q = σ.1 q := fun q hq => by rw [e_ks11]; exact (zup_ne _ _ (by omega)).trans (kB10 q hq)
  exact zr_return dX8_init_17 rfl (⟨rfl, ⟨kH14, kB15⟩, kh12, kh13⟩)

set_option maxHeartbeats 400000 in
set_option maxRecDepth 100000 in
theorem qX2_init {X : zX} (hX : X.1.stackTraces = false) {σ : zS} {b : Nat}  (h0 : σ.1 b = .inr (0, [.null])) (hh : σ.2 = some (b + 1))  : zMet X mX2_init yX2_init 1 1 10 [.ref b] σ (zV (fun s => zNw b σ s 2 ∧ s.1 b = .inr (0, [.ref (b + 1)]) ∧ s.1 (b + 1) = .inl (3, 10, .inr (.inl (z64 (fun _ => 0)))))) := by
  refine zMet_of (ls := [some (.ref b)]) rfl (by decide +kernel) rfl (fun _ => rfl) hX (Nat.le_of_ble_eq_true rfl) rfl ?_
  have hB : ∀ q, q < b → σ.1 q = σ.1 q := fun q _ => rfl
  refine zr_aload_n dX2_init_0 rfl ?_
  refine zr_objInit dX2_init_1 oX2_3 (by decide) (by decide) ?_
  refine zr_aload_n dX2_init_4 rfl ?_
  refine zr_bipush (v := 10) dX2_init_5 (by decide) ?_
  refine zr_newarray (t := 3) (N := 10) (x := (10, .inr (.inl (z64 (fun _ => 0))))) dX2_init_7 ac_long rfl rfl (fun C q => by cases q) (fun _ => rfl) (by decide) (by decide) (by decide) hh (by omega) (by omega) ?_
  refine zr_sig (fun ks1 e_ks1 => ?_)
  have kh2 : ks1.1 b = .inr (0, [.null]) := by rw [e_ks1, zup_ne _ _ (by omega)]; exact h0
  have kh3 : ks1.1 (b + 1) = .inl (3, 10, .inr (.inl (z64 (fun _ => 0)))) := by rw [e_ks1]; exact zup_at _ _ _
  have kH4 : ks1.2 = some (b + 2) := by rw [e_ks1]; rfl
  have kB5 : ∀ q, q < b → ks1.1 q = σ.1 q := fun q hq => by rw [e_ks1]; exact (zup_ne _ _ (by omega)).trans (hB q hq)
  refine zr_putfinal (fs' := [.ref ((b + 1))]) dX2_init_9 rfl pX2_9 kh2 (by decide) rfl rfl (Nat.le_of_ble_eq_true rfl) rfl ?_
  refine zr_sig (fun ks6 e_ks6 => ?_)
  have kh7 : ks6.1 b = .inr (0, [.ref ((b + 1))]) := by rw [e_ks6]; exact zup_at _ _ _
  have kh8 : ks6.1 (b + 1) = .inl (3, 10, .inr (.inl (z64 (fun _ => 0)))) := by rw [e_ks6, zup_ne _ _ (by omega)]; exact kh3
  have kH9 : ks6.2 = some (b + 2) := by rw [e_ks6]; exact kH4
  have kB10 : ∀ q, q < b → ks6.1 q = σ.1 q := fun q hq => by rw [e_ks6]; exact (zup_ne _ _ (by omega)).trans (kB5 q hq)
  exact zr_return dX2_init_12 rfl (⟨rfl, ⟨kH9, kB10⟩, kh7, kh8⟩)

set_option maxHeartbeats 400000 in
set_option maxRecDepth 100000 in
theorem qX6_init {X : zX} (hX : X.1.stackTraces = false) {σ : zS} {b : Nat}  (h0 : σ.1 b = .inr (4, [.null, .null, .int 0, .int 0, .int 0, .int 0])) (hh : σ.2 = some (b + 1))  : zMet X mX6_init yX6_init 1 2 800 [.ref b] σ (zV (fun s => zNw b σ s 3 ∧ s.1 b = .inr (4, [.ref (b + 1), .ref (b + 2), .int 0, .int 0, .int 0, .int 0]) ∧ s.1 (b + 1) = .inl (0, 400, .inl (fun _ => 0)) ∧ s.1 (b + 2) = .inl (0, 400, .inl (fun _ => 0)))) := by
  refine zMet_of (ls := [some (.ref b)]) rfl (by decide +kernel) rfl (fun _ => rfl) hX (Nat.le_of_ble_eq_true rfl) rfl ?_
  have hB : ∀ q, q < b → σ.1 q = σ.1 q := fun q _ => rfl
  refine zr_aload_n dX6_init_0 rfl ?_
  refine zr_objInit dX6_init_1 oX6_3 (by decide) (by decide) ?_
  refine zr_aload_n dX6_init_4 rfl ?_
  refine zr_sipush (v := 400) dX6_init_5 (by decide) ?_
  refine zr_newarray (t := 0) (N := 400) (x := (400, .inl (fun _ => 0))) dX6_init_8 ac_int rfl rfl (fun C q => by cases q) (fun _ => rfl) (by decide) (by decide) (by decide) hh (by omega) (by omega) ?_
  refine zr_sig (fun ks1 e_ks1 => ?_)
  have kh2 : ks1.1 b = .inr (4, [.null, .null, .int 0, .int 0, .int 0, .int 0]) := by rw [e_ks1, zup_ne _ _ (by omega)]; exact h0
  have kh3 : ks1.1 (b + 1) = .inl (0, 400, .inl (fun _ => 0)) := by rw [e_ks1]; exact zup_at _ _ _
  have kH4 : ks1.2 = some (b + 2) := by rw [e_ks1]; rfl
  have kB5 : ∀ q, q < b → ks1.1 q = σ.1 q := fun q hq => by rw [e_ks1]; exact (zup_ne _ _ (by omega)).trans (hB q hq)
  refine zr_putfinal (fs' := [.ref ((b + 1)), .null, .int 0, .int 0, .int 0, .int 0]) dX6_init_10 rfl pX6_9 kh2 (by decide) rfl rfl (Nat.le_of_ble_eq_true rfl) rfl ?_
  refine zr_sig (fun ks6 e_ks6 => ?_)
  have kh7 : ks6.1 b = .inr (4, [.ref ((b + 1)), .null, .int 0, .int 0, .int 0, .int 0]) := by rw [e_ks6]; exact zup_at _ _ _
  have kh8 : ks6.1 (b + 1) = .inl (0, 400, .inl (fun _ => 0)) := by rw [e_ks6, zup_ne _ _ (by omega)]; exact kh3
  have kH9 : ks6.2 = some (b + 2) := by rw [e_ks6]; exact kH4
  have kB10 : ∀ q, q < b → ks6.1 q = σ.1 q := fun q hq => by rw [e_ks6]; exact (zup_ne _ _ (by omega)).trans (kB5 q hq)
  refine zr_aload_n dX6_init_13 rfl ?_
  refine zr_sipush (v := 400) dX6_init_14 (by decide) ?_
  refine zr_newarray (t := 0) (N := 400) (x := (400, .inl (fun _ => 0))) dX6_init_17 ac_int rfl rfl (fun C q => by cases q) (fun _ => rfl) (by decide) (by decide) (by decide) kH9 (by omega) (by omega) ?_
  refine zr_sig (fun ks11 e_ks11 => ?_)
  have kh12 : ks11.1 b = .inr (4, [.ref ((b + 1)), .null, .int 0, .int 0, .int 0, .int 0]) := by rw [e_ks11, zup_ne _ _ (by omega)]; exact kh7
  have kh13 : ks11.1 (b + 1) = .inl (0, 400, .inl (fun _ => 0)) := by rw [e_ks11, zup_ne _ _ (by omega)]; exact kh8
  have kh14 : ks11.1 (b + 2) = .inl (0, 400, .inl (fun _ => 0)) := by rw [e_ks11]; exact zup_at _ _ _
  have kH15 : ks11.2 = some (b + 3) := by rw [e_ks11]; rfl
  have kB16 : ∀ q, q < b → ks11.1 q = σ.1 q := fun q hq => by rw [e_ks11]; exact (zup_ne _ _ (by omega)).trans (kB10 q hq)
  refine zr_putfinal (fs' := [.ref ((b + 1)), .ref ((b + 2)), .int 0, .int 0, .int 0, .int 0]) dX6_init_19 rfl pX6_15 kh12 (by decide) rfl rfl (Nat.le_of_ble_eq_true rfl) rfl ?_
  refine zr_sig (fun ks17 e_ks17 => ?_)
  have kh18 : ks17.1 b = .inr (4, [.ref ((b + 1)), .ref ((b + 2)), .int 0, .int 0, .int 0, .int 0]) := by rw [e_ks17]; exact zup_at _ _ _
  have kh19 : ks17.1 (b + 1) = .inl (0, 400, .inl (fun _ => 0)) := by rw [e_ks17, zup_ne _ _ (by omega)]; exact kh13
  have kh20 : ks17.1 (b + 2) = .inl (0, 400, .inl (fun _ => 0)) := by rw [e_ks17, zup_ne _ _ (by omega)]; exact kh14
  have kH21 : ks17.2 = some (b + 3) := by rw [e_ks17]; exact kH15
  have kB22 : ∀ q, q < b → ks17.1 q = σ.1 q := fun q hq => by rw [e_ks17]; exact (zup_ne _ _ (by omega)).trans (kB16 q hq)
  refine zr_aload_n dX6_init_22 rfl ?_
  refine zr_iconst (v := 0) dX6_init_23 (by decide) ?_
  refine zr_putfield (fs' := [.ref ((b + 1)), .ref ((b + 2)), .int 0, .int 0, .int 0, .int 0]) dX6_init_24 pX6_18 kh18 (by decide) (rfl) (rfl) (Nat.le_of_ble_eq_true rfl) rfl ?_
  refine zr_sig (fun ks23 e_ks23 => ?_)
  have kh24 : ks23.1 b = .inr (4, [.ref ((b + 1)), .ref ((b + 2)), .int 0, .int 0, .int 0, .int 0]) := by rw [e_ks23]; exact zup_at _ _ _
  have kh25 : ks23.1 (b + 1) = .inl (0, 400, .inl (fun _ => 0)) := by rw [e_ks23, zup_ne _ _ (by omega)]; exact kh19
  have kh26 : ks23.1 (b + 2) = .inl (0, 400, .inl (fun _ => 0)) := by rw [e_ks23, zup_ne _ _ (by omega)]; exact kh20
  have kH27 : ks23.2 = some (b + 3) := by rw [e_ks23]; exact kH21
  have kB28 : ∀ q, q < b → ks23.1 q = σ.1 q := fun q hq => by rw [e_ks23]; exact (zup_ne _ _ (by omega)).trans (kB22 q hq)
  refine zr_aload_n dX6_init_27 rfl ?_
  refine zr_iconst (v := 0) dX6_init_28 (by decide) ?_
  refine zr_putfield (fs' := [.ref ((b + 1)), .ref ((b + 2)), .int 0, .int 0, .int 0, .int 0]) dX6_init_29 pX6_22 kh24 (by decide) (rfl) (rfl) (Nat.le_of_ble_eq_true rfl) rfl ?_
  refine zr_sig (fun ks29 e_ks29 => ?_)
  have kh30 : ks29.1 b = .inr (4, [.ref ((b + 1)), .ref ((b + 2)), .int 0, .int 0, .int 0, .int 0]) := by rw [e_ks29]; exact zup_at _ _ _
  have kh31 : ks29.1 (b + 1) = .inl (0, 400, .inl (fun _ => 0)) := by rw [e_ks29, zup_ne _ _ (by omega)]; exact kh25
  have kh32 : ks29.1 (b + 2) = .inl (0, 400, .inl (fun _ => 0)) := by rw [e_ks29, zup_ne _ _ (by omega)]; exact kh26
  have kH33 : ks29.2 = some (b + 3) := by rw [e_ks29]; exact kH27
  have kB34 : ∀ q, q < b → ks29.1 q = σ.1 q := fun q hq => by rw [e_ks29]; exact (zup_ne _ _ (by omega)).trans (kB28 q hq)
  refine zr_aload_n dX6_init_32 rfl ?_
  refine zr_iconst (v := 0) dX6_init_33 (by decide) ?_
  refine zr_putfield (fs' := [.ref ((b + 1)), .ref ((b + 2)), .int 0, .int 0, .int 0, .int 0]) dX6_init_34 pX6_25 kh30 (by decide) (rfl) (rfl) (Nat.le_of_ble_eq_true rfl) rfl ?_
  refine zr_sig (fun ks35 e_ks35 => ?_)
  have kh36 : ks35.1 b = .inr (4, [.ref ((b + 1)), .ref ((b + 2)), .int 0, .int 0, .int 0, .int 0]) := by rw [e_ks35]; exact zup_at _ _ _
  have kh37 : ks35.1 (b + 1) = .inl (0, 400, .inl (fun _ => 0)) := by rw [e_ks35, zup_ne _ _ (by omega)]; exact kh31
  have kh38 : ks35.1 (b + 2) = .inl (0, 400, .inl (fun _ => 0)) := by rw [e_ks35, zup_ne _ _ (by omega)]; exact kh32
  have kH39 : ks35.2 = some (b + 3) := by rw [e_ks35]; exact kH33
  have kB40 : ∀ q, q < b → ks35.1 q = σ.1 q := fun q hq => by rw [e_ks35]; exact (zup_ne _ _ (by omega)).trans (kB34 q hq)
  refine zr_aload_n dX6_init_37 rfl ?_
  refine zr_iconst (v := 0) dX6_init_38 (by decide) ?_
  refine zr_putfield (fs' := [.ref ((b + 1)), .ref ((b + 2)), .int 0, .int 0, .int 0, .int 0]) dX6_init_39 pX6_28 kh36 (by decide) (rfl) (rfl) (Nat.le_of_ble_eq_true rfl) rfl ?_
  refine zr_sig (fun ks41 e_ks41 => ?_)
  have kh42 : ks41.1 b = .inr (4, [.ref ((b + 1)), .ref ((b + 2)), .int 0, .int 0, .int 0, .int 0]) := by rw [e_ks41]; exact zup_at _ _ _
  have kh43 : ks41.1 (b + 1) = .inl (0, 400, .inl (fun _ => 0)) := by rw [e_ks41, zup_ne _ _ (by omega)]; exact kh37
  have kh44 : ks41.1 (b + 2) = .inl (0, 400, .inl (fun _ => 0)) := by rw [e_ks41, zup_ne _ _ (by omega)]; exact kh38
  have kH45 : ks41.2 = some (b + 3) := by rw [e_ks41]; exact kH39
  have kB46 : ∀ q, q < b → ks41.1 q = σ.1 q := fun q hq => by rw [e_ks41]; exact (zup_ne _ _ (by omega)).trans (kB40 q hq)
  exact zr_return dX6_init_42 rfl (⟨rfl, ⟨kH45, kB46⟩, kh42, kh43, kh44⟩)


set_option maxHeartbeats 400000 in
set_option maxRecDepth 100000 in
theorem l_i7 {X : zX} (hX : X.1.stackTraces = false) {σ : zS} {b : Nat}  : ∀ (j i : Nat) (s : zS) (cf : Nat → Option Nat), i + j = 12 → (s.2 = some (b + 5)) → (∀ q, q < b → s.1 q = σ.1 q) → (s.1 b = .inr (5, [.ref (b + 1), .int 0, .ref (b + 2), .ref (b + 3), .ref (b + 4), .int 0, .int 0])) → (s.1 (b + 1) = .inl (1, 60, .inl (fun _ => 0))) → (s.1 (b + 2) = .inl (7, 12, .inr (.inr (.inr (.inr cf))))) → (s.1 (b + 3) = .inl (0, 12, .inl (fun _ => 0))) → (s.1 (b + 4) = .inl (0, 12, .inl (fun _ => 0))) → zW X mX7_init 1 0 0 ((zV (fun s => zNw b σ s 5 ∧ s.1 b = .inr (5, [.ref (b + 1), .int 0, .ref (b + 2), .ref (b + 3), .ref (b + 4), .int 0, .int 0]) ∧ s.1 (b + 1) = .inl (1, 60, .inl (fun _ => 0)) ∧ (∃ cf, s.1 (b + 2) = .inl (7, 12, .inr (.inr (.inr (.inr cf))))) ∧ s.1 (b + 3) = .inl (0, 12, .inl (fun _ => 0)) ∧ s.1 (b + 4) = .inl (0, 12, .inl (fun _ => 0))))) 54 [some (.ref b), some (.int (nI i))] [] s := by
  intro j
  induction j with
  | zero =>
    intro i s cf hi hH hB k0 k1 k2 k3 k4
    refine zr_iload_n dX7_init_54 rfl ?_
    refine zr_bipush (v := 12) dX7_init_55 (by decide) ?_
    refine zr_icmp_ge (tgt := 75) dX7_init_57 (by decide) (fun c_57 => ?_) (fun c_57 => absurd ((nI_leI (a := 12) (b := i) (by omega) (by omega)).mpr (by omega)) c_57)
    exact zr_return dX7_init_75 rfl (⟨rfl, ⟨hH, hB⟩, k0, k1, ⟨_, k2⟩, k3, k4⟩)
  | succ j ih =>
    intro i s cf hi hH hB k0 k1 k2 k3 k4
    refine zr_iload_n dX7_init_54 rfl ?_
    refine zr_bipush (v := 12) dX7_init_55 (by decide) ?_
    refine zr_icmp_ge (tgt := 75) dX7_init_57 (by decide) (fun c_57 => absurd c_57 (fun h => absurd ((nI_leI (a := 12) (b := i) (by omega) (by omega)).mp h) (by omega))) (fun c_57 => ?_)
    refine zr_aload_n dX7_init_60 rfl ?_
    refine zr_getfield dX7_init_61 fX7_21 k0 rfl (by decide) ?_
    refine zr_iload_n dX7_init_64 rfl ?_
    refine zr_enum (i := 0) dX7_init_65 (by decide) rfl fX7_38 ?_
    refine zr_aastE dX7_init_68 k2 (vp_in_nI (n := i) (by omega) (by omega)) (k := 0) (by omega) ?_
    rw [nI_clamp (n := i) (by omega)]
    refine zr_sig (fun ks1 e_ks1 => ?_)
    have kh2 : ks1.1 b = .inr (5, [.ref ((b + 1)), .int 0, .ref ((b + 2)), .ref ((b + 3)), .ref ((b + 4)), .int 0, .int 0]) := by rw [e_ks1, zup_ne _ _ (by omega)]; exact k0
    have kh3 : ks1.1 (b + 1) = .inl (1, 60, .inl (fun _ => 0)) := by rw [e_ks1, zup_ne _ _ (by omega)]; exact k1
    have kh4 : ks1.1 (b + 2) = .inl (7, 12, .inr (.inr (.inr (.inr (va_up cf i (some (zQ X 0))))))) := by rw [e_ks1]; exact zup_at _ _ _
    have kh5 : ks1.1 (b + 3) = .inl (0, 12, .inl (fun _ => 0)) := by rw [e_ks1, zup_ne _ _ (by omega)]; exact k3
    have kh6 : ks1.1 (b + 4) = .inl (0, 12, .inl (fun _ => 0)) := by rw [e_ks1, zup_ne _ _ (by omega)]; exact k4
    have kH7 : ks1.2 = some (b + 5) := by rw [e_ks1]; exact hH
    have kB8 : ∀ q, q < b → ks1.1 q = σ.1 q := fun q hq => by rw [e_ks1]; exact (zup_ne _ _ (by omega)).trans (hB q hq)
    refine zr_iinc (v := nI (i + 1)) (ls' := [some (.ref b), some (.int (nI (i + 1)))]) dX7_init_69 rfl (nI_1 _) (by decide) rfl ?_
    refine zr_goto (tgt := 54) dX7_init_72 (by decide) ?_
    exact ih (i + 1) _ _ (by omega) (kH7) (kB8) (kh2) (kh3) (kh4) (kh5) (kh6)

set_option maxHeartbeats 400000 in
set_option maxRecDepth 100000 in
theorem qX7_init {X : zX} (hX : X.1.stackTraces = false) {σ : zS} {b : Nat}  (h0 : σ.1 b = .inr (5, [.null, .int 0, .null, .null, .null, .int 0, .int 0])) (hh : σ.2 = some (b + 1))  : zMet X mX7_init yX7_init 1 4 96 [.ref b] σ (zV (fun s => zNw b σ s 5 ∧ s.1 b = .inr (5, [.ref (b + 1), .int 0, .ref (b + 2), .ref (b + 3), .ref (b + 4), .int 0, .int 0]) ∧ s.1 (b + 1) = .inl (1, 60, .inl (fun _ => 0)) ∧ (∃ cf, s.1 (b + 2) = .inl (7, 12, .inr (.inr (.inr (.inr cf))))) ∧ s.1 (b + 3) = .inl (0, 12, .inl (fun _ => 0)) ∧ s.1 (b + 4) = .inl (0, 12, .inl (fun _ => 0)))) := by
  refine zMet_of (ls := [some (.ref b), none]) rfl (by decide +kernel) rfl (fun _ => rfl) hX (Nat.le_of_ble_eq_true rfl) rfl ?_
  have hB : ∀ q, q < b → σ.1 q = σ.1 q := fun q _ => rfl
  refine zr_aload_n dX7_init_0 rfl ?_
  refine zr_objInit dX7_init_1 oX7_3 (by decide) (by decide) ?_
  refine zr_aload_n dX7_init_4 rfl ?_
  refine zr_bipush (v := 60) dX7_init_5 (by decide) ?_
  refine zr_newarray (t := 1) (N := 60) (x := (60, .inl (fun _ => 0))) dX7_init_7 ac_char rfl rfl (fun C q => by cases q) (fun _ => rfl) (by decide) (by decide) (by decide) hh (by omega) (by omega) ?_
  refine zr_sig (fun ks1 e_ks1 => ?_)
  have kh2 : ks1.1 b = .inr (5, [.null, .int 0, .null, .null, .null, .int 0, .int 0]) := by rw [e_ks1, zup_ne _ _ (by omega)]; exact h0
  have kh3 : ks1.1 (b + 1) = .inl (1, 60, .inl (fun _ => 0)) := by rw [e_ks1]; exact zup_at _ _ _
  have kH4 : ks1.2 = some (b + 2) := by rw [e_ks1]; rfl
  have kB5 : ∀ q, q < b → ks1.1 q = σ.1 q := fun q hq => by rw [e_ks1]; exact (zup_ne _ _ (by omega)).trans (hB q hq)
  refine zr_putfinal (fs' := [.ref ((b + 1)), .int 0, .null, .null, .null, .int 0, .int 0]) dX7_init_9 rfl pX7_9 kh2 (by decide) rfl rfl (Nat.le_of_ble_eq_true rfl) rfl ?_
  refine zr_sig (fun ks6 e_ks6 => ?_)
  have kh7 : ks6.1 b = .inr (5, [.ref ((b + 1)), .int 0, .null, .null, .null, .int 0, .int 0]) := by rw [e_ks6]; exact zup_at _ _ _
  have kh8 : ks6.1 (b + 1) = .inl (1, 60, .inl (fun _ => 0)) := by rw [e_ks6, zup_ne _ _ (by omega)]; exact kh3
  have kH9 : ks6.2 = some (b + 2) := by rw [e_ks6]; exact kH4
  have kB10 : ∀ q, q < b → ks6.1 q = σ.1 q := fun q hq => by rw [e_ks6]; exact (zup_ne _ _ (by omega)).trans (kB5 q hq)
  refine zr_aload_n dX7_init_12 rfl ?_
  refine zr_iconst (v := 0) dX7_init_13 (by decide) ?_
  refine zr_putfield (fs' := [.ref ((b + 1)), .int 0, .null, .null, .null, .int 0, .int 0]) dX7_init_14 pX7_15 kh7 (by decide) (rfl) (rfl) (Nat.le_of_ble_eq_true rfl) rfl ?_
  refine zr_sig (fun ks11 e_ks11 => ?_)
  have kh12 : ks11.1 b = .inr (5, [.ref ((b + 1)), .int 0, .null, .null, .null, .int 0, .int 0]) := by rw [e_ks11]; exact zup_at _ _ _
  have kh13 : ks11.1 (b + 1) = .inl (1, 60, .inl (fun _ => 0)) := by rw [e_ks11, zup_ne _ _ (by omega)]; exact kh8
  have kH14 : ks11.2 = some (b + 2) := by rw [e_ks11]; exact kH9
  have kB15 : ∀ q, q < b → ks11.1 q = σ.1 q := fun q hq => by rw [e_ks11]; exact (zup_ne _ _ (by omega)).trans (kB10 q hq)
  refine zr_aload_n dX7_init_17 rfl ?_
  refine zr_bipush (v := 12) dX7_init_18 (by decide) ?_
  refine zr_anewarray (t := 7) (N := 12) dX7_init_20 lX7_19 (by decide) rfl (by decide) (by decide) (by decide) kH14 (by omega) (by omega) ?_
  refine zr_sig (fun ks16 e_ks16 => ?_)
  have kh17 : ks16.1 b = .inr (5, [.ref ((b + 1)), .int 0, .null, .null, .null, .int 0, .int 0]) := by rw [e_ks16, zup_ne _ _ (by omega)]; exact kh12
  have kh18 : ks16.1 (b + 1) = .inl (1, 60, .inl (fun _ => 0)) := by rw [e_ks16, zup_ne _ _ (by omega)]; exact kh13
  have kh19 : ks16.1 (b + 2) = .inl (7, 12, .inr (.inr (.inr (.inr (fun _ => none))))) := by rw [e_ks16]; exact zup_at _ _ _
  have kH20 : ks16.2 = some (b + 3) := by rw [e_ks16]; rfl
  have kB21 : ∀ q, q < b → ks16.1 q = σ.1 q := fun q hq => by rw [e_ks16]; exact (zup_ne _ _ (by omega)).trans (kB15 q hq)
  refine zr_putfinal (fs' := [.ref ((b + 1)), .int 0, .ref ((b + 2)), .null, .null, .int 0, .int 0]) dX7_init_23 rfl pX7_21 kh17 (by decide) rfl rfl (Nat.le_of_ble_eq_true rfl) rfl ?_
  refine zr_sig (fun ks22 e_ks22 => ?_)
  have kh23 : ks22.1 b = .inr (5, [.ref ((b + 1)), .int 0, .ref ((b + 2)), .null, .null, .int 0, .int 0]) := by rw [e_ks22]; exact zup_at _ _ _
  have kh24 : ks22.1 (b + 1) = .inl (1, 60, .inl (fun _ => 0)) := by rw [e_ks22, zup_ne _ _ (by omega)]; exact kh18
  have kh25 : ks22.1 (b + 2) = .inl (7, 12, .inr (.inr (.inr (.inr (fun _ => none))))) := by rw [e_ks22, zup_ne _ _ (by omega)]; exact kh19
  have kH26 : ks22.2 = some (b + 3) := by rw [e_ks22]; exact kH20
  have kB27 : ∀ q, q < b → ks22.1 q = σ.1 q := fun q hq => by rw [e_ks22]; exact (zup_ne _ _ (by omega)).trans (kB21 q hq)
  refine zr_aload_n dX7_init_26 rfl ?_
  refine zr_bipush (v := 12) dX7_init_27 (by decide) ?_
  refine zr_newarray (t := 0) (N := 12) (x := (12, .inl (fun _ => 0))) dX7_init_29 ac_int rfl rfl (fun C q => by cases q) (fun _ => rfl) (by decide) (by decide) (by decide) kH26 (by omega) (by omega) ?_
  refine zr_sig (fun ks28 e_ks28 => ?_)
  have kh29 : ks28.1 b = .inr (5, [.ref ((b + 1)), .int 0, .ref ((b + 2)), .null, .null, .int 0, .int 0]) := by rw [e_ks28, zup_ne _ _ (by omega)]; exact kh23
  have kh30 : ks28.1 (b + 1) = .inl (1, 60, .inl (fun _ => 0)) := by rw [e_ks28, zup_ne _ _ (by omega)]; exact kh24
  have kh31 : ks28.1 (b + 2) = .inl (7, 12, .inr (.inr (.inr (.inr (fun _ => none))))) := by rw [e_ks28, zup_ne _ _ (by omega)]; exact kh25
  have kh32 : ks28.1 (b + 3) = .inl (0, 12, .inl (fun _ => 0)) := by rw [e_ks28]; exact zup_at _ _ _
  have kH33 : ks28.2 = some (b + 4) := by rw [e_ks28]; rfl
  have kB34 : ∀ q, q < b → ks28.1 q = σ.1 q := fun q hq => by rw [e_ks28]; exact (zup_ne _ _ (by omega)).trans (kB27 q hq)
  refine zr_putfinal (fs' := [.ref ((b + 1)), .int 0, .ref ((b + 2)), .ref ((b + 3)), .null, .int 0, .int 0]) dX7_init_31 rfl pX7_25 kh29 (by decide) rfl rfl (Nat.le_of_ble_eq_true rfl) rfl ?_
  refine zr_sig (fun ks35 e_ks35 => ?_)
  have kh36 : ks35.1 b = .inr (5, [.ref ((b + 1)), .int 0, .ref ((b + 2)), .ref ((b + 3)), .null, .int 0, .int 0]) := by rw [e_ks35]; exact zup_at _ _ _
  have kh37 : ks35.1 (b + 1) = .inl (1, 60, .inl (fun _ => 0)) := by rw [e_ks35, zup_ne _ _ (by omega)]; exact kh30
  have kh38 : ks35.1 (b + 2) = .inl (7, 12, .inr (.inr (.inr (.inr (fun _ => none))))) := by rw [e_ks35, zup_ne _ _ (by omega)]; exact kh31
  have kh39 : ks35.1 (b + 3) = .inl (0, 12, .inl (fun _ => 0)) := by rw [e_ks35, zup_ne _ _ (by omega)]; exact kh32
  have kH40 : ks35.2 = some (b + 4) := by rw [e_ks35]; exact kH33
  have kB41 : ∀ q, q < b → ks35.1 q = σ.1 q := fun q hq => by rw [e_ks35]; exact (zup_ne _ _ (by omega)).trans (kB34 q hq)
  refine zr_aload_n dX7_init_34 rfl ?_
  refine zr_bipush (v := 12) dX7_init_35 (by decide) ?_
  refine zr_newarray (t := 0) (N := 12) (x := (12, .inl (fun _ => 0))) dX7_init_37 ac_int rfl rfl (fun C q => by cases q) (fun _ => rfl) (by decide) (by decide) (by decide) kH40 (by omega) (by omega) ?_
  refine zr_sig (fun ks42 e_ks42 => ?_)
  have kh43 : ks42.1 b = .inr (5, [.ref ((b + 1)), .int 0, .ref ((b + 2)), .ref ((b + 3)), .null, .int 0, .int 0]) := by rw [e_ks42, zup_ne _ _ (by omega)]; exact kh36
  have kh44 : ks42.1 (b + 1) = .inl (1, 60, .inl (fun _ => 0)) := by rw [e_ks42, zup_ne _ _ (by omega)]; exact kh37
  have kh45 : ks42.1 (b + 2) = .inl (7, 12, .inr (.inr (.inr (.inr (fun _ => none))))) := by rw [e_ks42, zup_ne _ _ (by omega)]; exact kh38
  have kh46 : ks42.1 (b + 3) = .inl (0, 12, .inl (fun _ => 0)) := by rw [e_ks42, zup_ne _ _ (by omega)]; exact kh39
  have kh47 : ks42.1 (b + 4) = .inl (0, 12, .inl (fun _ => 0)) := by rw [e_ks42]; exact zup_at _ _ _
  have kH48 : ks42.2 = some (b + 5) := by rw [e_ks42]; rfl
  have kB49 : ∀ q, q < b → ks42.1 q = σ.1 q := fun q hq => by rw [e_ks42]; exact (zup_ne _ _ (by omega)).trans (kB41 q hq)
  refine zr_putfinal (fs' := [.ref ((b + 1)), .int 0, .ref ((b + 2)), .ref ((b + 3)), .ref ((b + 4)), .int 0, .int 0]) dX7_init_39 rfl pX7_29 kh43 (by decide) rfl rfl (Nat.le_of_ble_eq_true rfl) rfl ?_
  refine zr_sig (fun ks50 e_ks50 => ?_)
  have kh51 : ks50.1 b = .inr (5, [.ref ((b + 1)), .int 0, .ref ((b + 2)), .ref ((b + 3)), .ref ((b + 4)), .int 0, .int 0]) := by rw [e_ks50]; exact zup_at _ _ _
  have kh52 : ks50.1 (b + 1) = .inl (1, 60, .inl (fun _ => 0)) := by rw [e_ks50, zup_ne _ _ (by omega)]; exact kh44
  have kh53 : ks50.1 (b + 2) = .inl (7, 12, .inr (.inr (.inr (.inr (fun _ => none))))) := by rw [e_ks50, zup_ne _ _ (by omega)]; exact kh45
  have kh54 : ks50.1 (b + 3) = .inl (0, 12, .inl (fun _ => 0)) := by rw [e_ks50, zup_ne _ _ (by omega)]; exact kh46
  have kh55 : ks50.1 (b + 4) = .inl (0, 12, .inl (fun _ => 0)) := by rw [e_ks50, zup_ne _ _ (by omega)]; exact kh47
  have kH56 : ks50.2 = some (b + 5) := by rw [e_ks50]; exact kH48
  have kB57 : ∀ q, q < b → ks50.1 q = σ.1 q := fun q hq => by rw [e_ks50]; exact (zup_ne _ _ (by omega)).trans (kB49 q hq)
  refine zr_aload_n dX7_init_42 rfl ?_
  refine zr_iconst (v := 0) dX7_init_43 (by decide) ?_
  refine zr_putfield (fs' := [.ref ((b + 1)), .int 0, .ref ((b + 2)), .ref ((b + 3)), .ref ((b + 4)), .int 0, .int 0]) dX7_init_44 pX7_32 kh51 (by decide) (rfl) (rfl) (Nat.le_of_ble_eq_true rfl) rfl ?_
  refine zr_sig (fun ks58 e_ks58 => ?_)
  have kh59 : ks58.1 b = .inr (5, [.ref ((b + 1)), .int 0, .ref ((b + 2)), .ref ((b + 3)), .ref ((b + 4)), .int 0, .int 0]) := by rw [e_ks58]; exact zup_at _ _ _
  have kh60 : ks58.1 (b + 1) = .inl (1, 60, .inl (fun _ => 0)) := by rw [e_ks58, zup_ne _ _ (by omega)]; exact kh52
  have kh61 : ks58.1 (b + 2) = .inl (7, 12, .inr (.inr (.inr (.inr (fun _ => none))))) := by rw [e_ks58, zup_ne _ _ (by omega)]; exact kh53
  have kh62 : ks58.1 (b + 3) = .inl (0, 12, .inl (fun _ => 0)) := by rw [e_ks58, zup_ne _ _ (by omega)]; exact kh54
  have kh63 : ks58.1 (b + 4) = .inl (0, 12, .inl (fun _ => 0)) := by rw [e_ks58, zup_ne _ _ (by omega)]; exact kh55
  have kH64 : ks58.2 = some (b + 5) := by rw [e_ks58]; exact kH56
  have kB65 : ∀ q, q < b → ks58.1 q = σ.1 q := fun q hq => by rw [e_ks58]; exact (zup_ne _ _ (by omega)).trans (kB57 q hq)
  refine zr_aload_n dX7_init_47 rfl ?_
  refine zr_iconst (v := 0) dX7_init_48 (by decide) ?_
  refine zr_putfield (fs' := [.ref ((b + 1)), .int 0, .ref ((b + 2)), .ref ((b + 3)), .ref ((b + 4)), .int 0, .int 0]) dX7_init_49 pX7_35 kh59 (by decide) (rfl) (rfl) (Nat.le_of_ble_eq_true rfl) rfl ?_
  refine zr_sig (fun ks66 e_ks66 => ?_)
  have kh67 : ks66.1 b = .inr (5, [.ref ((b + 1)), .int 0, .ref ((b + 2)), .ref ((b + 3)), .ref ((b + 4)), .int 0, .int 0]) := by rw [e_ks66]; exact zup_at _ _ _
  have kh68 : ks66.1 (b + 1) = .inl (1, 60, .inl (fun _ => 0)) := by rw [e_ks66, zup_ne _ _ (by omega)]; exact kh60
  have kh69 : ks66.1 (b + 2) = .inl (7, 12, .inr (.inr (.inr (.inr (fun _ => none))))) := by rw [e_ks66, zup_ne _ _ (by omega)]; exact kh61
  have kh70 : ks66.1 (b + 3) = .inl (0, 12, .inl (fun _ => 0)) := by rw [e_ks66, zup_ne _ _ (by omega)]; exact kh62
  have kh71 : ks66.1 (b + 4) = .inl (0, 12, .inl (fun _ => 0)) := by rw [e_ks66, zup_ne _ _ (by omega)]; exact kh63
  have kH72 : ks66.2 = some (b + 5) := by rw [e_ks66]; exact kH64
  have kB73 : ∀ q, q < b → ks66.1 q = σ.1 q := fun q hq => by rw [e_ks66]; exact (zup_ne _ _ (by omega)).trans (kB65 q hq)
  refine zr_iconst (v := 0) dX7_init_52 (by decide) ?_
  refine zr_istore_n (ls' := [some (.ref b), some (.int 0)]) dX7_init_53 rfl (by decide) rfl ?_
  exact zr_room (bc' := 0) (bs' := 0) rfl rfl (l_i7 hX 12 0 _ (fun _ => none) (by omega) kH72 kB73 kh67 kh68 kh69 kh70 kh71)

