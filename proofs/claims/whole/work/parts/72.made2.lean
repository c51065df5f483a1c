/-! the docket and the history, made -/
def zW8 (b i : Nat) (s : zS) : Prop := ∀ j, j < i → s.1 (b + 6 + 2 * j) = .inr (6, [.ref (b + 6 + 2 * j + 1), .int 0]) ∧ s.1 (b + 6 + 2 * j + 1) = .inl (0, 16, .inl (fun _ => 0))
theorem zW8.fr {b i : Nat} {σ s : zS} {P : Nat → Prop} (h : zW8 b i σ) (F : zFr σ s P) (hp : ∀ q, b + 6 ≤ q → q < b + 6 + 2 * i → ¬ P q) : zW8 b i s := fun j hj => ⟨F.get (hp _ (by omega) (by omega)) (h j hj).1, F.get (hp _ (by omega) (by omega)) (h j hj).2⟩
theorem zW8.add {b i : Nat} {s : zS} (h : zW8 b i s) (h1 : s.1 (b + 6 + 2 * i) = .inr (6, [.ref (b + 6 + 2 * i + 1), .int 0])) (h2 : s.1 (b + 6 + 2 * i + 1) = .inl (0, 16, .inl (fun _ => 0))) : zW8 b (i + 1) s := by
  intro j hj
  by_cases e : j = i
  · subst e; exact ⟨h1, h2⟩
  · exact h j (by omega)
def zD8 (b i : Nat) (s : zS) : Prop := ∀ j, j < i → zDA (b + 2 + 22 * j) zE0 s
theorem zD8.fr {b i : Nat} {σ s : zS} {P : Nat → Prop} (h : zD8 b i σ) (F : zFr σ s P) (hp : ∀ q, b + 2 ≤ q → q < b + 2 + 22 * i → ¬ P q) : zD8 b i s := fun j hj => (h j hj).fr F (fun q q1 q2 => hp q (by omega) (by omega))
theorem zD8.add {b i : Nat} {s : zS} (h : zD8 b i s) (h1 : zDA (b + 2 + 22 * i) zE0 s) : zD8 b (i + 1) s := by
  intro j hj
  by_cases e : j = i
  · subst e; exact h1
  · exact h j (by omega)
theorem zE0_w : zDw zE0 := ⟨Nat.zero_le _, Nat.zero_le _, fun i _ => ⟨Nat.zero_le _, fun k hk => absurd hk (Nat.not_lt_zero k), Or.inl rfl, Or.inl rfl, Or.inl rfl, 0, by omega, rfl⟩⟩
theorem zE0_g : zGd zE0 := ⟨zE0_w, fun i hi => absurd hi (Nat.not_lt_zero i), fun p hp => absurd hp (Nat.not_lt_zero p), fun p q hp => absurd hp (Nat.not_lt_zero p)⟩
set_option maxHeartbeats 400000 in
set_option maxRecDepth 100000 in
theorem l_i3 {X : zX} (hX : X.1.stackTraces = false) {σ : zS} {b : Nat}  : ∀ (j i : Nat) (s : zS) (wr : Nat → Option Nat) (r : Nat → Int32), i + j = 8 → (s.2 = some (b + 6 + 2 * i)) → (∀ q, q < b → s.1 q = σ.1 q) → (s.1 b = .inr (1, [.ref (b + 1), .ref (b + 2), .ref (b + 3), .ref (b + 4), .ref (b + 5), .int 0, .int 0])) → (s.1 (b + 1) = .inl (6, 8, .inr (.inr (.inr (.inr wr))))) → (s.1 (b + 2) = .inl (0, 8, .inl r)) → (s.1 (b + 3) = .inl (0, 8, .inl (fun _ => 0))) → (s.1 (b + 4) = .inl (2, 8, .inl (fun _ => 0))) → (s.1 (b + 5) = .inl (2, 8, .inl (fun _ => 0))) → (zW8 b i s) → (∀ j, j < i → wr j = some (b + 6 + 2 * j)) → (∀ j, j < i → r j = -1) → zW X mX3_init 2 (2 * j) (18 * j) ((zV (fun s => zNw b σ s 22 ∧ zDA b zE0 s))) 57 [some (.ref b), some (.int (nI i))] [] s := by
  intro j
  induction j with
  | zero =>
    intro i s wr r hi hH hB k0 k1 k2 k3 k4 k5 hW hwr hr
    refine zr_iload_n dX3_init_57 rfl ?_
    refine zr_bipush (v := 8) dX3_init_58 (by decide) ?_
    refine zr_icmp_ge (tgt := 89) dX3_init_60 (by decide) (fun c_60 => ?_) (fun c_60 => absurd ((nI_leI (a := 8) (b := i) (by omega) (by omega)).mpr (by omega)) c_60)
    exact zr_return dX3_init_89 rfl (⟨rfl, ⟨by rw [hH]; exact congrArg some (by omega), hB⟩, wr, r, _, _, _, _, k0, k1, k2, k3, k4, k5, fun i2 hi2 => ⟨hwr i2 (by omega), ⟨hr i2 (by omega), rfl, rfl, rfl⟩, (hW i2 (by omega)).1, (hW i2 (by omega)).2, fun k hk => absurd hk (Nat.not_lt_zero k)⟩⟩)
  | succ j ih =>
    intro i s wr r hi hH hB k0 k1 k2 k3 k4 k5 hW hwr hr
    refine zr_iload_n dX3_init_57 rfl ?_
    refine zr_bipush (v := 8) dX3_init_58 (by decide) ?_
    refine zr_icmp_ge (tgt := 89) dX3_init_60 (by decide) (fun c_60 => absurd c_60 (fun h => absurd ((nI_leI (a := 8) (b := i) (by omega) (by omega)).mp h) (by omega))) (fun c_60 => ?_)
    refine zr_aload_n dX3_init_63 rfl ?_
    refine zr_getfield dX3_init_64 fX3_11 k0 rfl (by decide) ?_
    refine zr_iload_n dX3_init_67 rfl ?_
    refine zr_new dX3_init_68 nX3_9 hH (by omega) (by omega) ?_
    refine zr_sig (fun ks1 e_ks1 => ?_)
    have kh2 : ks1.1 b = .inr (1, [.ref ((b + 1)), .ref ((b + 2)), .ref ((b + 3)), .ref ((b + 4)), .ref ((b + 5)), .int 0, .int 0]) := by rw [e_ks1, zup_ne _ _ (by omega)]; exact k0
    have kh3 : ks1.1 (b + 1) = .inl (6, 8, .inr (.inr (.inr (.inr wr)))) := by rw [e_ks1, zup_ne _ _ (by omega)]; exact k1
    have kh4 : ks1.1 (b + 2) = .inl (0, 8, .inl r) := by rw [e_ks1, zup_ne _ _ (by omega)]; exact k2
    have kh5 : ks1.1 (b + 3) = .inl (0, 8, .inl (fun _ => 0)) := by rw [e_ks1, zup_ne _ _ (by omega)]; exact k3
    have kh6 : ks1.1 (b + 4) = .inl (2, 8, .inl (fun _ => 0)) := by rw [e_ks1, zup_ne _ _ (by omega)]; exact k4
    have kh7 : ks1.1 (b + 5) = .inl (2, 8, .inl (fun _ => 0)) := by rw [e_ks1, zup_ne _ _ (by omega)]; exact k5
    have kh8 : ks1.1 (b + 6 + 2 * i) = .inr (6, [.null, .int 0]) := by rw [e_ks1]; exact zup_at _ _ _
    have kR9 : zW8 b i ks1 := zW8.fr (σ := (s.1, none)) (s := (ks1.1, none)) (P := fun q => q = b + 6 + 2 * i) hW ⟨rfl, fun q hq => by show ks1.1 q = s.1 q; rw [e_ks1, zup_ne _ _ hq]⟩ (by intro q h1 h2 h3; omega)
    have kH10 : ks1.2 = some (b + 6 + 2 * i + 1) := by rw [e_ks1]; rfl
    have kB11 : ∀ q, q < b → ks1.1 q = σ.1 q := fun q hq => by rw [e_ks1]; exact (zup_ne _ _ (by omega)).trans (hB q hq)
    refine zr_dup dX3_init_71 rfl ?_
    refine zr_callIv [.ref ((b + 6 + 2 * i)), .int (nI i), .ref ((b + 1))] dX3_init_72 vX3_38 (qX8_init hX kh8 kH10) (by decide) (by omega) (by omega) rfl rfl (Nat.le_of_ble_eq_true rfl) rfl (fun s_11 h_ => ?_)
    obtain ⟨⟨kH15, kB16⟩, kh13, kh14⟩ := h_
    have kh17 : s_11.1 b = .inr (1, [.ref ((b + 1)), .ref ((b + 2)), .ref ((b + 3)), .ref ((b + 4)), .ref ((b + 5)), .int 0, .int 0]) := (kB16 _ (by omega)).trans kh2
    have kh18 : s_11.1 (b + 1) = .inl (6, 8, .inr (.inr (.inr (.inr wr)))) := (kB16 _ (by omega)).trans kh3
    have kh19 : s_11.1 (b + 2) = .inl (0, 8, .inl r) := (kB16 _ (by omega)).trans kh4
    have kh20 : s_11.1 (b + 3) = .inl (0, 8, .inl (fun _ => 0)) := (kB16 _ (by omega)).trans kh5
    have kh21 : s_11.1 (b + 4) = .inl (2, 8, .inl (fun _ => 0)) := (kB16 _ (by omega)).trans kh6
    have kh22 : s_11.1 (b + 5) = .inl (2, 8, .inl (fun _ => 0)) := (kB16 _ (by omega)).trans kh7
    have kR23 : zW8 b i s_11 := zW8.fr (σ := (ks1.1, none)) (s := (s_11.1, none)) (P := fun q => b + 6 + 2 * i ≤ q) kR9 ⟨rfl, fun q hq => kB16 q (Nat.not_le.mp hq)⟩ (by intro q h1 h2 (h3 : b + 6 + 2 * i ≤ q); omega)
    have kH24 : s_11.2 = some (b + 6 + 2 * i + 2) := by rw [kH15]
    have kB25 : ∀ q, q < b → s_11.1 q = σ.1 q := fun q hq => (kB16 q (by omega)).trans (kB11 q hq)
    refine zr_aastO dX3_init_75 kh18 (vp_in_nI (n := i) (by omega) (by omega)) kh13 (by decide) rfl rfl ?_
    rw [nI_clamp (n := i) (by omega)]
    refine zr_sig (fun ks26 e_ks26 => ?_)
    have kh27 : ks26.1 b = .inr (1, [.ref ((b + 1)), .ref ((b + 2)), .ref ((b + 3)), .ref ((b + 4)), .ref ((b + 5)), .int 0, .int 0]) := by rw [e_ks26, zup_ne _ _ (by omega)]; exact kh17
    have kh28 : ks26.1 (b + 1) = .inl (6, 8, .inr (.inr (.inr (.inr (va_up wr i (some (b + 6 + 2 * i))))))) := by rw [e_ks26]; exact zup_at _ _ _
    have kh29 : ks26.1 (b + 2) = .inl (0, 8, .inl r) := by rw [e_ks26, zup_ne _ _ (by omega)]; exact kh19
    have kh30 : ks26.1 (b + 3) = .inl (0, 8, .inl (fun _ => 0)) := by rw [e_ks26, zup_ne _ _ (by omega)]; exact kh20
    have kh31 : ks26.1 (b + 4) = .inl (2, 8, .inl (fun _ => 0)) := by rw [e_ks26, zup_ne _ _ (by omega)]; exact kh21
    have kh32 : ks26.1 (b + 5) = .inl (2, 8, .inl (fun _ => 0)) := by rw [e_ks26, zup_ne _ _ (by omega)]; exact kh22
    have kh33 : ks26.1 (b + 6 + 2 * i) = .inr (6, [.ref ((b + 6 + 2 * i + 1)), .int 0]) := by rw [e_ks26, zup_ne _ _ (by omega)]; exact kh13
    have kh34 : ks26.1 (b + 6 + 2 * i + 1) = .inl (0, 16, .inl (fun _ => 0)) := by rw [e_ks26, zup_ne _ _ (by omega)]; exact kh14
    have kR35 : zW8 b i ks26 := zW8.fr kR23 (zFr.put (P := fun q => q = (b + 1)) zFr.rf e_ks26 rfl) (by intro q h1 h2 h3; (try simp only [zIn, zJf] at h3); omega)
    have kH36 : ks26.2 = some (b + 6 + 2 * i + 2) := by rw [e_ks26]; exact kH24
    have kB37 : ∀ q, q < b → ks26.1 q = σ.1 q := fun q hq => by rw [e_ks26]; exact (zup_ne _ _ (by omega)).trans (kB25 q hq)
    refine zr_aload_n dX3_init_76 rfl ?_
    refine zr_getfield dX3_init_77 fX3_17 kh27 rfl (by decide) ?_
    refine zr_iload_n dX3_init_80 rfl ?_
    refine zr_iconst (v := -1) dX3_init_81 (by decide) ?_
    refine zr_iastore dX3_init_82 kh29 (vp_in_nI (n := i) (by omega) (by omega)) ?_
    rw [nI_clamp (n := i) (by omega)]
    refine zr_sig (fun ks38 e_ks38 => ?_)
    have kh39 : ks38.1 b = .inr (1, [.ref ((b + 1)), .ref ((b + 2)), .ref ((b + 3)), .ref ((b + 4)), .ref ((b + 5)), .int 0, .int 0]) := by rw [e_ks38, zup_ne _ _ (by omega)]; exact kh27
    have kh40 : ks38.1 (b + 1) = .inl (6, 8, .inr (.inr (.inr (.inr (va_up wr i (some (b + 6 + 2 * i))))))) := by rw [e_ks38, zup_ne _ _ (by omega)]; exact kh28
    have kh41 : ks38.1 (b + 2) = .inl (0, 8, .inl (upd r i (-1))) := by rw [e_ks38]; exact zup_at _ _ _
    have kh42 : ks38.1 (b + 3) = .inl (0, 8, .inl (fun _ => 0)) := by rw [e_ks38, zup_ne _ _ (by omega)]; exact kh30
    have kh43 : ks38.1 (b + 4) = .inl (2, 8, .inl (fun _ => 0)) := by rw [e_ks38, zup_ne _ _ (by omega)]; exact kh31
    have kh44 : ks38.1 (b + 5) = .inl (2, 8, .inl (fun _ => 0)) := by rw [e_ks38, zup_ne _ _ (by omega)]; exact kh32
    have kh45 : ks38.1 (b + 6 + 2 * i) = .inr (6, [.ref ((b + 6 + 2 * i + 1)), .int 0]) := by rw [e_ks38, zup_ne _ _ (by omega)]; exact kh33
    have kh46 : ks38.1 (b + 6 + 2 * i + 1) = .inl (0, 16, .inl (fun _ => 0)) := by rw [e_ks38, zup_ne _ _ (by omega)]; exact kh34
    have kR47 : zW8 b i ks38 := zW8.fr kR35 (zFr.put (P := fun q => q = (b + 2)) zFr.rf e_ks38 rfl) (by intro q h1 h2 h3; (try simp only [zIn, zJf] at h3); omega)
    have kH48 : ks38.2 = some (b + 6 + 2 * i + 2) := by rw [e_ks38]; exact kH36
    have kB49 : ∀ q, q < b → ks38.1 q = σ.1 q := fun q hq => by rw [e_ks38]; exact (zup_ne _ _ (by omega)).trans (kB37 q hq)
    refine zr_iinc (v := nI (i + 1)) (ls' := [some (.ref b), some (.int (nI (i + 1)))]) dX3_init_83 rfl (nI_1 _) (by decide) rfl ?_
    refine zr_goto (tgt := 57) dX3_init_86 (by decide) ?_
    refine zr_room (bc' := 2 * j) (bs' := 18 * j) (by omega) (by omega) ?_
    exact ih (i + 1) _ _ _ (by omega) (by rw [kH48]; exact congrArg some (by omega)) (kB49) (kh39) (kh40) (kh41) (kh42) (kh43) (kh44) ((zW8.add kR47 kh45 kh46)) (fun j hj => by simp only [va_up]; split; (rename_i e; rw [e]); exact hwr j (by omega)) (fun j hj => by simp only [upd]; split; rfl; exact hr j (by omega))

set_option maxHeartbeats 400000 in
set_option maxRecDepth 100000 in
theorem qX3_init {X : zX} (hX : X.1.stackTraces = false) {σ : zS} {b : Nat}  (h0 : σ.1 b = .inr (1, [.null, .null, .null, .null, .null, .int 0, .int 0])) (hh : σ.2 = some (b + 1))  : zMet X mX3_init yX3_init 2 21 184 [.ref b] σ (zV (fun s => zNw b σ s 22 ∧ zDA b zE0 s)) := by
  refine zMet_of (ls := [some (.ref b), none]) rfl (by decide +kernel) rfl (fun _ => rfl) hX (Nat.le_of_ble_eq_true rfl) rfl ?_
  have hB : ∀ q, q < b → σ.1 q = σ.1 q := fun q _ => rfl
  refine zr_aload_n dX3_init_0 rfl ?_
  refine zr_objInit dX3_init_1 oX3_3 (by decide) (by decide) ?_
  refine zr_aload_n dX3_init_4 rfl ?_
  refine zr_bipush (v := 8) dX3_init_5 (by decide) ?_
  refine zr_anewarray (t := 6) (N := 8) dX3_init_7 lX3_9 (by decide) rfl (by decide) (by decide) (by decide) hh (by omega) (by omega) ?_
  refine zr_sig (fun ks1 e_ks1 => ?_)
  have kh2 : ks1.1 b = .inr (1, [.null, .null, .null, .null, .null, .int 0, .int 0]) := by rw [e_ks1, zup_ne _ _ (by omega)]; exact h0
  have kh3 : ks1.1 (b + 1) = .inl (6, 8, .inr (.inr (.inr (.inr (fun _ => none))))) := by rw [e_ks1]; exact zup_at _ _ _
  have kH4 : ks1.2 = some (b + 2) := by rw [e_ks1]; rfl
  have kB5 : ∀ q, q < b → ks1.1 q = σ.1 q := fun q hq => by rw [e_ks1]; exact (zup_ne _ _ (by omega)).trans (hB q hq)
  refine zr_putfinal (fs' := [.ref ((b + 1)), .null, .null, .null, .null, .int 0, .int 0]) dX3_init_10 rfl pX3_11 kh2 (by decide) rfl rfl (Nat.le_of_ble_eq_true rfl) rfl ?_
  refine zr_sig (fun ks6 e_ks6 => ?_)
  have kh7 : ks6.1 b = .inr (1, [.ref ((b + 1)), .null, .null, .null, .null, .int 0, .int 0]) := by rw [e_ks6]; exact zup_at _ _ _
  have kh8 : ks6.1 (b + 1) = .inl (6, 8, .inr (.inr (.inr (.inr (fun _ => none))))) := by rw [e_ks6, zup_ne _ _ (by omega)]; exact kh3
  have kH9 : ks6.2 = some (b + 2) := by rw [e_ks6]; exact kH4
  have kB10 : ∀ q, q < b → ks6.1 q = σ.1 q := fun q hq => by rw [e_ks6]; exact (zup_ne _ _ (by omega)).trans (kB5 q hq)
  refine zr_aload_n dX3_init_13 rfl ?_
  refine zr_bipush (v := 8) dX3_init_14 (by decide) ?_
  refine zr_newarray (t := 0) (N := 8) (x := (8, .inl (fun _ => 0))) dX3_init_16 ac_int rfl rfl (fun C q => by cases q) (fun _ => rfl) (by decide) (by decide) (by decide) kH9 (by omega) (by omega) ?_
  refine zr_sig (fun ks11 e_ks11 => ?_)
  have kh12 : ks11.1 b = .inr (1, [.ref ((b + 1)), .null, .null, .null, .null, .int 0, .int 0]) := by rw [e_ks11, zup_ne _ _ (by omega)]; exact kh7
  have kh13 : ks11.1 (b + 1) = .inl (6, 8, .inr (.inr (.inr (.inr (fun _ => none))))) := by rw [e_ks11, zup_ne _ _ (by omega)]; exact kh8
  have kh14 : ks11.1 (b + 2) = .inl (0, 8, .inl (fun _ => 0)) := by rw [e_ks11]; exact zup_at _ _ _
  have kH15 : ks11.2 = some (b + 3) := by rw [e_ks11]; rfl
  have kB16 : ∀ q, q < b → ks11.1 q = σ.1 q := fun q hq => by rw [e_ks11]; exact (zup_ne _ _ (by omega)).trans (kB10 q hq)
  refine zr_putfinal (fs' := [.ref ((b + 1)), .ref ((b + 2)), .null, .null, .null, .int 0, .int 0]) dX3_init_18 rfl pX3_17 kh12 (by decide) rfl rfl (Nat.le_of_ble_eq_true rfl) rfl ?_
  refine zr_sig (fun ks17 e_ks17 => ?_)
  have kh18 : ks17.1 b = .inr (1, [.ref ((b + 1)), .ref ((b + 2)), .null, .null, .null, .int 0, .int 0]) := by rw [e_ks17]; exact zup_at _ _ _
  have kh19 : ks17.1 (b + 1) = .inl (6, 8, .inr (.inr (.inr (.inr (fun _ => none))))) := by rw [e_ks17, zup_ne _ _ (by omega)]; exact kh13
  have kh20 : ks17.1 (b + 2) = .inl (0, 8, .inl (fun _ => 0)) := by rw [e_ks17, zup_ne _ _ (by omega)]; exact kh14
  have kH21 : ks17.2 = some (b + 3) := by rw [e_ks17]; exact kH15
  have kB22 : ∀ q, q < b → ks17.1 q = σ.1 q := fun q hq => by rw [e_ks17]; exact (zup_ne _ _ (by omega)).trans (kB16 q hq)
  refine zr_aload_n dX3_init_21 rfl ?_
  refine zr_bipush (v := 8) dX3_init_22 (by decide) ?_
  refine zr_newarray (t := 0) (N := 8) (x := (8, .inl (fun _ => 0))) dX3_init_24 ac_int rfl rfl (fun C q => by cases q) (fun _ => rfl) (by decide) (by decide) (by decide) kH21 (by omega) (by omega) ?_
  refine zr_sig (fun ks23 e_ks23 => ?_)
  have kh24 : ks23.1 b = .inr (1, [.ref ((b + 1)), .ref ((b + 2)), .null, .null, .null, .int 0, .int 0]) := by rw [e_ks23, zup_ne _ _ (by omega)]; exact kh18
  have kh25 : ks23.1 (b + 1) = .inl (6, 8, .inr (.inr (.inr (.inr (fun _ => none))))) := by rw [e_ks23, zup_ne _ _ (by omega)]; exact kh19
  have kh26 : ks23.1 (b + 2) = .inl (0, 8, .inl (fun _ => 0)) := by rw [e_ks23, zup_ne _ _ (by omega)]; exact kh20
  have kh27 : ks23.1 (b + 3) = .inl (0, 8, .inl (fun _ => 0)) := by rw [e_ks23]; exact zup_at _ _ _
  have kH28 : ks23.2 = some (b + 4) := by rw [e_ks23]; rfl
  have kB29 : ∀ q, q < b → ks23.1 q = σ.1 q := fun q hq => by rw [e_ks23]; exact (zup_ne _ _ (by omega)).trans (kB22 q hq)
  refine zr_putfinal (fs' := [.ref ((b + 1)), .ref ((b + 2)), .ref ((b + 3)), .null, .null, .int 0, .int 0]) dX3_init_26 rfl pX3_21 kh24 (by decide) rfl rfl (Nat.le_of_ble_eq_true rfl) rfl ?_
  refine zr_sig (fun ks30 e_ks30 => ?_)
  have kh31 : ks30.1 b = .inr (1, [.ref ((b + 1)), .ref ((b + 2)), .ref ((b + 3)), .null, .null, .int 0, .int 0]) := by rw [e_ks30]; exact zup_at _ _ _
  have kh32 : ks30.1 (b + 1) = .inl (6, 8, .inr (.inr (.inr (.inr (fun _ => none))))) := by rw [e_ks30, zup_ne _ _ (by omega)]; exact kh25
  have kh33 : ks30.1 (b + 2) = .inl (0, 8, .inl (fun _ => 0)) := by rw [e_ks30, zup_ne _ _ (by omega)]; exact kh26
  have kh34 : ks30.1 (b + 3) = .inl (0, 8, .inl (fun _ => 0)) := by rw [e_ks30, zup_ne _ _ (by omega)]; exact kh27
  have kH35 : ks30.2 = some (b + 4) := by rw [e_ks30]; exact kH28
  have kB36 : ∀ q, q < b → ks30.1 q = σ.1 q := fun q hq => by rw [e_ks30]; exact (zup_ne _ _ (by omega)).trans (kB29 q hq)
  refine zr_aload_n dX3_init_29 rfl ?_
  refine zr_bipush (v := 8) dX3_init_30 (by decide) ?_
  refine zr_newarray (t := 2) (N := 8) (x := (8, .inl (fun _ => 0))) dX3_init_32 ac_boolean rfl rfl (fun C q => by cases q) (fun _ => rfl) (by decide) (by decide) (by decide) kH35 (by omega) (by omega) ?_
  refine zr_sig (fun ks37 e_ks37 => ?_)
  have kh38 : ks37.1 b = .inr (1, [.ref ((b + 1)), .ref ((b + 2)), .ref ((b + 3)), .null, .null, .int 0, .int 0]) := by rw [e_ks37, zup_ne _ _ (by omega)]; exact kh31
  have kh39 : ks37.1 (b + 1) = .inl (6, 8, .inr (.inr (.inr (.inr (fun _ => none))))) := by rw [e_ks37, zup_ne _ _ (by omega)]; exact kh32
  have kh40 : ks37.1 (b + 2) = .inl (0, 8, .inl (fun _ => 0)) := by rw [e_ks37, zup_ne _ _ (by omega)]; exact kh33
  have kh41 : ks37.1 (b + 3) = .inl (0, 8, .inl (fun _ => 0)) := by rw [e_ks37, zup_ne _ _ (by omega)]; exact kh34
  have kh42 : ks37.1 (b + 4) = .inl (2, 8, .inl (fun _ => 0)) := by rw [e_ks37]; exact zup_at _ _ _
  have kH43 : ks37.2 = some (b + 5) := by rw [e_ks37]; rfl
  have kB44 : ∀ q, q < b → ks37.1 q = σ.1 q := fun q hq => by rw [e_ks37]; exact (zup_ne _ _ (by omega)).trans (kB36 q hq)
  refine zr_putfinal (fs' := [.ref ((b + 1)), .ref ((b + 2)), .ref ((b + 3)), .ref ((b + 4)), .null, .int 0, .int 0]) dX3_init_34 rfl pX3_24 kh38 (by decide) rfl rfl (Nat.le_of_ble_eq_true rfl) rfl ?_
  refine zr_sig (fun ks45 e_ks45 => ?_)
  have kh46 : ks45.1 b = .inr (1, [.ref ((b + 1)), .ref ((b + 2)), .ref ((b + 3)), .ref ((b + 4)), .null, .int 0, .int 0]) := by rw [e_ks45]; exact zup_at _ _ _
  have kh47 : ks45.1 (b + 1) = .inl (6, 8, .inr (.inr (.inr (.inr (fun _ => none))))) := by rw [e_ks45, zup_ne _ _ (by omega)]; exact kh39
  have kh48 : ks45.1 (b + 2) = .inl (0, 8, .inl (fun _ => 0)) := by rw [e_ks45, zup_ne _ _ (by omega)]; exact kh40
  have kh49 : ks45.1 (b + 3) = .inl (0, 8, .inl (fun _ => 0)) := by rw [e_ks45, zup_ne _ _ (by omega)]; exact kh41
  have kh50 : ks45.1 (b + 4) = .inl (2, 8, .inl (fun _ => 0)) := by rw [e_ks45, zup_ne _ _ (by omega)]; exact kh42
  have kH51 : ks45.2 = some (b + 5) := by rw [e_ks45]; exact kH43
  have kB52 : ∀ q, q < b → ks45.1 q = σ.1 q := fun q hq => by rw [e_ks45]; exact (zup_ne _ _ (by omega)).trans (kB44 q hq)
  refine zr_aload_n dX3_init_37 rfl ?_
  refine zr_bipush (v := 8) dX3_init_38 (by decide) ?_
  refine zr_newarray (t := 2) (N := 8) (x := (8, .inl (fun _ => 0))) dX3_init_40 ac_boolean rfl rfl (fun C q => by cases q) (fun _ => rfl) (by decide) (by decide) (by decide) kH51 (by omega) (by omega) ?_
  refine zr_sig (fun ks53 e_ks53 => ?_)
  have kh54 : ks53.1 b = .inr (1, [.ref ((b + 1)), .ref ((b + 2)), .ref ((b + 3)), .ref ((b + 4)), .null, .int 0, .int 0]) := by rw [e_ks53, zup_ne _ _ (by omega)]; exact kh46
  have kh55 : ks53.1 (b + 1) = .inl (6, 8, .inr (.inr (.inr (.inr (fun _ => none))))) := by rw [e_ks53, zup_ne _ _ (by omega)]; exact kh47
  have kh56 : ks53.1 (b + 2) = .inl (0, 8, .inl (fun _ => 0)) := by rw [e_ks53, zup_ne _ _ (by omega)]; exact kh48
  have kh57 : ks53.1 (b + 3) = .inl (0, 8, .inl (fun _ => 0)) := by rw [e_ks53, zup_ne _ _ (by omega)]; exact kh49
  have kh58 : ks53.1 (b + 4) = .inl (2, 8, .inl (fun _ => 0)) := by rw [e_ks53, zup_ne _ _ (by omega)]; exact kh50
  have kh59 : ks53.1 (b + 5) = .inl (2, 8, .inl (fun _ => 0)) := by rw [e_ks53]; exact zup_at _ _ _
  have kH60 : ks53.2 = some (b + 6) := by rw [e_ks53]; rfl
  have kB61 : ∀ q, q < b → ks53.1 q = σ.1 q := fun q hq => by rw [e_ks53]; exact (zup_ne _ _ (by omega)).trans (kB52 q hq)
  refine zr_putfinal (fs' := [.ref ((b + 1)), .ref ((b + 2)), .ref ((b + 3)), .ref ((b + 4)), .ref ((b + 5)), .int 0, .int 0]) dX3_init_42 rfl pX3_28 kh54 (by decide) rfl rfl (Nat.le_of_ble_eq_true rfl) rfl ?_
  refine zr_sig (fun ks62 e_ks62 => ?_)
  have kh63 : ks62.1 b = .inr (1, [.ref ((b + 1)), .ref ((b + 2)), .ref ((b + 3)), .ref ((b + 4)), .ref ((b + 5)), .int 0, .int 0]) := by rw [e_ks62]; exact zup_at _ _ _
  have kh64 : ks62.1 (b + 1) = .inl (6, 8, .inr (.inr (.inr (.inr (fun _ => none))))) := by rw [e_ks62, zup_ne _ _ (by omega)]; exact kh55
  have kh65 : ks62.1 (b + 2) = .inl (0, 8, .inl (fun _ => 0)) := by rw [e_ks62, zup_ne _ _ (by omega)]; exact kh56
  have kh66 : ks62.1 (b + 3) = .inl (0, 8, .inl (fun _ => 0)) := by rw [e_ks62, zup_ne _ _ (by omega)]; exact kh57
  have kh67 : ks62.1 (b + 4) = .inl (2, 8, .inl (fun _ => 0)) := by rw [e_ks62, zup_ne _ _ (by omega)]; exact kh58
  have kh68 : ks62.1 (b + 5) = .inl (2, 8, .inl (fun _ => 0)) := by rw [e_ks62, zup_ne _ _ (by omega)]; exact kh59
  have kH69 : ks62.2 = some (b + 6) := by rw [e_ks62]; exact kH60
  have kB70 : ∀ q, q < b → ks62.1 q = σ.1 q := fun q hq => by rw [e_ks62]; exact (zup_ne _ _ (by omega)).trans (kB61 q hq)
  refine zr_aload_n dX3_init_45 rfl ?_
  refine zr_iconst (v := 0) dX3_init_46 (by decide) ?_
  refine zr_putfield (fs' := [.ref ((b + 1)), .ref ((b + 2)), .ref ((b + 3)), .ref ((b + 4)), .ref ((b + 5)), .int 0, .int 0]) dX3_init_47 pX3_31 kh63 (by decide) (rfl) (rfl) (Nat.le_of_ble_eq_true rfl) rfl ?_
  refine zr_sig (fun ks71 e_ks71 => ?_)
  have kh72 : ks71.1 b = .inr (1, [.ref ((b + 1)), .ref ((b + 2)), .ref ((b + 3)), .ref ((b + 4)), .ref ((b + 5)), .int 0, .int 0]) := by rw [e_ks71]; exact zup_at _ _ _
  have kh73 : ks71.1 (b + 1) = .inl (6, 8, .inr (.inr (.inr (.inr (fun _ => none))))) := by rw [e_ks71, zup_ne _ _ (by omega)]; exact kh64
  have kh74 : ks71.1 (b + 2) = .inl (0, 8, .inl (fun _ => 0)) := by rw [e_ks71, zup_ne _ _ (by omega)]; exact kh65
  have kh75 : ks71.1 (b + 3) = .inl (0, 8, .inl (fun _ => 0)) := by rw [e_ks71, zup_ne _ _ (by omega)]; exact kh66
  have kh76 : ks71.1 (b + 4) = .inl (2, 8, .inl (fun _ => 0)) := by rw [e_ks71, zup_ne _ _ (by omega)]; exact kh67
  have kh77 : ks71.1 (b + 5) = .inl (2, 8, .inl (fun _ => 0)) := by rw [e_ks71, zup_ne _ _ (by omega)]; exact kh68
  have kH78 : ks71.2 = some (b + 6) := by rw [e_ks71]; exact kH69
  have kB79 : ∀ q, q < b → ks71.1 q = σ.1 q := fun q hq => by rw [e_ks71]; exact (zup_ne _ _ (by omega)).trans (kB70 q hq)
  refine zr_aload_n dX3_init_50 rfl ?_
  refine zr_iconst (v := 0) dX3_init_51 (by decide) ?_
  refine zr_putfield (fs' := [.ref ((b + 1)), .ref ((b + 2)), .ref ((b + 3)), .ref ((b + 4)), .ref ((b + 5)), .int 0, .int 0]) dX3_init_52 pX3_35 kh72 (by decide) (rfl) (rfl) (Nat.le_of_ble_eq_true rfl) rfl ?_
  refine zr_sig (fun ks80 e_ks80 => ?_)
  have kh81 : ks80.1 b = .inr (1, [.ref ((b + 1)), .ref ((b + 2)), .ref ((b + 3)), .ref ((b + 4)), .ref ((b + 5)), .int 0, .int 0]) := by rw [e_ks80]; exact zup_at _ _ _
  have kh82 : ks80.1 (b + 1) = .inl (6, 8, .inr (.inr (.inr (.inr (fun _ => none))))) := by rw [e_ks80, zup_ne _ _ (by omega)]; exact kh73
  have kh83 : ks80.1 (b + 2) = .inl (0, 8, .inl (fun _ => 0)) := by rw [e_ks80, zup_ne _ _ (by omega)]; exact kh74
  have kh84 : ks80.1 (b + 3) = .inl (0, 8, .inl (fun _ => 0)) := by rw [e_ks80, zup_ne _ _ (by omega)]; exact kh75
  have kh85 : ks80.1 (b + 4) = .inl (2, 8, .inl (fun _ => 0)) := by rw [e_ks80, zup_ne _ _ (by omega)]; exact kh76
  have kh86 : ks80.1 (b + 5) = .inl (2, 8, .inl (fun _ => 0)) := by rw [e_ks80, zup_ne _ _ (by omega)]; exact kh77
  have kH87 : ks80.2 = some (b + 6) := by rw [e_ks80]; exact kH78
  have kB88 : ∀ q, q < b → ks80.1 q = σ.1 q := fun q hq => by rw [e_ks80]; exact (zup_ne _ _ (by omega)).trans (kB79 q hq)
  refine zr_iconst (v := 0) dX3_init_55 (by decide) ?_
  refine zr_istore_n (ls' := [some (.ref b), some (.int 0)]) dX3_init_56 rfl (by decide) rfl ?_
  exact zr_room (bc' := 2 * 8) (bs' := 18 * 8) rfl rfl (l_i3 hX 8 0 _ (fun _ => none) (fun _ => 0) (by omega) kH87 kB88 kh81 kh82 kh83 kh84 kh85 kh86 (fun j hj => absurd hj (Nat.not_lt_zero j)) (fun j hj => absurd hj (Nat.not_lt_zero j)) (fun j hj => absurd hj (Nat.not_lt_zero j)))

set_option maxHeartbeats 400000 in
set_option maxRecDepth 100000 in
theorem l_i4 {X : zX} (hX : X.1.stackTraces = false) {σ : zS} {b : Nat}  : ∀ (j i : Nat) (s : zS) (kr : Nat → Option Nat), i + j = 8 → (s.2 = some (b + 2 + 22 * i)) → (∀ q, q < b → s.1 q = σ.1 q) → (s.1 b = .inr (2, [.ref (b + 1), .int 0, .int 0])) → (s.1 (b + 1) = .inl (5, 8, .inr (.inr (.inr (.inr kr))))) → (zD8 b i s) → (∀ j, j < i → kr j = some (b + 2 + 22 * j)) → zW X mX4_init 3 (22 * j) (191 * j) ((zV (fun s => zNw b σ s 178 ∧ ∀ U, zHi b 0 U s))) 25 [some (.ref b), some (.int (nI i))] [] s := by
  intro j
  induction j with
  | zero =>
    intro i s kr hi hH hB k0 k1 hD hkr
    refine zr_iload_n dX4_init_25 rfl ?_
    refine zr_bipush (v := 8) dX4_init_26 (by decide) ?_
    refine zr_icmp_ge (tgt := 50) dX4_init_28 (by decide) (fun c_28 => ?_) (fun c_28 => absurd ((nI_leI (a := 8) (b := i) (by omega) (by omega)).mpr (by omega)) c_28)
    exact zr_return dX4_init_50 rfl (⟨rfl, ⟨by rw [hH]; exact congrArg some (by omega), hB⟩, fun U => ⟨0, fun _ => zE0, kr, by omega, by omega, k0, k1, fun j2 hj2 => ⟨hkr j2 (by omega), hD j2 (by omega), zE0_w⟩, fun t ht => absurd ht (Nat.not_lt_zero t)⟩⟩)
  | succ j ih =>
    intro i s kr hi hH hB k0 k1 hD hkr
    refine zr_iload_n dX4_init_25 rfl ?_
    refine zr_bipush (v := 8) dX4_init_26 (by decide) ?_
    refine zr_icmp_ge (tgt := 50) dX4_init_28 (by decide) (fun c_28 => absurd c_28 (fun h => absurd ((nI_leI (a := 8) (b := i) (by omega) (by omega)).mp h) (by omega))) (fun c_28 => ?_)
    refine zr_aload_n dX4_init_31 rfl ?_
    refine zr_getfield dX4_init_32 fX4_11 k0 rfl (by decide) ?_
    refine zr_iload_n dX4_init_35 rfl ?_
    refine zr_new dX4_init_36 nX4_9 hH (by omega) (by omega) ?_
    refine zr_sig (fun ks1 e_ks1 => ?_)
    have kh2 : ks1.1 b = .inr (2, [.ref ((b + 1)), .int 0, .int 0]) := by rw [e_ks1, zup_ne _ _ (by omega)]; exact k0
    have kh3 : ks1.1 (b + 1) = .inl (5, 8, .inr (.inr (.inr (.inr kr)))) := by rw [e_ks1, zup_ne _ _ (by omega)]; exact k1
    have kh4 : ks1.1 (b + 2 + 22 * i) = .inr (1, [.null, .null, .null, .null, .null, .int 0, .int 0]) := by rw [e_ks1]; exact zup_at _ _ _
    have kR5 : zD8 b i ks1 := zD8.fr (σ := (s.1, none)) (s := (ks1.1, none)) (P := fun q => q = b + 2 + 22 * i) hD ⟨rfl, fun q hq => by show ks1.1 q = s.1 q; rw [e_ks1, zup_ne _ _ hq]⟩ (by intro q h1 h2 h3; omega)
    have kH6 : ks1.2 = some (b + 2 + 22 * i + 1) := by rw [e_ks1]; rfl
    have kB7 : ∀ q, q < b → ks1.1 q = σ.1 q := fun q hq => by rw [e_ks1]; exact (zup_ne _ _ (by omega)).trans (hB q hq)
    refine zr_dup dX4_init_39 rfl ?_
    refine zr_callIv [.ref ((b + 2 + 22 * i)), .int (nI i), .ref ((b + 1))] dX4_init_40 vX4_24 (qX3_init hX kh4 kH6) (by decide) (by omega) (by omega) rfl rfl (Nat.le_of_ble_eq_true rfl) rfl (fun s_7 h_ => ?_)
    obtain ⟨⟨kH10, kB11⟩, kR9⟩ := h_
    have kh12 : s_7.1 b = .inr (2, [.ref ((b + 1)), .int 0, .int 0]) := (kB11 _ (by omega)).trans kh2
    have kh13 : s_7.1 (b + 1) = .inl (5, 8, .inr (.inr (.inr (.inr kr)))) := (kB11 _ (by omega)).trans kh3
    have kR14 : zD8 b i s_7 := zD8.fr (σ := (ks1.1, none)) (s := (s_7.1, none)) (P := fun q => b + 2 + 22 * i ≤ q) kR5 ⟨rfl, fun q hq => kB11 q (Nat.not_le.mp hq)⟩ (by intro q h1 h2 (h3 : b + 2 + 22 * i ≤ q); omega)
    have kH15 : s_7.2 = some (b + 2 + 22 * i + 22) := by rw [kH10]
    have kB16 : ∀ q, q < b → s_7.1 q = σ.1 q := fun q hq => (kB11 q (by omega)).trans (kB7 q hq)
    obtain ⟨dw, dr, dm, dt, da, df, dc0, -⟩ := id kR9
    refine zr_aastO dX4_init_43 kh13 (vp_in_nI (n := i) (by omega) (by omega)) dc0 (by decide) rfl rfl ?_
    rw [nI_clamp (n := i) (by omega)]
    refine zr_sig (fun ks17 e_ks17 => ?_)
    have kh18 : ks17.1 b = .inr (2, [.ref ((b + 1)), .int 0, .int 0]) := by rw [e_ks17, zup_ne _ _ (by omega)]; exact kh12
    have kh19 : ks17.1 (b + 1) = .inl (5, 8, .inr (.inr (.inr (.inr (va_up kr i (some (b + 2 + 22 * i))))))) := by rw [e_ks17]; exact zup_at _ _ _
    have kR20 : zD8 b i ks17 := zD8.fr kR14 (zFr.put (P := fun q => q = (b + 1)) zFr.rf e_ks17 rfl) (by intro q h1 h2 h3; (try simp only [zIn, zJf] at h3); omega)
    have kR21 : zDA (b + 2 + 22 * i) zE0 ks17 := zDA.fr kR9 (zFr.put (P := fun q => q = (b + 1)) zFr.rf e_ks17 rfl) (by intro q h1 h2 h3; (try simp only [zIn, zJf] at h3); omega)
    have kH22 : ks17.2 = some (b + 2 + 22 * i + 22) := by rw [e_ks17]; exact kH15
    have kB23 : ∀ q, q < b → ks17.1 q = σ.1 q := fun q hq => by rw [e_ks17]; exact (zup_ne _ _ (by omega)).trans (kB16 q hq)
    refine zr_iinc (v := nI (i + 1)) (ls' := [some (.ref b), some (.int (nI (i + 1)))]) dX4_init_44 rfl (nI_1 _) (by decide) rfl ?_
    refine zr_goto (tgt := 25) dX4_init_47 (by decide) ?_
    refine zr_room (bc' := 22 * j) (bs' := 191 * j) (by omega) (by omega) ?_
    exact ih (i + 1) _ _ (by omega) (by rw [kH22]; exact congrArg some (by omega)) (kB23) (kh18) (kh19) ((zD8.add kR20 kR21)) (fun j hj => by simp only [va_up]; split; (rename_i e; rw [e]); exact hkr j (by omega))

set_option maxHeartbeats 400000 in
set_option maxRecDepth 100000 in
theorem qX4_init {X : zX} (hX : X.1.stackTraces = false) {σ : zS} {b : Nat}  (h0 : σ.1 b = .inr (2, [.null, .int 0, .int 0])) (hh : σ.2 = some (b + 1))  : zMet X mX4_init yX4_init 3 177 1536 [.ref b] σ (zV (fun s => zNw b σ s 178 ∧ ∀ U, zHi b 0 U s)) := by
  refine zMet_of (ls := [some (.ref b), none]) rfl (by decide +kernel) rfl (fun _ => rfl) hX (Nat.le_of_ble_eq_true rfl) rfl ?_
  have hB : ∀ q, q < b → σ.1 q = σ.1 q := fun q _ => rfl
  refine zr_aload_n dX4_init_0 rfl ?_
  refine zr_objInit dX4_init_1 oX4_3 (by decide) (by decide) ?_
  refine zr_aload_n dX4_init_4 rfl ?_
  refine zr_bipush (v := 8) dX4_init_5 (by decide) ?_
  refine zr_anewarray (t := 5) (N := 8) dX4_init_7 lX4_9 (by decide) rfl (by decide) (by decide) (by decide) hh (by omega) (by omega) ?_
  refine zr_sig (fun ks1 e_ks1 => ?_)
  have kh2 : ks1.1 b = .inr (2, [.null, .int 0, .int 0]) := by rw [e_ks1, zup_ne _ _ (by omega)]; exact h0
  have kh3 : ks1.1 (b + 1) = .inl (5, 8, .inr (.inr (.inr (.inr (fun _ => none))))) := by rw [e_ks1]; exact zup_at _ _ _
  have kH4 : ks1.2 = some (b + 2) := by rw [e_ks1]; rfl
  have kB5 : ∀ q, q < b → ks1.1 q = σ.1 q := fun q hq => by rw [e_ks1]; exact (zup_ne _ _ (by omega)).trans (hB q hq)
  refine zr_putfinal (fs' := [.ref ((b + 1)), .int 0, .int 0]) dX4_init_10 rfl pX4_11 kh2 (by decide) rfl rfl (Nat.le_of_ble_eq_true rfl) rfl ?_
  refine zr_sig (fun ks6 e_ks6 => ?_)
  have kh7 : ks6.1 b = .inr (2, [.ref ((b + 1)), .int 0, .int 0]) := by rw [e_ks6]; exact zup_at _ _ _
  have kh8 : ks6.1 (b + 1) = .inl (5, 8, .inr (.inr (.inr (.inr (fun _ => none))))) := by rw [e_ks6, zup_ne _ _ (by omega)]; exact kh3
  have kH9 : ks6.2 = some (b + 2) := by rw [e_ks6]; exact kH4
  have kB10 : ∀ q, q < b → ks6.1 q = σ.1 q := fun q hq => by rw [e_ks6]; exact (zup_ne _ _ (by omega)).trans (kB5 q hq)
  refine zr_aload_n dX4_init_13 rfl ?_
  refine zr_iconst (v := 0) dX4_init_14 (by decide) ?_
  refine zr_putfield (fs' := [.ref ((b + 1)), .int 0, .int 0]) dX4_init_15 pX4_17 kh7 (by decide) (rfl) (rfl) (Nat.le_of_ble_eq_true rfl) rfl ?_
  refine zr_sig (fun ks11 e_ks11 => ?_)
  have kh12 : ks11.1 b = .inr (2, [.ref ((b + 1)), .int 0, .int 0]) := by rw [e_ks11]; exact zup_at _ _ _
  have kh13 : ks11.1 (b + 1) = .inl (5, 8, .inr (.inr (.inr (.inr (fun _ => none))))) := by rw [e_ks11, zup_ne _ _ (by omega)]; exact kh8
  have kH14 : ks11.2 = some (b + 2) := by rw [e_ks11]; exact kH9
  have kB15 : ∀ q, q < b → ks11.1 q = σ.1 q := fun q hq => by rw [e_ks11]; exact (zup_ne _ _ (by omega)).trans (kB10 q hq)
  refine zr_aload_n dX4_init_18 rfl ?_
  refine zr_iconst (v := 0) dX4_init_19 (by decide) ?_
  refine zr_putfield (fs' := [.ref ((b + 1)), .int 0, .int 0]) dX4_init_20 pX4_21 kh12 (by decide) (rfl) (rfl) (Nat.le_of_ble_eq_true rfl) rfl ?_
  refine zr_sig (fun ks16 e_ks16 => ?_)
  have kh17 : ks16.1 b = .inr (2, [.ref ((b + 1)), .int 0, .int 0]) := by rw [e_ks16]; exact zup_at _ _ _
  have kh18 : ks16.1 (b + 1) = .inl (5, 8, .inr (.inr (.inr (.inr (fun _ => none))))) := by rw [e_ks16, zup_ne _ _ (by omega)]; exact kh13
  have kH19 : ks16.2 = some (b + 2) := by rw [e_ks16]; exact kH14
  have kB20 : ∀ q, q < b → ks16.1 q = σ.1 q := fun q hq => by rw [e_ks16]; exact (zup_ne _ _ (by omega)).trans (kB15 q hq)
  refine zr_iconst (v := 0) dX4_init_23 (by decide) ?_
  refine zr_istore_n (ls' := [some (.ref b), some (.int 0)]) dX4_init_24 rfl (by decide) rfl ?_
  exact zr_room (bc' := 22 * 8) (bs' := 191 * 8) rfl rfl (l_i4 hX 8 0 _ (fun _ => none) (by omega) kH19 kB20 kh17 kh18 (fun j hj => absurd hj (Nat.not_lt_zero j)) (fun j hj => absurd hj (Nat.not_lt_zero j)))

