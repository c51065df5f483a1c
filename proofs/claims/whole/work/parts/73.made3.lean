/-! the court and the reference, made -/
def zSk0 (b : Nat) (s : zS) : Prop := ∀ T, zSk b 0 T s
theorem zSk0.fr {b : Nat} {σ s : zS} {P : Nat → Prop} (h : zSk0 b σ) (F : zFr σ s P) (hp : ∀ q, b ≤ q → q < b + 5 → ¬ P q) : zSk0 b s := fun T => (h T).fr F hp
theorem qC7_init {X : zX} (hX : X.1.stackTraces = false) {σ : zS} {b : Nat} (h0 : σ.1 b = .inr (5, [.null, .int 0, .null, .null, .null, .int 0, .int 0])) (hh : σ.2 = some (b + 1)) : zMet X mX7_init yX7_init 1 4 96 [.ref b] σ (zV (fun s => zNw b σ s 5 ∧ zSk0 b s)) := (qX7_init hX h0 hh).mono (fun o s q => by
  obtain ⟨e, N, k0, k1, ⟨cf, k2⟩, k3, k4⟩ := q
  exact ⟨e, N, fun T => ⟨_, _, _, cf, _, _, Nat.zero_le _, k0, k1, k2, k3, k4, fun k hk => absurd hk (Nat.not_lt_zero k)⟩⟩)
theorem qC4_init {X : zX} (hX : X.1.stackTraces = false) {σ : zS} {b : Nat} (h0 : σ.1 b = .inr (2, [.null, .int 0, .int 0])) (hh : σ.2 = some (b + 1)) : zMet X mX4_init yX4_init 3 177 1536 [.ref b] σ (zV (fun s => zNw b σ s 178 ∧ zHi0 b s)) := qX4_init hX h0 hh
set_option maxHeartbeats 400000 in
set_option maxRecDepth 100000 in
theorem qX5_init {X : zX} (hX : X.1.stackTraces = false) {σ : zS} {b : Nat} {da ra : Nat} (h0 : σ.1 b = .inr (3, [.null, .null, .null, .null])) (hh : σ.2 = some (b + 1))  : zMet X mX5_init yX5_init 2 4 22 [.ref b, .ref da, .ref ra] σ (zV (fun s => zNw b σ s 5 ∧ s.1 b = .inr (3, [.ref da, .ref ra, .ref (b + 1), .ref (b + 3)]) ∧ s.1 (b + 1) = .inr (0, [.ref (b + 2)]) ∧ s.1 (b + 2) = .inl (3, 10, .inr (.inl (z64 (fun _ => 0)))) ∧ s.1 (b + 3) = .inr (0, [.ref (b + 4)]) ∧ s.1 (b + 4) = .inl (3, 10, .inr (.inl (z64 (fun _ => 0)))))) := by
  refine zMet_of (ls := [some (.ref b), some (.ref da), some (.ref ra)]) rfl (by decide +kernel) rfl (fun _ => rfl) hX (Nat.le_of_ble_eq_true rfl) rfl ?_
  have hB : ∀ q, q < b → σ.1 q = σ.1 q := fun q _ => rfl
  refine zr_aload_n dX5_init_0 rfl ?_
  refine zr_objInit dX5_init_1 oX5_3 (by decide) (by decide) ?_
  refine zr_aload_n dX5_init_4 rfl ?_
  refine zr_new dX5_init_5 nX5_9 hh (by omega) (by omega) ?_
  refine zr_sig (fun ks1 e_ks1 => ?_)
  have kh2 : ks1.1 b = .inr (3, [.null, .null, .null, .null]) := by rw [e_ks1, zup_ne _ _ (by omega)]; exact h0
  have kh3 : ks1.1 (b + 1) = .inr (0, [.null]) := by rw [e_ks1]; exact zup_at _ _ _
  have kH4 : ks1.2 = some (b + 2) := by rw [e_ks1]; rfl
  have kB5 : ∀ q, q < b → ks1.1 q = σ.1 q := fun q hq => by rw [e_ks1]; exact (zup_ne _ _ (by omega)).trans (hB q hq)
  refine zr_dup dX5_init_8 rfl ?_
  refine zr_callIv [.ref ((b + 1)), .ref b] dX5_init_9 vX5_11 (qX2_init hX  kh3 kH4) (by decide) (by omega) (by omega) rfl rfl (Nat.le_of_ble_eq_true rfl) rfl (fun s_5 h_ => ?_)
  obtain ⟨⟨kH9, kB10⟩, kh7, kh8⟩ := h_
  have kh11 : s_5.1 b = .inr (3, [.null, .null, .null, .null]) := (kB10 _ (by omega)).trans kh2
  have kH12 : s_5.2 = some (b + 3) := by rw [kH9]
  have kB13 : ∀ q, q < b → s_5.1 q = σ.1 q := fun q hq => (kB10 q (by omega)).trans (kB5 q hq)
  refine zr_putfinal (fs' := [.null, .null, .ref ((b + 1)), .null]) dX5_init_12 rfl pX5_12 kh11 (by decide) rfl rfl (Nat.le_of_ble_eq_true rfl) rfl ?_
  refine zr_sig (fun ks14 e_ks14 => ?_)
  have kh15 : ks14.1 b = .inr (3, [.null, .null, .ref ((b + 1)), .null]) := by rw [e_ks14]; exact zup_at _ _ _
  have kh16 : ks14.1 (b + 1) = .inr (0, [.ref ((b + 2))]) := by rw [e_ks14, zup_ne _ _ (by omega)]; exact kh7
  have kh17 : ks14.1 (b + 2) = .inl (3, 10, .inr (.inl (z64 (fun _ => 0)))) := by rw [e_ks14, zup_ne _ _ (by omega)]; exact kh8
  have kH18 : ks14.2 = some (b + 3) := by rw [e_ks14]; exact kH12
  have kB19 : ∀ q, q < b → ks14.1 q = σ.1 q := fun q hq => by rw [e_ks14]; exact (zup_ne _ _ (by omega)).trans (kB13 q hq)
  refine zr_aload_n dX5_init_15 rfl ?_
  refine zr_new dX5_init_16 nX5_9 kH18 (by omega) (by omega) ?_
  refine zr_sig (fun ks20 e_ks20 => ?_)
  have kh21 : ks20.1 b = .inr (3, [.null, .null, .ref ((b + 1)), .null]) := by rw [e_ks20, zup_ne _ _ (by omega)]; exact kh15
  have kh22 : ks20.1 (b + 1) = .inr (0, [.ref ((b + 2))]) := by rw [e_ks20, zup_ne _ _ (by omega)]; exact kh16
  have kh23 : ks20.1 (b + 2) = .inl (3, 10, .inr (.inl (z64 (fun _ => 0)))) := by rw [e_ks20, zup_ne _ _ (by omega)]; exact kh17
  have kh24 : ks20.1 (b + 3) = .inr (0, [.null]) := by rw [e_ks20]; exact zup_at _ _ _
  have kH25 : ks20.2 = some (b + 4) := by rw [e_ks20]; rfl
  have kB26 : ∀ q, q < b → ks20.1 q = σ.1 q := fun q hq => by rw [e_ks20]; exact (zup_ne _ _ (by omega)).trans (kB19 q hq)
  refine zr_dup dX5_init_19 rfl ?_
  refine zr_callIv [.ref ((b + 3)), .ref b] dX5_init_20 vX5_11 (qX2_init hX  kh24 kH25) (by decide) (by omega) (by omega) rfl rfl (Nat.le_of_ble_eq_true rfl) rfl (fun s_26 h_ => ?_)
  obtain ⟨⟨kH30, kB31⟩, kh28, kh29⟩ := h_
  have kh32 : s_26.1 b = .inr (3, [.null, .null, .ref ((b + 1)), .null]) := (kB31 _ (by omega)).trans kh21
  have kh33 : s_26.1 (b + 1) = .inr (0, [.ref ((b + 2))]) := (kB31 _ (by omega)).trans kh22
  have kh34 : s_26.1 (b + 2) = .inl (3, 10, .inr (.inl (z64 (fun _ => 0)))) := (kB31 _ (by omega)).trans kh23
  have kH35 : s_26.2 = some (b + 5) := by rw [kH30]
  have kB36 : ∀ q, q < b → s_26.1 q = σ.1 q := fun q hq => (kB31 q (by omega)).trans (kB26 q hq)
  refine zr_putfinal (fs' := [.null, .null, .ref ((b + 1)), .ref ((b + 3))]) dX5_init_23 rfl pX5_18 kh32 (by decide) rfl rfl (Nat.le_of_ble_eq_true rfl) rfl ?_
  refine zr_sig (fun ks37 e_ks37 => ?_)
  have kh38 : ks37.1 b = .inr (3, [.null, .null, .ref ((b + 1)), .ref ((b + 3))]) := by rw [e_ks37]; exact zup_at _ _ _
  have kh39 : ks37.1 (b + 1) = .inr (0, [.ref ((b + 2))]) := by rw [e_ks37, zup_ne _ _ (by omega)]; exact kh33
  have kh40 : ks37.1 (b + 2) = .inl (3, 10, .inr (.inl (z64 (fun _ => 0)))) := by rw [e_ks37, zup_ne _ _ (by omega)]; exact kh34
  have kh41 : ks37.1 (b + 3) = .inr (0, [.ref ((b + 4))]) := by rw [e_ks37, zup_ne _ _ (by omega)]; exact kh28
  have kh42 : ks37.1 (b + 4) = .inl (3, 10, .inr (.inl (z64 (fun _ => 0)))) := by rw [e_ks37, zup_ne _ _ (by omega)]; exact kh29
  have kH43 : ks37.2 = some (b + 5) := by rw [e_ks37]; exact kH35
  have kB44 : ∀ q, q < b → ks37.1 q = σ.1 q := fun q hq => by rw [e_ks37]; exact (zup_ne _ _ (by omega)).trans (kB36 q hq)
  refine zr_aload_n dX5_init_26 rfl ?_
  refine zr_aload_n dX5_init_27 rfl ?_
  refine zr_putfinal (fs' := [.ref da, .null, .ref ((b + 1)), .ref ((b + 3))]) dX5_init_28 rfl pX5_21 kh38 (by decide) rfl rfl (Nat.le_of_ble_eq_true rfl) rfl ?_
  refine zr_sig (fun ks45 e_ks45 => ?_)
  have kh46 : ks45.1 b = .inr (3, [.ref da, .null, .ref ((b + 1)), .ref ((b + 3))]) := by rw [e_ks45]; exact zup_at _ _ _
  have kh47 : ks45.1 (b + 1) = .inr (0, [.ref ((b + 2))]) := by rw [e_ks45, zup_ne _ _ (by omega)]; exact kh39
  have kh48 : ks45.1 (b + 2) = .inl (3, 10, .inr (.inl (z64 (fun _ => 0)))) := by rw [e_ks45, zup_ne _ _ (by omega)]; exact kh40
  have kh49 : ks45.1 (b + 3) = .inr (0, [.ref ((b + 4))]) := by rw [e_ks45, zup_ne _ _ (by omega)]; exact kh41
  have kh50 : ks45.1 (b + 4) = .inl (3, 10, .inr (.inl (z64 (fun _ => 0)))) := by rw [e_ks45, zup_ne _ _ (by omega)]; exact kh42
  have kH51 : ks45.2 = some (b + 5) := by rw [e_ks45]; exact kH43
  have kB52 : ∀ q, q < b → ks45.1 q = σ.1 q := fun q hq => by rw [e_ks45]; exact (zup_ne _ _ (by omega)).trans (kB44 q hq)
  refine zr_aload_n dX5_init_31 rfl ?_
  refine zr_aload_n dX5_init_32 rfl ?_
  refine zr_putfinal (fs' := [.ref da, .ref ra, .ref ((b + 1)), .ref ((b + 3))]) dX5_init_33 rfl pX5_25 kh46 (by decide) rfl rfl (Nat.le_of_ble_eq_true rfl) rfl ?_
  refine zr_sig (fun ks53 e_ks53 => ?_)
  have kh54 : ks53.1 b = .inr (3, [.ref da, .ref ra, .ref ((b + 1)), .ref ((b + 3))]) := by rw [e_ks53]; exact zup_at _ _ _
  have kh55 : ks53.1 (b + 1) = .inr (0, [.ref ((b + 2))]) := by rw [e_ks53, zup_ne _ _ (by omega)]; exact kh47
  have kh56 : ks53.1 (b + 2) = .inl (3, 10, .inr (.inl (z64 (fun _ => 0)))) := by rw [e_ks53, zup_ne _ _ (by omega)]; exact kh48
  have kh57 : ks53.1 (b + 3) = .inr (0, [.ref ((b + 4))]) := by rw [e_ks53, zup_ne _ _ (by omega)]; exact kh49
  have kh58 : ks53.1 (b + 4) = .inl (3, 10, .inr (.inl (z64 (fun _ => 0)))) := by rw [e_ks53, zup_ne _ _ (by omega)]; exact kh50
  have kH59 : ks53.2 = some (b + 5) := by rw [e_ks53]; exact kH51
  have kB60 : ∀ q, q < b → ks53.1 q = σ.1 q := fun q hq => by rw [e_ks53]; exact (zup_ne _ _ (by omega)).trans (kB52 q hq)
  exact zr_return dX5_init_36 rfl (⟨rfl, ⟨kH59, kB60⟩, kh54, kh55, kh56, kh57, kh58⟩)

set_option maxHeartbeats 400000 in
set_option maxRecDepth 100000 in
theorem qX9_init {X : zX} (hX : X.1.stackTraces = false) {σ : zS} {b : Nat}  (h0 : σ.1 b = .inr (7, [.null, .null, .null, .null, .null, .null, .null, .null, .null, .int 0, .int 0, .int 0, .int 0, .int 0, .int 0])) (hh : σ.2 = some (b + 1))  : zMet X mX9_init yX9_init 4 260 3458 [.ref b] σ (zV (fun s => zNw b σ s 261 ∧ ∀ U T ln, zKt b zE0 zE0 0 U 0 T 0 ln 0 (-1) 0 0 0 s)) := by
  refine zMet_of (ls := [some (.ref b)]) rfl (by decide +kernel) rfl (fun _ => rfl) hX (Nat.le_of_ble_eq_true rfl) rfl ?_
  have hB : ∀ q, q < b → σ.1 q = σ.1 q := fun q _ => rfl
  refine zr_aload_n dX9_init_0 rfl ?_
  refine zr_objInit dX9_init_1 oX9_3 (by decide) (by decide) ?_
  refine zr_aload_n dX9_init_4 rfl ?_
  refine zr_new dX9_init_5 nX9_9 hh (by omega) (by omega) ?_
  refine zr_sig (fun ks1 e_ks1 => ?_)
  have kh2 : ks1.1 b = .inr (7, [.null, .null, .null, .null, .null, .null, .null, .null, .null, .int 0, .int 0, .int 0, .int 0, .int 0, .int 0]) := by rw [e_ks1, zup_ne _ _ (by omega)]; exact h0
  have kh3 : ks1.1 (b + 1) = .inr (1, [.null, .null, .null, .null, .null, .int 0, .int 0]) := by rw [e_ks1]; exact zup_at _ _ _
  have kH4 : ks1.2 = some (b + 2) := by rw [e_ks1]; rfl
  have kB5 : ∀ q, q < b → ks1.1 q = σ.1 q := fun q hq => by rw [e_ks1]; exact (zup_ne _ _ (by omega)).trans (hB q hq)
  refine zr_dup dX9_init_8 rfl ?_
  refine zr_callIv [.ref ((b + 1)), .ref b] dX9_init_9 vX9_11 (qX3_init hX  kh3 kH4) (by decide) (by omega) (by omega) rfl rfl (Nat.le_of_ble_eq_true rfl) rfl (fun s_5 h_ => ?_)
  obtain ⟨⟨kH8, kB9⟩, kR7⟩ := h_
  have kh10 : s_5.1 b = .inr (7, [.null, .null, .null, .null, .null, .null, .null, .null, .null, .int 0, .int 0, .int 0, .int 0, .int 0, .int 0]) := (kB9 _ (by omega)).trans kh2
  have kH11 : s_5.2 = some (b + 23) := by rw [kH8]
  have kB12 : ∀ q, q < b → s_5.1 q = σ.1 q := fun q hq => (kB9 q (by omega)).trans (kB5 q hq)
  refine zr_putfinal (fs' := [.ref ((b + 1)), .null, .null, .null, .null, .null, .null, .null, .null, .int 0, .int 0, .int 0, .int 0, .int 0, .int 0]) dX9_init_12 rfl pX9_12 kh10 (by decide) rfl rfl (Nat.le_of_ble_eq_true rfl) rfl ?_
  refine zr_sig (fun ks13 e_ks13 => ?_)
  have kh14 : ks13.1 b = .inr (7, [.ref ((b + 1)), .null, .null, .null, .null, .null, .null, .null, .null, .int 0, .int 0, .int 0, .int 0, .int 0, .int 0]) := by rw [e_ks13]; exact zup_at _ _ _
  have kR15 : zDA (b + 1) zE0 ks13 := zDA.fr kR7 (zFr.put (P := fun q => q = b) zFr.rf e_ks13 rfl) (by intro q h1 h2 h3; (try simp only [zIn, zJf] at h3); omega)
  have kH16 : ks13.2 = some (b + 23) := by rw [e_ks13]; exact kH11
  have kB17 : ∀ q, q < b → ks13.1 q = σ.1 q := fun q hq => by rw [e_ks13]; exact (zup_ne _ _ (by omega)).trans (kB12 q hq)
  refine zr_aload_n dX9_init_15 rfl ?_
  refine zr_new dX9_init_16 nX9_9 kH16 (by omega) (by omega) ?_
  refine zr_sig (fun ks18 e_ks18 => ?_)
  have kh19 : ks18.1 b = .inr (7, [.ref ((b + 1)), .null, .null, .null, .null, .null, .null, .null, .null, .int 0, .int 0, .int 0, .int 0, .int 0, .int 0]) := by rw [e_ks18, zup_ne _ _ (by omega)]; exact kh14
  have kh20 : ks18.1 (b + 23) = .inr (1, [.null, .null, .null, .null, .null, .int 0, .int 0]) := by rw [e_ks18]; exact zup_at _ _ _
  have kR21 : zDA (b + 1) zE0 ks18 := zDA.fr (σ := (ks13.1, none)) (s := (ks18.1, none)) (P := fun q => q = b + 23) kR15 ⟨rfl, fun q hq => by show ks18.1 q = ks13.1 q; rw [e_ks18, zup_ne _ _ hq]⟩ (by intro q h1 h2 h3; omega)
  have kH22 : ks18.2 = some (b + 24) := by rw [e_ks18]; rfl
  have kB23 : ∀ q, q < b → ks18.1 q = σ.1 q := fun q hq => by rw [e_ks18]; exact (zup_ne _ _ (by omega)).trans (kB17 q hq)
  refine zr_dup dX9_init_19 rfl ?_
  refine zr_callIv [.ref ((b + 23)), .ref b] dX9_init_20 vX9_11 (qX3_init hX  kh20 kH22) (by decide) (by omega) (by omega) rfl rfl (Nat.le_of_ble_eq_true rfl) rfl (fun s_23 h_ => ?_)
  obtain ⟨⟨kH26, kB27⟩, kR25⟩ := h_
  have kh28 : s_23.1 b = .inr (7, [.ref ((b + 1)), .null, .null, .null, .null, .null, .null, .null, .null, .int 0, .int 0, .int 0, .int 0, .int 0, .int 0]) := (kB27 _ (by omega)).trans kh19
  have kR29 : zDA (b + 1) zE0 s_23 := zDA.fr (σ := (ks18.1, none)) (s := (s_23.1, none)) (P := fun q => b + 23 ≤ q) kR21 ⟨rfl, fun q hq => kB27 q (Nat.not_le.mp hq)⟩ (by intro q h1 h2 (h3 : b + 23 ≤ q); omega)
  have kH30 : s_23.2 = some (b + 45) := by rw [kH26]
  have kB31 : ∀ q, q < b → s_23.1 q = σ.1 q := fun q hq => (kB27 q (by omega)).trans (kB23 q hq)
  refine zr_putfinal (fs' := [.ref ((b + 1)), .ref ((b + 23)), .null, .null, .null, .null, .null, .null, .null, .int 0, .int 0, .int 0, .int 0, .int 0, .int 0]) dX9_init_23 rfl pX9_16 kh28 (by decide) rfl rfl (Nat.le_of_ble_eq_true rfl) rfl ?_
  refine zr_sig (fun ks32 e_ks32 => ?_)
  have kh33 : ks32.1 b = .inr (7, [.ref ((b + 1)), .ref ((b + 23)), .null, .null, .null, .null, .null, .null, .null, .int 0, .int 0, .int 0, .int 0, .int 0, .int 0]) := by rw [e_ks32]; exact zup_at _ _ _
  have kR34 : zDA (b + 1) zE0 ks32 := zDA.fr kR29 (zFr.put (P := fun q => q = b) zFr.rf e_ks32 rfl) (by intro q h1 h2 h3; (try simp only [zIn, zJf] at h3); omega)
  have kR35 : zDA (b + 23) zE0 ks32 := zDA.fr kR25 (zFr.put (P := fun q => q = b) zFr.rf e_ks32 rfl) (by intro q h1 h2 h3; (try simp only [zIn, zJf] at h3); omega)
  have kH36 : ks32.2 = some (b + 45) := by rw [e_ks32]; exact kH30
  have kB37 : ∀ q, q < b → ks32.1 q = σ.1 q := fun q hq => by rw [e_ks32]; exact (zup_ne _ _ (by omega)).trans (kB31 q hq)
  refine zr_aload_n dX9_init_26 rfl ?_
  refine zr_new dX9_init_27 nX9_9 kH36 (by omega) (by omega) ?_
  refine zr_sig (fun ks38 e_ks38 => ?_)
  have kh39 : ks38.1 b = .inr (7, [.ref ((b + 1)), .ref ((b + 23)), .null, .null, .null, .null, .null, .null, .null, .int 0, .int 0, .int 0, .int 0, .int 0, .int 0]) := by rw [e_ks38, zup_ne _ _ (by omega)]; exact kh33
  have kh40 : ks38.1 (b + 45) = .inr (1, [.null, .null, .null, .null, .null, .int 0, .int 0]) := by rw [e_ks38]; exact zup_at _ _ _
  have kR41 : zDA (b + 1) zE0 ks38 := zDA.fr (σ := (ks32.1, none)) (s := (ks38.1, none)) (P := fun q => q = b + 45) kR34 ⟨rfl, fun q hq => by show ks38.1 q = ks32.1 q; rw [e_ks38, zup_ne _ _ hq]⟩ (by intro q h1 h2 h3; omega)
  have kR42 : zDA (b + 23) zE0 ks38 := zDA.fr (σ := (ks32.1, none)) (s := (ks38.1, none)) (P := fun q => q = b + 45) kR35 ⟨rfl, fun q hq => by show ks38.1 q = ks32.1 q; rw [e_ks38, zup_ne _ _ hq]⟩ (by intro q h1 h2 h3; omega)
  have kH43 : ks38.2 = some (b + 46) := by rw [e_ks38]; rfl
  have kB44 : ∀ q, q < b → ks38.1 q = σ.1 q := fun q hq => by rw [e_ks38]; exact (zup_ne _ _ (by omega)).trans (kB37 q hq)
  refine zr_dup dX9_init_30 rfl ?_
  refine zr_callIv [.ref ((b + 45)), .ref b] dX9_init_31 vX9_11 (qX3_init hX  kh40 kH43) (by decide) (by omega) (by omega) rfl rfl (Nat.le_of_ble_eq_true rfl) rfl (fun s_44 h_ => ?_)
  obtain ⟨⟨kH47, kB48⟩, kR46⟩ := h_
  have kh49 : s_44.1 b = .inr (7, [.ref ((b + 1)), .ref ((b + 23)), .null, .null, .null, .null, .null, .null, .null, .int 0, .int 0, .int 0, .int 0, .int 0, .int 0]) := (kB48 _ (by omega)).trans kh39
  have kR50 : zDA (b + 1) zE0 s_44 := zDA.fr (σ := (ks38.1, none)) (s := (s_44.1, none)) (P := fun q => b + 45 ≤ q) kR41 ⟨rfl, fun q hq => kB48 q (Nat.not_le.mp hq)⟩ (by intro q h1 h2 (h3 : b + 45 ≤ q); omega)
  have kR51 : zDA (b + 23) zE0 s_44 := zDA.fr (σ := (ks38.1, none)) (s := (s_44.1, none)) (P := fun q => b + 45 ≤ q) kR42 ⟨rfl, fun q hq => kB48 q (Nat.not_le.mp hq)⟩ (by intro q h1 h2 (h3 : b + 45 ≤ q); omega)
  have kH52 : s_44.2 = some (b + 67) := by rw [kH47]
  have kB53 : ∀ q, q < b → s_44.1 q = σ.1 q := fun q hq => (kB48 q (by omega)).trans (kB44 q hq)
  refine zr_putfinal (fs' := [.ref ((b + 1)), .ref ((b + 23)), .ref ((b + 45)), .null, .null, .null, .null, .null, .null, .int 0, .int 0, .int 0, .int 0, .int 0, .int 0]) dX9_init_34 rfl pX9_19 kh49 (by decide) rfl rfl (Nat.le_of_ble_eq_true rfl) rfl ?_
  refine zr_sig (fun ks54 e_ks54 => ?_)
  have kh55 : ks54.1 b = .inr (7, [.ref ((b + 1)), .ref ((b + 23)), .ref ((b + 45)), .null, .null, .null, .null, .null, .null, .int 0, .int 0, .int 0, .int 0, .int 0, .int 0]) := by rw [e_ks54]; exact zup_at _ _ _
  have kR56 : zDA (b + 1) zE0 ks54 := zDA.fr kR50 (zFr.put (P := fun q => q = b) zFr.rf e_ks54 rfl) (by intro q h1 h2 h3; (try simp only [zIn, zJf] at h3); omega)
  have kR57 : zDA (b + 23) zE0 ks54 := zDA.fr kR51 (zFr.put (P := fun q => q = b) zFr.rf e_ks54 rfl) (by intro q h1 h2 h3; (try simp only [zIn, zJf] at h3); omega)
  have kR58 : zDA (b + 45) zE0 ks54 := zDA.fr kR46 (zFr.put (P := fun q => q = b) zFr.rf e_ks54 rfl) (by intro q h1 h2 h3; (try simp only [zIn, zJf] at h3); omega)
  have kH59 : ks54.2 = some (b + 67) := by rw [e_ks54]; exact kH52
  have kB60 : ∀ q, q < b → ks54.1 q = σ.1 q := fun q hq => by rw [e_ks54]; exact (zup_ne _ _ (by omega)).trans (kB53 q hq)
  refine zr_aload_n dX9_init_37 rfl ?_
  refine zr_new dX9_init_38 nX9_22 kH59 (by omega) (by omega) ?_
  refine zr_sig (fun ks61 e_ks61 => ?_)
  have kh62 : ks61.1 b = .inr (7, [.ref ((b + 1)), .ref ((b + 23)), .ref ((b + 45)), .null, .null, .null, .null, .null, .null, .int 0, .int 0, .int 0, .int 0, .int 0, .int 0]) := by rw [e_ks61, zup_ne _ _ (by omega)]; exact kh55
  have kh63 : ks61.1 (b + 67) = .inr (2, [.null, .int 0, .int 0]) := by rw [e_ks61]; exact zup_at _ _ _
  have kR64 : zDA (b + 1) zE0 ks61 := zDA.fr (σ := (ks54.1, none)) (s := (ks61.1, none)) (P := fun q => q = b + 67) kR56 ⟨rfl, fun q hq => by show ks61.1 q = ks54.1 q; rw [e_ks61, zup_ne _ _ hq]⟩ (by intro q h1 h2 h3; omega)
  have kR65 : zDA (b + 23) zE0 ks61 := zDA.fr (σ := (ks54.1, none)) (s := (ks61.1, none)) (P := fun q => q = b + 67) kR57 ⟨rfl, fun q hq => by show ks61.1 q = ks54.1 q; rw [e_ks61, zup_ne _ _ hq]⟩ (by intro q h1 h2 h3; omega)
  have kR66 : zDA (b + 45) zE0 ks61 := zDA.fr (σ := (ks54.1, none)) (s := (ks61.1, none)) (P := fun q => q = b + 67) kR58 ⟨rfl, fun q hq => by show ks61.1 q = ks54.1 q; rw [e_ks61, zup_ne _ _ hq]⟩ (by intro q h1 h2 h3; omega)
  have kH67 : ks61.2 = some (b + 68) := by rw [e_ks61]; rfl
  have kB68 : ∀ q, q < b → ks61.1 q = σ.1 q := fun q hq => by rw [e_ks61]; exact (zup_ne _ _ (by omega)).trans (kB60 q hq)
  refine zr_dup dX9_init_41 rfl ?_
  refine zr_callIv [.ref ((b + 67)), .ref b] dX9_init_42 vX9_24 (qC4_init hX  kh63 kH67) (by decide) (by omega) (by omega) rfl rfl (Nat.le_of_ble_eq_true rfl) rfl (fun s_68 h_ => ?_)
  obtain ⟨⟨kH71, kB72⟩, kR70⟩ := h_
  have kh73 : s_68.1 b = .inr (7, [.ref ((b + 1)), .ref ((b + 23)), .ref ((b + 45)), .null, .null, .null, .null, .null, .null, .int 0, .int 0, .int 0, .int 0, .int 0, .int 0]) := (kB72 _ (by omega)).trans kh62
  have kR74 : zDA (b + 1) zE0 s_68 := zDA.fr (σ := (ks61.1, none)) (s := (s_68.1, none)) (P := fun q => b + 67 ≤ q) kR64 ⟨rfl, fun q hq => kB72 q (Nat.not_le.mp hq)⟩ (by intro q h1 h2 (h3 : b + 67 ≤ q); omega)
  have kR75 : zDA (b + 23) zE0 s_68 := zDA.fr (σ := (ks61.1, none)) (s := (s_68.1, none)) (P := fun q => b + 67 ≤ q) kR65 ⟨rfl, fun q hq => kB72 q (Nat.not_le.mp hq)⟩ (by intro q h1 h2 (h3 : b + 67 ≤ q); omega)
  have kR76 : zDA (b + 45) zE0 s_68 := zDA.fr (σ := (ks61.1, none)) (s := (s_68.1, none)) (P := fun q => b + 67 ≤ q) kR66 ⟨rfl, fun q hq => kB72 q (Nat.not_le.mp hq)⟩ (by intro q h1 h2 (h3 : b + 67 ≤ q); omega)
  have kH77 : s_68.2 = some (b + 245) := by rw [kH71]
  have kB78 : ∀ q, q < b → s_68.1 q = σ.1 q := fun q hq => (kB72 q (by omega)).trans (kB68 q hq)
  refine zr_putfinal (fs' := [.ref ((b + 1)), .ref ((b + 23)), .ref ((b + 45)), .ref ((b + 67)), .null, .null, .null, .null, .null, .int 0, .int 0, .int 0, .int 0, .int 0, .int 0]) dX9_init_45 rfl pX9_25 kh73 (by decide) rfl rfl (Nat.le_of_ble_eq_true rfl) rfl ?_
  refine zr_sig (fun ks79 e_ks79 => ?_)
  have kh80 : ks79.1 b = .inr (7, [.ref ((b + 1)), .ref ((b + 23)), .ref ((b + 45)), .ref ((b + 67)), .null, .null, .null, .null, .null, .int 0, .int 0, .int 0, .int 0, .int 0, .int 0]) := by rw [e_ks79]; exact zup_at _ _ _
  have kR81 : zDA (b + 1) zE0 ks79 := zDA.fr kR74 (zFr.put (P := fun q => q = b) zFr.rf e_ks79 rfl) (by intro q h1 h2 h3; (try simp only [zIn, zJf] at h3); omega)
  have kR82 : zDA (b + 23) zE0 ks79 := zDA.fr kR75 (zFr.put (P := fun q => q = b) zFr.rf e_ks79 rfl) (by intro q h1 h2 h3; (try simp only [zIn, zJf] at h3); omega)
  have kR83 : zDA (b + 45) zE0 ks79 := zDA.fr kR76 (zFr.put (P := fun q => q = b) zFr.rf e_ks79 rfl) (by intro q h1 h2 h3; (try simp only [zIn, zJf] at h3); omega)
  have kR84 : zHi0 (b + 67) ks79 := zHi0.fr kR70 (zFr.put (P := fun q => q = b) zFr.rf e_ks79 rfl) (by intro q h1 h2 h3; (try simp only [zIn, zJf] at h3); omega)
  have kH85 : ks79.2 = some (b + 245) := by rw [e_ks79]; exact kH77
  have kB86 : ∀ q, q < b → ks79.1 q = σ.1 q := fun q hq => by rw [e_ks79]; exact (zup_ne _ _ (by omega)).trans (kB78 q hq)
  refine zr_aload_n dX9_init_48 rfl ?_
  refine zr_new dX9_init_49 nX9_29 kH85 (by omega) (by omega) ?_
  refine zr_sig (fun ks87 e_ks87 => ?_)
  have kh88 : ks87.1 b = .inr (7, [.ref ((b + 1)), .ref ((b + 23)), .ref ((b + 45)), .ref ((b + 67)), .null, .null, .null, .null, .null, .int 0, .int 0, .int 0, .int 0, .int 0, .int 0]) := by rw [e_ks87, zup_ne _ _ (by omega)]; exact kh80
  have kh89 : ks87.1 (b + 245) = .inr (4, [.null, .null, .int 0, .int 0, .int 0, .int 0]) := by rw [e_ks87]; exact zup_at _ _ _
  have kR90 : zDA (b + 1) zE0 ks87 := zDA.fr (σ := (ks79.1, none)) (s := (ks87.1, none)) (P := fun q => q = b + 245) kR81 ⟨rfl, fun q hq => by show ks87.1 q = ks79.1 q; rw [e_ks87, zup_ne _ _ hq]⟩ (by intro q h1 h2 h3; omega)
  have kR91 : zDA (b + 23) zE0 ks87 := zDA.fr (σ := (ks79.1, none)) (s := (ks87.1, none)) (P := fun q => q = b + 245) kR82 ⟨rfl, fun q hq => by show ks87.1 q = ks79.1 q; rw [e_ks87, zup_ne _ _ hq]⟩ (by intro q h1 h2 h3; omega)
  have kR92 : zDA (b + 45) zE0 ks87 := zDA.fr (σ := (ks79.1, none)) (s := (ks87.1, none)) (P := fun q => q = b + 245) kR83 ⟨rfl, fun q hq => by show ks87.1 q = ks79.1 q; rw [e_ks87, zup_ne _ _ hq]⟩ (by intro q h1 h2 h3; omega)
  have kR93 : zHi0 (b + 67) ks87 := zHi0.fr (σ := (ks79.1, none)) (s := (ks87.1, none)) (P := fun q => q = b + 245) kR84 ⟨rfl, fun q hq => by show ks87.1 q = ks79.1 q; rw [e_ks87, zup_ne _ _ hq]⟩ (by intro q h1 h2 h3; omega)
  have kH94 : ks87.2 = some (b + 246) := by rw [e_ks87]; rfl
  have kB95 : ∀ q, q < b → ks87.1 q = σ.1 q := fun q hq => by rw [e_ks87]; exact (zup_ne _ _ (by omega)).trans (kB86 q hq)
  refine zr_dup dX9_init_52 rfl ?_
  refine zr_callIv [.ref ((b + 245)), .ref b] dX9_init_53 vX9_31 (qX6_init hX  kh89 kH94) (by decide) (by omega) (by omega) rfl rfl (Nat.le_of_ble_eq_true rfl) rfl (fun s_95 h_ => ?_)
  obtain ⟨⟨kH100, kB101⟩, kh97, kh98, kh99⟩ := h_
  have kh102 : s_95.1 b = .inr (7, [.ref ((b + 1)), .ref ((b + 23)), .ref ((b + 45)), .ref ((b + 67)), .null, .null, .null, .null, .null, .int 0, .int 0, .int 0, .int 0, .int 0, .int 0]) := (kB101 _ (by omega)).trans kh88
  have kR103 : zDA (b + 1) zE0 s_95 := zDA.fr (σ := (ks87.1, none)) (s := (s_95.1, none)) (P := fun q => b + 245 ≤ q) kR90 ⟨rfl, fun q hq => kB101 q (Nat.not_le.mp hq)⟩ (by intro q h1 h2 (h3 : b + 245 ≤ q); omega)
  have kR104 : zDA (b + 23) zE0 s_95 := zDA.fr (σ := (ks87.1, none)) (s := (s_95.1, none)) (P := fun q => b + 245 ≤ q) kR91 ⟨rfl, fun q hq => kB101 q (Nat.not_le.mp hq)⟩ (by intro q h1 h2 (h3 : b + 245 ≤ q); omega)
  have kR105 : zDA (b + 45) zE0 s_95 := zDA.fr (σ := (ks87.1, none)) (s := (s_95.1, none)) (P := fun q => b + 245 ≤ q) kR92 ⟨rfl, fun q hq => kB101 q (Nat.not_le.mp hq)⟩ (by intro q h1 h2 (h3 : b + 245 ≤ q); omega)
  have kR106 : zHi0 (b + 67) s_95 := zHi0.fr (σ := (ks87.1, none)) (s := (s_95.1, none)) (P := fun q => b + 245 ≤ q) kR93 ⟨rfl, fun q hq => kB101 q (Nat.not_le.mp hq)⟩ (by intro q h1 h2 (h3 : b + 245 ≤ q); omega)
  have kH107 : s_95.2 = some (b + 248) := by rw [kH100]
  have kB108 : ∀ q, q < b → s_95.1 q = σ.1 q := fun q hq => (kB101 q (by omega)).trans (kB95 q hq)
  refine zr_putfinal (fs' := [.ref ((b + 1)), .ref ((b + 23)), .ref ((b + 45)), .ref ((b + 67)), .ref ((b + 245)), .null, .null, .null, .null, .int 0, .int 0, .int 0, .int 0, .int 0, .int 0]) dX9_init_56 rfl pX9_32 kh102 (by decide) rfl rfl (Nat.le_of_ble_eq_true rfl) rfl ?_
  refine zr_sig (fun ks109 e_ks109 => ?_)
  have kh110 : ks109.1 b = .inr (7, [.ref ((b + 1)), .ref ((b + 23)), .ref ((b + 45)), .ref ((b + 67)), .ref ((b + 245)), .null, .null, .null, .null, .int 0, .int 0, .int 0, .int 0, .int 0, .int 0]) := by rw [e_ks109]; exact zup_at _ _ _
  have kh111 : ks109.1 (b + 245) = .inr (4, [.ref ((b + 246)), .ref ((b + 247)), .int 0, .int 0, .int 0, .int 0]) := by rw [e_ks109, zup_ne _ _ (by omega)]; exact kh97
  have kh112 : ks109.1 (b + 246) = .inl (0, 400, .inl (fun _ => 0)) := by rw [e_ks109, zup_ne _ _ (by omega)]; exact kh98
  have kh113 : ks109.1 (b + 247) = .inl (0, 400, .inl (fun _ => 0)) := by rw [e_ks109, zup_ne _ _ (by omega)]; exact kh99
  have kR114 : zDA (b + 1) zE0 ks109 := zDA.fr kR103 (zFr.put (P := fun q => q = b) zFr.rf e_ks109 rfl) (by intro q h1 h2 h3; (try simp only [zIn, zJf] at h3); omega)
  have kR115 : zDA (b + 23) zE0 ks109 := zDA.fr kR104 (zFr.put (P := fun q => q = b) zFr.rf e_ks109 rfl) (by intro q h1 h2 h3; (try simp only [zIn, zJf] at h3); omega)
  have kR116 : zDA (b + 45) zE0 ks109 := zDA.fr kR105 (zFr.put (P := fun q => q = b) zFr.rf e_ks109 rfl) (by intro q h1 h2 h3; (try simp only [zIn, zJf] at h3); omega)
  have kR117 : zHi0 (b + 67) ks109 := zHi0.fr kR106 (zFr.put (P := fun q => q = b) zFr.rf e_ks109 rfl) (by intro q h1 h2 h3; (try simp only [zIn, zJf] at h3); omega)
  have kH118 : ks109.2 = some (b + 248) := by rw [e_ks109]; exact kH107
  have kB119 : ∀ q, q < b → ks109.1 q = σ.1 q := fun q hq => by rw [e_ks109]; exact (zup_ne _ _ (by omega)).trans (kB108 q hq)
  refine zr_aload_n dX9_init_59 rfl ?_
  refine zr_new dX9_init_60 nX9_36 kH118 (by omega) (by omega) ?_
  refine zr_sig (fun ks120 e_ks120 => ?_)
  have kh121 : ks120.1 b = .inr (7, [.ref ((b + 1)), .ref ((b + 23)), .ref ((b + 45)), .ref ((b + 67)), .ref ((b + 245)), .null, .null, .null, .null, .int 0, .int 0, .int 0, .int 0, .int 0, .int 0]) := by rw [e_ks120, zup_ne _ _ (by omega)]; exact kh110
  have kh122 : ks120.1 (b + 245) = .inr (4, [.ref ((b + 246)), .ref ((b + 247)), .int 0, .int 0, .int 0, .int 0]) := by rw [e_ks120, zup_ne _ _ (by omega)]; exact kh111
  have kh123 : ks120.1 (b + 246) = .inl (0, 400, .inl (fun _ => 0)) := by rw [e_ks120, zup_ne _ _ (by omega)]; exact kh112
  have kh124 : ks120.1 (b + 247) = .inl (0, 400, .inl (fun _ => 0)) := by rw [e_ks120, zup_ne _ _ (by omega)]; exact kh113
  have kh125 : ks120.1 (b + 248) = .inr (0, [.null]) := by rw [e_ks120]; exact zup_at _ _ _
  have kR126 : zDA (b + 1) zE0 ks120 := zDA.fr (σ := (ks109.1, none)) (s := (ks120.1, none)) (P := fun q => q = b + 248) kR114 ⟨rfl, fun q hq => by show ks120.1 q = ks109.1 q; rw [e_ks120, zup_ne _ _ hq]⟩ (by intro q h1 h2 h3; omega)
  have kR127 : zDA (b + 23) zE0 ks120 := zDA.fr (σ := (ks109.1, none)) (s := (ks120.1, none)) (P := fun q => q = b + 248) kR115 ⟨rfl, fun q hq => by show ks120.1 q = ks109.1 q; rw [e_ks120, zup_ne _ _ hq]⟩ (by intro q h1 h2 h3; omega)
  have kR128 : zDA (b + 45) zE0 ks120 := zDA.fr (σ := (ks109.1, none)) (s := (ks120.1, none)) (P := fun q => q = b + 248) kR116 ⟨rfl, fun q hq => by show ks120.1 q = ks109.1 q; rw [e_ks120, zup_ne _ _ hq]⟩ (by intro q h1 h2 h3; omega)
  have kR129 : zHi0 (b + 67) ks120 := zHi0.fr (σ := (ks109.1, none)) (s := (ks120.1, none)) (P := fun q => q = b + 248) kR117 ⟨rfl, fun q hq => by show ks120.1 q = ks109.1 q; rw [e_ks120, zup_ne _ _ hq]⟩ (by intro q h1 h2 h3; omega)
  have kH130 : ks120.2 = some (b + 249) := by rw [e_ks120]; rfl
  have kB131 : ∀ q, q < b → ks120.1 q = σ.1 q := fun q hq => by rw [e_ks120]; exact (zup_ne _ _ (by omega)).trans (kB119 q hq)
  refine zr_dup dX9_init_63 rfl ?_
  refine zr_callIv [.ref ((b + 248)), .ref b] dX9_init_64 vX9_38 (qX2_init hX  kh125 kH130) (by decide) (by omega) (by omega) rfl rfl (Nat.le_of_ble_eq_true rfl) rfl (fun s_131 h_ => ?_)
  obtain ⟨⟨kH135, kB136⟩, kh133, kh134⟩ := h_
  have kh137 : s_131.1 b = .inr (7, [.ref ((b + 1)), .ref ((b + 23)), .ref ((b + 45)), .ref ((b + 67)), .ref ((b + 245)), .null, .null, .null, .null, .int 0, .int 0, .int 0, .int 0, .int 0, .int 0]) := (kB136 _ (by omega)).trans kh121
  have kh138 : s_131.1 (b + 245) = .inr (4, [.ref ((b + 246)), .ref ((b + 247)), .int 0, .int 0, .int 0, .int 0]) := (kB136 _ (by omega)).trans kh122
  have kh139 : s_131.1 (b + 246) = .inl (0, 400, .inl (fun _ => 0)) := (kB136 _ (by omega)).trans kh123
  have kh140 : s_131.1 (b + 247) = .inl (0, 400, .inl (fun _ => 0)) := (kB136 _ (by omega)).trans kh124
  have kR141 : zDA (b + 1) zE0 s_131 := zDA.fr (σ := (ks120.1, none)) (s := (s_131.1, none)) (P := fun q => b + 248 ≤ q) kR126 ⟨rfl, fun q hq => kB136 q (Nat.not_le.mp hq)⟩ (by intro q h1 h2 (h3 : b + 248 ≤ q); omega)
  have kR142 : zDA (b + 23) zE0 s_131 := zDA.fr (σ := (ks120.1, none)) (s := (s_131.1, none)) (P := fun q => b + 248 ≤ q) kR127 ⟨rfl, fun q hq => kB136 q (Nat.not_le.mp hq)⟩ (by intro q h1 h2 (h3 : b + 248 ≤ q); omega)
  have kR143 : zDA (b + 45) zE0 s_131 := zDA.fr (σ := (ks120.1, none)) (s := (s_131.1, none)) (P := fun q => b + 248 ≤ q) kR128 ⟨rfl, fun q hq => kB136 q (Nat.not_le.mp hq)⟩ (by intro q h1 h2 (h3 : b + 248 ≤ q); omega)
  have kR144 : zHi0 (b + 67) s_131 := zHi0.fr (σ := (ks120.1, none)) (s := (s_131.1, none)) (P := fun q => b + 248 ≤ q) kR129 ⟨rfl, fun q hq => kB136 q (Nat.not_le.mp hq)⟩ (by intro q h1 h2 (h3 : b + 248 ≤ q); omega)
  have kH145 : s_131.2 = some (b + 250) := by rw [kH135]
  have kB146 : ∀ q, q < b → s_131.1 q = σ.1 q := fun q hq => (kB136 q (by omega)).trans (kB131 q hq)
  refine zr_putfinal (fs' := [.ref ((b + 1)), .ref ((b + 23)), .ref ((b + 45)), .ref ((b + 67)), .ref ((b + 245)), .ref ((b + 248)), .null, .null, .null, .int 0, .int 0, .int 0, .int 0, .int 0, .int 0]) dX9_init_67 rfl pX9_39 kh137 (by decide) rfl rfl (Nat.le_of_ble_eq_true rfl) rfl ?_
  refine zr_sig (fun ks147 e_ks147 => ?_)
  have kh148 : ks147.1 b = .inr (7, [.ref ((b + 1)), .ref ((b + 23)), .ref ((b + 45)), .ref ((b + 67)), .ref ((b + 245)), .ref ((b + 248)), .null, .null, .null, .int 0, .int 0, .int 0, .int 0, .int 0, .int 0]) := by rw [e_ks147]; exact zup_at _ _ _
  have kh149 : ks147.1 (b + 245) = .inr (4, [.ref ((b + 246)), .ref ((b + 247)), .int 0, .int 0, .int 0, .int 0]) := by rw [e_ks147, zup_ne _ _ (by omega)]; exact kh138
  have kh150 : ks147.1 (b + 246) = .inl (0, 400, .inl (fun _ => 0)) := by rw [e_ks147, zup_ne _ _ (by omega)]; exact kh139
  have kh151 : ks147.1 (b + 247) = .inl (0, 400, .inl (fun _ => 0)) := by rw [e_ks147, zup_ne _ _ (by omega)]; exact kh140
  have kh152 : ks147.1 (b + 248) = .inr (0, [.ref ((b + 249))]) := by rw [e_ks147, zup_ne _ _ (by omega)]; exact kh133
  have kh153 : ks147.1 (b + 249) = .inl (3, 10, .inr (.inl (z64 (fun _ => 0)))) := by rw [e_ks147, zup_ne _ _ (by omega)]; exact kh134
  have kR154 : zDA (b + 1) zE0 ks147 := zDA.fr kR141 (zFr.put (P := fun q => q = b) zFr.rf e_ks147 rfl) (by intro q h1 h2 h3; (try simp only [zIn, zJf] at h3); omega)
  have kR155 : zDA (b + 23) zE0 ks147 := zDA.fr kR142 (zFr.put (P := fun q => q = b) zFr.rf e_ks147 rfl) (by intro q h1 h2 h3; (try simp only [zIn, zJf] at h3); omega)
  have kR156 : zDA (b + 45) zE0 ks147 := zDA.fr kR143 (zFr.put (P := fun q => q = b) zFr.rf e_ks147 rfl) (by intro q h1 h2 h3; (try simp only [zIn, zJf] at h3); omega)
  have kR157 : zHi0 (b + 67) ks147 := zHi0.fr kR144 (zFr.put (P := fun q => q = b) zFr.rf e_ks147 rfl) (by intro q h1 h2 h3; (try simp only [zIn, zJf] at h3); omega)
  have kH158 : ks147.2 = some (b + 250) := by rw [e_ks147]; exact kH145
  have kB159 : ∀ q, q < b → ks147.1 q = σ.1 q := fun q hq => by rw [e_ks147]; exact (zup_ne _ _ (by omega)).trans (kB146 q hq)
  refine zr_aload_n dX9_init_70 rfl ?_
  refine zr_new dX9_init_71 nX9_43 kH158 (by omega) (by omega) ?_
  refine zr_sig (fun ks160 e_ks160 => ?_)
  have kh161 : ks160.1 b = .inr (7, [.ref ((b + 1)), .ref ((b + 23)), .ref ((b + 45)), .ref ((b + 67)), .ref ((b + 245)), .ref ((b + 248)), .null, .null, .null, .int 0, .int 0, .int 0, .int 0, .int 0, .int 0]) := by rw [e_ks160, zup_ne _ _ (by omega)]; exact kh148
  have kh162 : ks160.1 (b + 245) = .inr (4, [.ref ((b + 246)), .ref ((b + 247)), .int 0, .int 0, .int 0, .int 0]) := by rw [e_ks160, zup_ne _ _ (by omega)]; exact kh149
  have kh163 : ks160.1 (b + 246) = .inl (0, 400, .inl (fun _ => 0)) := by rw [e_ks160, zup_ne _ _ (by omega)]; exact kh150
  have kh164 : ks160.1 (b + 247) = .inl (0, 400, .inl (fun _ => 0)) := by rw [e_ks160, zup_ne _ _ (by omega)]; exact kh151
  have kh165 : ks160.1 (b + 248) = .inr (0, [.ref ((b + 249))]) := by rw [e_ks160, zup_ne _ _ (by omega)]; exact kh152
  have kh166 : ks160.1 (b + 249) = .inl (3, 10, .inr (.inl (z64 (fun _ => 0)))) := by rw [e_ks160, zup_ne _ _ (by omega)]; exact kh153
  have kh167 : ks160.1 (b + 250) = .inr (3, [.null, .null, .null, .null]) := by rw [e_ks160]; exact zup_at _ _ _
  have kR168 : zDA (b + 1) zE0 ks160 := zDA.fr (σ := (ks147.1, none)) (s := (ks160.1, none)) (P := fun q => q = b + 250) kR154 ⟨rfl, fun q hq => by show ks160.1 q = ks147.1 q; rw [e_ks160, zup_ne _ _ hq]⟩ (by intro q h1 h2 h3; omega)
  have kR169 : zDA (b + 23) zE0 ks160 := zDA.fr (σ := (ks147.1, none)) (s := (ks160.1, none)) (P := fun q => q = b + 250) kR155 ⟨rfl, fun q hq => by show ks160.1 q = ks147.1 q; rw [e_ks160, zup_ne _ _ hq]⟩ (by intro q h1 h2 h3; omega)
  have kR170 : zDA (b + 45) zE0 ks160 := zDA.fr (σ := (ks147.1, none)) (s := (ks160.1, none)) (P := fun q => q = b + 250) kR156 ⟨rfl, fun q hq => by show ks160.1 q = ks147.1 q; rw [e_ks160, zup_ne _ _ hq]⟩ (by intro q h1 h2 h3; omega)
  have kR171 : zHi0 (b + 67) ks160 := zHi0.fr (σ := (ks147.1, none)) (s := (ks160.1, none)) (P := fun q => q = b + 250) kR157 ⟨rfl, fun q hq => by show ks160.1 q = ks147.1 q; rw [e_ks160, zup_ne _ _ hq]⟩ (by intro q h1 h2 h3; omega)
  have kH172 : ks160.2 = some (b + 251) := by rw [e_ks160]; rfl
  have kB173 : ∀ q, q < b → ks160.1 q = σ.1 q := fun q hq => by rw [e_ks160]; exact (zup_ne _ _ (by omega)).trans (kB159 q hq)
  refine zr_dup dX9_init_74 rfl ?_
  refine zr_aload_n dX9_init_75 rfl ?_
  refine zr_getfield dX9_init_76 fX9_12 kh161 rfl (by decide) ?_
  refine zr_aload_n dX9_init_79 rfl ?_
  refine zr_getfield dX9_init_80 fX9_32 kh161 rfl (by decide) ?_
  refine zr_callIv [.ref ((b + 250)), .ref b] dX9_init_83 vX9_45 (qX5_init hX (da := (b + 1)) (ra := (b + 245)) kh167 kH172) (by decide) (by omega) (by omega) rfl rfl (Nat.le_of_ble_eq_true rfl) rfl (fun s_173 h_ => ?_)
  obtain ⟨⟨kH180, kB181⟩, kh175, kh176, kh177, kh178, kh179⟩ := h_
  have kh182 : s_173.1 b = .inr (7, [.ref ((b + 1)), .ref ((b + 23)), .ref ((b + 45)), .ref ((b + 67)), .ref ((b + 245)), .ref ((b + 248)), .null, .null, .null, .int 0, .int 0, .int 0, .int 0, .int 0, .int 0]) := (kB181 _ (by omega)).trans kh161
  have kh183 : s_173.1 (b + 245) = .inr (4, [.ref ((b + 246)), .ref ((b + 247)), .int 0, .int 0, .int 0, .int 0]) := (kB181 _ (by omega)).trans kh162
  have kh184 : s_173.1 (b + 246) = .inl (0, 400, .inl (fun _ => 0)) := (kB181 _ (by omega)).trans kh163
  have kh185 : s_173.1 (b + 247) = .inl (0, 400, .inl (fun _ => 0)) := (kB181 _ (by omega)).trans kh164
  have kh186 : s_173.1 (b + 248) = .inr (0, [.ref ((b + 249))]) := (kB181 _ (by omega)).trans kh165
  have kh187 : s_173.1 (b + 249) = .inl (3, 10, .inr (.inl (z64 (fun _ => 0)))) := (kB181 _ (by omega)).trans kh166
  have kR188 : zDA (b + 1) zE0 s_173 := zDA.fr (σ := (ks160.1, none)) (s := (s_173.1, none)) (P := fun q => b + 250 ≤ q) kR168 ⟨rfl, fun q hq => kB181 q (Nat.not_le.mp hq)⟩ (by intro q h1 h2 (h3 : b + 250 ≤ q); omega)
  have kR189 : zDA (b + 23) zE0 s_173 := zDA.fr (σ := (ks160.1, none)) (s := (s_173.1, none)) (P := fun q => b + 250 ≤ q) kR169 ⟨rfl, fun q hq => kB181 q (Nat.not_le.mp hq)⟩ (by intro q h1 h2 (h3 : b + 250 ≤ q); omega)
  have kR190 : zDA (b + 45) zE0 s_173 := zDA.fr (σ := (ks160.1, none)) (s := (s_173.1, none)) (P := fun q => b + 250 ≤ q) kR170 ⟨rfl, fun q hq => kB181 q (Nat.not_le.mp hq)⟩ (by intro q h1 h2 (h3 : b + 250 ≤ q); omega)
  have kR191 : zHi0 (b + 67) s_173 := zHi0.fr (σ := (ks160.1, none)) (s := (s_173.1, none)) (P := fun q => b + 250 ≤ q) kR171 ⟨rfl, fun q hq => kB181 q (Nat.not_le.mp hq)⟩ (by intro q h1 h2 (h3 : b + 250 ≤ q); omega)
  have kH192 : s_173.2 = some (b + 255) := by rw [kH180]
  have kB193 : ∀ q, q < b → s_173.1 q = σ.1 q := fun q hq => (kB181 q (by omega)).trans (kB173 q hq)
  refine zr_putfinal (fs' := [.ref ((b + 1)), .ref ((b + 23)), .ref ((b + 45)), .ref ((b + 67)), .ref ((b + 245)), .ref ((b + 248)), .ref ((b + 250)), .null, .null, .int 0, .int 0, .int 0, .int 0, .int 0, .int 0]) dX9_init_86 rfl pX9_48 kh182 (by decide) rfl rfl (Nat.le_of_ble_eq_true rfl) rfl ?_
  refine zr_sig (fun ks194 e_ks194 => ?_)
  have kh195 : ks194.1 b = .inr (7, [.ref ((b + 1)), .ref ((b + 23)), .ref ((b + 45)), .ref ((b + 67)), .ref ((b + 245)), .ref ((b + 248)), .ref ((b + 250)), .null, .null, .int 0, .int 0, .int 0, .int 0, .int 0, .int 0]) := by rw [e_ks194]; exact zup_at _ _ _
  have kh196 : ks194.1 (b + 245) = .inr (4, [.ref ((b + 246)), .ref ((b + 247)), .int 0, .int 0, .int 0, .int 0]) := by rw [e_ks194, zup_ne _ _ (by omega)]; exact kh183
  have kh197 : ks194.1 (b + 246) = .inl (0, 400, .inl (fun _ => 0)) := by rw [e_ks194, zup_ne _ _ (by omega)]; exact kh184
  have kh198 : ks194.1 (b + 247) = .inl (0, 400, .inl (fun _ => 0)) := by rw [e_ks194, zup_ne _ _ (by omega)]; exact kh185
  have kh199 : ks194.1 (b + 248) = .inr (0, [.ref ((b + 249))]) := by rw [e_ks194, zup_ne _ _ (by omega)]; exact kh186
  have kh200 : ks194.1 (b + 249) = .inl (3, 10, .inr (.inl (z64 (fun _ => 0)))) := by rw [e_ks194, zup_ne _ _ (by omega)]; exact kh187
  have kh201 : ks194.1 (b + 250) = .inr (3, [.ref ((b + 1)), .ref ((b + 245)), .ref ((b + 251)), .ref ((b + 253))]) := by rw [e_ks194, zup_ne _ _ (by omega)]; exact kh175
  have kh202 : ks194.1 (b + 251) = .inr (0, [.ref ((b + 252))]) := by rw [e_ks194, zup_ne _ _ (by omega)]; exact kh176
  have kh203 : ks194.1 (b + 252) = .inl (3, 10, .inr (.inl (z64 (fun _ => 0)))) := by rw [e_ks194, zup_ne _ _ (by omega)]; exact kh177
  have kh204 : ks194.1 (b + 253) = .inr (0, [.ref ((b + 254))]) := by rw [e_ks194, zup_ne _ _ (by omega)]; exact kh178
  have kh205 : ks194.1 (b + 254) = .inl (3, 10, .inr (.inl (z64 (fun _ => 0)))) := by rw [e_ks194, zup_ne _ _ (by omega)]; exact kh179
  have kR206 : zDA (b + 1) zE0 ks194 := zDA.fr kR188 (zFr.put (P := fun q => q = b) zFr.rf e_ks194 rfl) (by intro q h1 h2 h3; (try simp only [zIn, zJf] at h3); omega)
  have kR207 : zDA (b + 23) zE0 ks194 := zDA.fr kR189 (zFr.put (P := fun q => q = b) zFr.rf e_ks194 rfl) (by intro q h1 h2 h3; (try simp only [zIn, zJf] at h3); omega)
  have kR208 : zDA (b + 45) zE0 ks194 := zDA.fr kR190 (zFr.put (P := fun q => q = b) zFr.rf e_ks194 rfl) (by intro q h1 h2 h3; (try simp only [zIn, zJf] at h3); omega)
  have kR209 : zHi0 (b + 67) ks194 := zHi0.fr kR191 (zFr.put (P := fun q => q = b) zFr.rf e_ks194 rfl) (by intro q h1 h2 h3; (try simp only [zIn, zJf] at h3); omega)
  have kH210 : ks194.2 = some (b + 255) := by rw [e_ks194]; exact kH192
  have kB211 : ∀ q, q < b → ks194.1 q = σ.1 q := fun q hq => by rw [e_ks194]; exact (zup_ne _ _ (by omega)).trans (kB193 q hq)
  refine zr_aload_n dX9_init_89 rfl ?_
  refine zr_new dX9_init_90 nX9_52 kH210 (by omega) (by omega) ?_
  refine zr_sig (fun ks212 e_ks212 => ?_)
  have kh213 : ks212.1 b = .inr (7, [.ref ((b + 1)), .ref ((b + 23)), .ref ((b + 45)), .ref ((b + 67)), .ref ((b + 245)), .ref ((b + 248)), .ref ((b + 250)), .null, .null, .int 0, .int 0, .int 0, .int 0, .int 0, .int 0]) := by rw [e_ks212, zup_ne _ _ (by omega)]; exact kh195
  have kh214 : ks212.1 (b + 245) = .inr (4, [.ref ((b + 246)), .ref ((b + 247)), .int 0, .int 0, .int 0, .int 0]) := by rw [e_ks212, zup_ne _ _ (by omega)]; exact kh196
  have kh215 : ks212.1 (b + 246) = .inl (0, 400, .inl (fun _ => 0)) := by rw [e_ks212, zup_ne _ _ (by omega)]; exact kh197
  have kh216 : ks212.1 (b + 247) = .inl (0, 400, .inl (fun _ => 0)) := by rw [e_ks212, zup_ne _ _ (by omega)]; exact kh198
  have kh217 : ks212.1 (b + 248) = .inr (0, [.ref ((b + 249))]) := by rw [e_ks212, zup_ne _ _ (by omega)]; exact kh199
  have kh218 : ks212.1 (b + 249) = .inl (3, 10, .inr (.inl (z64 (fun _ => 0)))) := by rw [e_ks212, zup_ne _ _ (by omega)]; exact kh200
  have kh219 : ks212.1 (b + 250) = .inr (3, [.ref ((b + 1)), .ref ((b + 245)), .ref ((b + 251)), .ref ((b + 253))]) := by rw [e_ks212, zup_ne _ _ (by omega)]; exact kh201
  have kh220 : ks212.1 (b + 251) = .inr (0, [.ref ((b + 252))]) := by rw [e_ks212, zup_ne _ _ (by omega)]; exact kh202
  have kh221 : ks212.1 (b + 252) = .inl (3, 10, .inr (.inl (z64 (fun _ => 0)))) := by rw [e_ks212, zup_ne _ _ (by omega)]; exact kh203
  have kh222 : ks212.1 (b + 253) = .inr (0, [.ref ((b + 254))]) := by rw [e_ks212, zup_ne _ _ (by omega)]; exact kh204
  have kh223 : ks212.1 (b + 254) = .inl (3, 10, .inr (.inl (z64 (fun _ => 0)))) := by rw [e_ks212, zup_ne _ _ (by omega)]; exact kh205
  have kh224 : ks212.1 (b + 255) = .inr (5, [.null, .int 0, .null, .null, .null, .int 0, .int 0]) := by rw [e_ks212]; exact zup_at _ _ _
  have kR225 : zDA (b + 1) zE0 ks212 := zDA.fr (σ := (ks194.1, none)) (s := (ks212.1, none)) (P := fun q => q = b + 255) kR206 ⟨rfl, fun q hq => by show ks212.1 q = ks194.1 q; rw [e_ks212, zup_ne _ _ hq]⟩ (by intro q h1 h2 h3; omega)
  have kR226 : zDA (b + 23) zE0 ks212 := zDA.fr (σ := (ks194.1, none)) (s := (ks212.1, none)) (P := fun q => q = b + 255) kR207 ⟨rfl, fun q hq => by show ks212.1 q = ks194.1 q; rw [e_ks212, zup_ne _ _ hq]⟩ (by intro q h1 h2 h3; omega)
  have kR227 : zDA (b + 45) zE0 ks212 := zDA.fr (σ := (ks194.1, none)) (s := (ks212.1, none)) (P := fun q => q = b + 255) kR208 ⟨rfl, fun q hq => by show ks212.1 q = ks194.1 q; rw [e_ks212, zup_ne _ _ hq]⟩ (by intro q h1 h2 h3; omega)
  have kR228 : zHi0 (b + 67) ks212 := zHi0.fr (σ := (ks194.1, none)) (s := (ks212.1, none)) (P := fun q => q = b + 255) kR209 ⟨rfl, fun q hq => by show ks212.1 q = ks194.1 q; rw [e_ks212, zup_ne _ _ hq]⟩ (by intro q h1 h2 h3; omega)
  have kH229 : ks212.2 = some (b + 256) := by rw [e_ks212]; rfl
  have kB230 : ∀ q, q < b → ks212.1 q = σ.1 q := fun q hq => by rw [e_ks212]; exact (zup_ne _ _ (by omega)).trans (kB211 q hq)
  refine zr_dup dX9_init_93 rfl ?_
  refine zr_callIv [.ref ((b + 255)), .ref b] dX9_init_94 vX9_54 (qC7_init hX  kh224 kH229) (by decide) (by omega) (by omega) rfl rfl (Nat.le_of_ble_eq_true rfl) rfl (fun s_230 h_ => ?_)
  obtain ⟨⟨kH233, kB234⟩, kR232⟩ := h_
  have kh235 : s_230.1 b = .inr (7, [.ref ((b + 1)), .ref ((b + 23)), .ref ((b + 45)), .ref ((b + 67)), .ref ((b + 245)), .ref ((b + 248)), .ref ((b + 250)), .null, .null, .int 0, .int 0, .int 0, .int 0, .int 0, .int 0]) := (kB234 _ (by omega)).trans kh213
  have kh236 : s_230.1 (b + 245) = .inr (4, [.ref ((b + 246)), .ref ((b + 247)), .int 0, .int 0, .int 0, .int 0]) := (kB234 _ (by omega)).trans kh214
  have kh237 : s_230.1 (b + 246) = .inl (0, 400, .inl (fun _ => 0)) := (kB234 _ (by omega)).trans kh215
  have kh238 : s_230.1 (b + 247) = .inl (0, 400, .inl (fun _ => 0)) := (kB234 _ (by omega)).trans kh216
  have kh239 : s_230.1 (b + 248) = .inr (0, [.ref ((b + 249))]) := (kB234 _ (by omega)).trans kh217
  have kh240 : s_230.1 (b + 249) = .inl (3, 10, .inr (.inl (z64 (fun _ => 0)))) := (kB234 _ (by omega)).trans kh218
  have kh241 : s_230.1 (b + 250) = .inr (3, [.ref ((b + 1)), .ref ((b + 245)), .ref ((b + 251)), .ref ((b + 253))]) := (kB234 _ (by omega)).trans kh219
  have kh242 : s_230.1 (b + 251) = .inr (0, [.ref ((b + 252))]) := (kB234 _ (by omega)).trans kh220
  have kh243 : s_230.1 (b + 252) = .inl (3, 10, .inr (.inl (z64 (fun _ => 0)))) := (kB234 _ (by omega)).trans kh221
  have kh244 : s_230.1 (b + 253) = .inr (0, [.ref ((b + 254))]) := (kB234 _ (by omega)).trans kh222
  have kh245 : s_230.1 (b + 254) = .inl (3, 10, .inr (.inl (z64 (fun _ => 0)))) := (kB234 _ (by omega)).trans kh223
  have kR246 : zDA (b + 1) zE0 s_230 := zDA.fr (σ := (ks212.1, none)) (s := (s_230.1, none)) (P := fun q => b + 255 ≤ q) kR225 ⟨rfl, fun q hq => kB234 q (Nat.not_le.mp hq)⟩ (by intro q h1 h2 (h3 : b + 255 ≤ q); omega)
  have kR247 : zDA (b + 23) zE0 s_230 := zDA.fr (σ := (ks212.1, none)) (s := (s_230.1, none)) (P := fun q => b + 255 ≤ q) kR226 ⟨rfl, fun q hq => kB234 q (Nat.not_le.mp hq)⟩ (by intro q h1 h2 (h3 : b + 255 ≤ q); omega)
  have kR248 : zDA (b + 45) zE0 s_230 := zDA.fr (σ := (ks212.1, none)) (s := (s_230.1, none)) (P := fun q => b + 255 ≤ q) kR227 ⟨rfl, fun q hq => kB234 q (Nat.not_le.mp hq)⟩ (by intro q h1 h2 (h3 : b + 255 ≤ q); omega)
  have kR249 : zHi0 (b + 67) s_230 := zHi0.fr (σ := (ks212.1, none)) (s := (s_230.1, none)) (P := fun q => b + 255 ≤ q) kR228 ⟨rfl, fun q hq => kB234 q (Nat.not_le.mp hq)⟩ (by intro q h1 h2 (h3 : b + 255 ≤ q); omega)
  have kH250 : s_230.2 = some (b + 260) := by rw [kH233]
  have kB251 : ∀ q, q < b → s_230.1 q = σ.1 q := fun q hq => (kB234 q (by omega)).trans (kB230 q hq)
  refine zr_putfinal (fs' := [.ref ((b + 1)), .ref ((b + 23)), .ref ((b + 45)), .ref ((b + 67)), .ref ((b + 245)), .ref ((b + 248)), .ref ((b + 250)), .ref ((b + 255)), .null, .int 0, .int 0, .int 0, .int 0, .int 0, .int 0]) dX9_init_97 rfl pX9_55 kh235 (by decide) rfl rfl (Nat.le_of_ble_eq_true rfl) rfl ?_
  refine zr_sig (fun ks252 e_ks252 => ?_)
  have kh253 : ks252.1 b = .inr (7, [.ref ((b + 1)), .ref ((b + 23)), .ref ((b + 45)), .ref ((b + 67)), .ref ((b + 245)), .ref ((b + 248)), .ref ((b + 250)), .ref ((b + 255)), .null, .int 0, .int 0, .int 0, .int 0, .int 0, .int 0]) := by rw [e_ks252]; exact zup_at _ _ _
  have kh254 : ks252.1 (b + 245) = .inr (4, [.ref ((b + 246)), .ref ((b + 247)), .int 0, .int 0, .int 0, .int 0]) := by rw [e_ks252, zup_ne _ _ (by omega)]; exact kh236
  have kh255 : ks252.1 (b + 246) = .inl (0, 400, .inl (fun _ => 0)) := by rw [e_ks252, zup_ne _ _ (by omega)]; exact kh237
  have kh256 : ks252.1 (b + 247) = .inl (0, 400, .inl (fun _ => 0)) := by rw [e_ks252, zup_ne _ _ (by omega)]; exact kh238
  have kh257 : ks252.1 (b + 248) = .inr (0, [.ref ((b + 249))]) := by rw [e_ks252, zup_ne _ _ (by omega)]; exact kh239
  have kh258 : ks252.1 (b + 249) = .inl (3, 10, .inr (.inl (z64 (fun _ => 0)))) := by rw [e_ks252, zup_ne _ _ (by omega)]; exact kh240
  have kh259 : ks252.1 (b + 250) = .inr (3, [.ref ((b + 1)), .ref ((b + 245)), .ref ((b + 251)), .ref ((b + 253))]) := by rw [e_ks252, zup_ne _ _ (by omega)]; exact kh241
  have kh260 : ks252.1 (b + 251) = .inr (0, [.ref ((b + 252))]) := by rw [e_ks252, zup_ne _ _ (by omega)]; exact kh242
  have kh261 : ks252.1 (b + 252) = .inl (3, 10, .inr (.inl (z64 (fun _ => 0)))) := by rw [e_ks252, zup_ne _ _ (by omega)]; exact kh243
  have kh262 : ks252.1 (b + 253) = .inr (0, [.ref ((b + 254))]) := by rw [e_ks252, zup_ne _ _ (by omega)]; exact kh244
  have kh263 : ks252.1 (b + 254) = .inl (3, 10, .inr (.inl (z64 (fun _ => 0)))) := by rw [e_ks252, zup_ne _ _ (by omega)]; exact kh245
  have kR264 : zDA (b + 1) zE0 ks252 := zDA.fr kR246 (zFr.put (P := fun q => q = b) zFr.rf e_ks252 rfl) (by intro q h1 h2 h3; (try simp only [zIn, zJf] at h3); omega)
  have kR265 : zDA (b + 23) zE0 ks252 := zDA.fr kR247 (zFr.put (P := fun q => q = b) zFr.rf e_ks252 rfl) (by intro q h1 h2 h3; (try simp only [zIn, zJf] at h3); omega)
  have kR266 : zDA (b + 45) zE0 ks252 := zDA.fr kR248 (zFr.put (P := fun q => q = b) zFr.rf e_ks252 rfl) (by intro q h1 h2 h3; (try simp only [zIn, zJf] at h3); omega)
  have kR267 : zHi0 (b + 67) ks252 := zHi0.fr kR249 (zFr.put (P := fun q => q = b) zFr.rf e_ks252 rfl) (by intro q h1 h2 h3; (try simp only [zIn, zJf] at h3); omega)
  have kR268 : zSk0 (b + 255) ks252 := zSk0.fr kR232 (zFr.put (P := fun q => q = b) zFr.rf e_ks252 rfl) (by intro q h1 h2 h3; (try simp only [zIn, zJf] at h3); omega)
  have kH269 : ks252.2 = some (b + 260) := by rw [e_ks252]; exact kH250
  have kB270 : ∀ q, q < b → ks252.1 q = σ.1 q := fun q hq => by rw [e_ks252]; exact (zup_ne _ _ (by omega)).trans (kB251 q hq)
  refine zr_aload_n dX9_init_100 rfl ?_
  refine zr_sipush (v := 400) dX9_init_101 (by decide) ?_
  refine zr_newarray (t := 1) (N := 400) (x := (400, .inl (fun _ => 0))) dX9_init_104 ac_char rfl rfl (fun C q => by cases q) (fun _ => rfl) (by decide) (by decide) (by decide) kH269 (by omega) (by omega) ?_
  refine zr_sig (fun ks271 e_ks271 => ?_)
  have kh272 : ks271.1 b = .inr (7, [.ref ((b + 1)), .ref ((b + 23)), .ref ((b + 45)), .ref ((b + 67)), .ref ((b + 245)), .ref ((b + 248)), .ref ((b + 250)), .ref ((b + 255)), .null, .int 0, .int 0, .int 0, .int 0, .int 0, .int 0]) := by rw [e_ks271, zup_ne _ _ (by omega)]; exact kh253
  have kh273 : ks271.1 (b + 245) = .inr (4, [.ref ((b + 246)), .ref ((b + 247)), .int 0, .int 0, .int 0, .int 0]) := by rw [e_ks271, zup_ne _ _ (by omega)]; exact kh254
  have kh274 : ks271.1 (b + 246) = .inl (0, 400, .inl (fun _ => 0)) := by rw [e_ks271, zup_ne _ _ (by omega)]; exact kh255
  have kh275 : ks271.1 (b + 247) = .inl (0, 400, .inl (fun _ => 0)) := by rw [e_ks271, zup_ne _ _ (by omega)]; exact kh256
  have kh276 : ks271.1 (b + 248) = .inr (0, [.ref ((b + 249))]) := by rw [e_ks271, zup_ne _ _ (by omega)]; exact kh257
  have kh277 : ks271.1 (b + 249) = .inl (3, 10, .inr (.inl (z64 (fun _ => 0)))) := by rw [e_ks271, zup_ne _ _ (by omega)]; exact kh258
  have kh278 : ks271.1 (b + 250) = .inr (3, [.ref ((b + 1)), .ref ((b + 245)), .ref ((b + 251)), .ref ((b + 253))]) := by rw [e_ks271, zup_ne _ _ (by omega)]; exact kh259
  have kh279 : ks271.1 (b + 251) = .inr (0, [.ref ((b + 252))]) := by rw [e_ks271, zup_ne _ _ (by omega)]; exact kh260
  have kh280 : ks271.1 (b + 252) = .inl (3, 10, .inr (.inl (z64 (fun _ => 0)))) := by rw [e_ks271, zup_ne _ _ (by omega)]; exact kh261
  have kh281 : ks271.1 (b + 253) = .inr (0, [.ref ((b + 254))]) := by rw [e_ks271, zup_ne _ _ (by omega)]; exact kh262
  have kh282 : ks271.1 (b + 254) = .inl (3, 10, .inr (.inl (z64 (fun _ => 0)))) := by rw [e_ks271, zup_ne _ _ (by omega)]; exact kh263
  have kh283 : ks271.1 (b + 260) = .inl (1, 400, .inl (fun _ => 0)) := by rw [e_ks271]; exact zup_at _ _ _
  have kR284 : zDA (b + 1) zE0 ks271 := zDA.fr (σ := (ks252.1, none)) (s := (ks271.1, none)) (P := fun q => q = b + 260) kR264 ⟨rfl, fun q hq => by show ks271.1 q = ks252.1 q; rw [e_ks271, zup_ne _ _ hq]⟩ (by intro q h1 h2 h3; omega)
  have kR285 : zDA (b + 23) zE0 ks271 := zDA.fr (σ := (ks252.1, none)) (s := (ks271.1, none)) (P := fun q => q = b + 260) kR265 ⟨rfl, fun q hq => by show ks271.1 q = ks252.1 q; rw [e_ks271, zup_ne _ _ hq]⟩ (by intro q h1 h2 h3; omega)
  have kR286 : zDA (b + 45) zE0 ks271 := zDA.fr (σ := (ks252.1, none)) (s := (ks271.1, none)) (P := fun q => q = b + 260) kR266 ⟨rfl, fun q hq => by show ks271.1 q = ks252.1 q; rw [e_ks271, zup_ne _ _ hq]⟩ (by intro q h1 h2 h3; omega)
  have kR287 : zHi0 (b + 67) ks271 := zHi0.fr (σ := (ks252.1, none)) (s := (ks271.1, none)) (P := fun q => q = b + 260) kR267 ⟨rfl, fun q hq => by show ks271.1 q = ks252.1 q; rw [e_ks271, zup_ne _ _ hq]⟩ (by intro q h1 h2 h3; omega)
  have kR288 : zSk0 (b + 255) ks271 := zSk0.fr (σ := (ks252.1, none)) (s := (ks271.1, none)) (P := fun q => q = b + 260) kR268 ⟨rfl, fun q hq => by show ks271.1 q = ks252.1 q; rw [e_ks271, zup_ne _ _ hq]⟩ (by intro q h1 h2 h3; omega)
  have kH289 : ks271.2 = some (b + 261) := by rw [e_ks271]; rfl
  have kB290 : ∀ q, q < b → ks271.1 q = σ.1 q := fun q hq => by rw [e_ks271]; exact (zup_ne _ _ (by omega)).trans (kB270 q hq)
  refine zr_putfinal (fs' := [.ref ((b + 1)), .ref ((b + 23)), .ref ((b + 45)), .ref ((b + 67)), .ref ((b + 245)), .ref ((b + 248)), .ref ((b + 250)), .ref ((b + 255)), .ref ((b + 260)), .int 0, .int 0, .int 0, .int 0, .int 0, .int 0]) dX9_init_106 rfl pX9_59 kh272 (by decide) rfl rfl (Nat.le_of_ble_eq_true rfl) rfl ?_
  refine zr_sig (fun ks291 e_ks291 => ?_)
  have kh292 : ks291.1 b = .inr (7, [.ref ((b + 1)), .ref ((b + 23)), .ref ((b + 45)), .ref ((b + 67)), .ref ((b + 245)), .ref ((b + 248)), .ref ((b + 250)), .ref ((b + 255)), .ref ((b + 260)), .int 0, .int 0, .int 0, .int 0, .int 0, .int 0]) := by rw [e_ks291]; exact zup_at _ _ _
  have kh293 : ks291.1 (b + 245) = .inr (4, [.ref ((b + 246)), .ref ((b + 247)), .int 0, .int 0, .int 0, .int 0]) := by rw [e_ks291, zup_ne _ _ (by omega)]; exact kh273
  have kh294 : ks291.1 (b + 246) = .inl (0, 400, .inl (fun _ => 0)) := by rw [e_ks291, zup_ne _ _ (by omega)]; exact kh274
  have kh295 : ks291.1 (b + 247) = .inl (0, 400, .inl (fun _ => 0)) := by rw [e_ks291, zup_ne _ _ (by omega)]; exact kh275
  have kh296 : ks291.1 (b + 248) = .inr (0, [.ref ((b + 249))]) := by rw [e_ks291, zup_ne _ _ (by omega)]; exact kh276
  have kh297 : ks291.1 (b + 249) = .inl (3, 10, .inr (.inl (z64 (fun _ => 0)))) := by rw [e_ks291, zup_ne _ _ (by omega)]; exact kh277
  have kh298 : ks291.1 (b + 250) = .inr (3, [.ref ((b + 1)), .ref ((b + 245)), .ref ((b + 251)), .ref ((b + 253))]) := by rw [e_ks291, zup_ne _ _ (by omega)]; exact kh278
  have kh299 : ks291.1 (b + 251) = .inr (0, [.ref ((b + 252))]) := by rw [e_ks291, zup_ne _ _ (by omega)]; exact kh279
  have kh300 : ks291.1 (b + 252) = .inl (3, 10, .inr (.inl (z64 (fun _ => 0)))) := by rw [e_ks291, zup_ne _ _ (by omega)]; exact kh280
  have kh301 : ks291.1 (b + 253) = .inr (0, [.ref ((b + 254))]) := by rw [e_ks291, zup_ne _ _ (by omega)]; exact kh281
  have kh302 : ks291.1 (b + 254) = .inl (3, 10, .inr (.inl (z64 (fun _ => 0)))) := by rw [e_ks291, zup_ne _ _ (by omega)]; exact kh282
  have kh303 : ks291.1 (b + 260) = .inl (1, 400, .inl (fun _ => 0)) := by rw [e_ks291, zup_ne _ _ (by omega)]; exact kh283
  have kR304 : zDA (b + 1) zE0 ks291 := zDA.fr kR284 (zFr.put (P := fun q => q = b) zFr.rf e_ks291 rfl) (by intro q h1 h2 h3; (try simp only [zIn, zJf] at h3); omega)
  have kR305 : zDA (b + 23) zE0 ks291 := zDA.fr kR285 (zFr.put (P := fun q => q = b) zFr.rf e_ks291 rfl) (by intro q h1 h2 h3; (try simp only [zIn, zJf] at h3); omega)
  have kR306 : zDA (b + 45) zE0 ks291 := zDA.fr kR286 (zFr.put (P := fun q => q = b) zFr.rf e_ks291 rfl) (by intro q h1 h2 h3; (try simp only [zIn, zJf] at h3); omega)
  have kR307 : zHi0 (b + 67) ks291 := zHi0.fr kR287 (zFr.put (P := fun q => q = b) zFr.rf e_ks291 rfl) (by intro q h1 h2 h3; (try simp only [zIn, zJf] at h3); omega)
  have kR308 : zSk0 (b + 255) ks291 := zSk0.fr kR288 (zFr.put (P := fun q => q = b) zFr.rf e_ks291 rfl) (by intro q h1 h2 h3; (try simp only [zIn, zJf] at h3); omega)
  have kH309 : ks291.2 = some (b + 261) := by rw [e_ks291]; exact kH289
  have kB310 : ∀ q, q < b → ks291.1 q = σ.1 q := fun q hq => by rw [e_ks291]; exact (zup_ne _ _ (by omega)).trans (kB290 q hq)
  refine zr_aload_n dX9_init_109 rfl ?_
  refine zr_iconst (v := 0) dX9_init_110 (by decide) ?_
  refine zr_putfield (fs' := [.ref ((b + 1)), .ref ((b + 23)), .ref ((b + 45)), .ref ((b + 67)), .ref ((b + 245)), .ref ((b + 248)), .ref ((b + 250)), .ref ((b + 255)), .ref ((b + 260)), .int 0, .int 0, .int 0, .int 0, .int 0, .int 0]) dX9_init_111 pX9_63 kh292 (by decide) (rfl) (rfl) (Nat.le_of_ble_eq_true rfl) rfl ?_
  refine zr_sig (fun ks311 e_ks311 => ?_)
  have kh312 : ks311.1 b = .inr (7, [.ref ((b + 1)), .ref ((b + 23)), .ref ((b + 45)), .ref ((b + 67)), .ref ((b + 245)), .ref ((b + 248)), .ref ((b + 250)), .ref ((b + 255)), .ref ((b + 260)), .int 0, .int 0, .int 0, .int 0, .int 0, .int 0]) := by rw [e_ks311]; exact zup_at _ _ _
  have kh313 : ks311.1 (b + 245) = .inr (4, [.ref ((b + 246)), .ref ((b + 247)), .int 0, .int 0, .int 0, .int 0]) := by rw [e_ks311, zup_ne _ _ (by omega)]; exact kh293
  have kh314 : ks311.1 (b + 246) = .inl (0, 400, .inl (fun _ => 0)) := by rw [e_ks311, zup_ne _ _ (by omega)]; exact kh294
  have kh315 : ks311.1 (b + 247) = .inl (0, 400, .inl (fun _ => 0)) := by rw [e_ks311, zup_ne _ _ (by omega)]; exact kh295
  have kh316 : ks311.1 (b + 248) = .inr (0, [.ref ((b + 249))]) := by rw [e_ks311, zup_ne _ _ (by omega)]; exact kh296
  have kh317 : ks311.1 (b + 249) = .inl (3, 10, .inr (.inl (z64 (fun _ => 0)))) := by rw [e_ks311, zup_ne _ _ (by omega)]; exact kh297
  have kh318 : ks311.1 (b + 250) = .inr (3, [.ref ((b + 1)), .ref ((b + 245)), .ref ((b + 251)), .ref ((b + 253))]) := by rw [e_ks311, zup_ne _ _ (by omega)]; exact kh298
  have kh319 : ks311.1 (b + 251) = .inr (0, [.ref ((b + 252))]) := by rw [e_ks311, zup_ne _ _ (by omega)]; exact kh299
  have kh320 : ks311.1 (b + 252) = .inl (3, 10, .inr (.inl (z64 (fun _ => 0)))) := by rw [e_ks311, zup_ne _ _ (by omega)]; exact kh300
  have kh321 : ks311.1 (b + 253) = .inr (0, [.ref ((b + 254))]) := by rw [e_ks311, zup_ne _ _ (by omega)]; exact kh301
  have kh322 : ks311.1 (b + 254) = .inl (3, 10, .inr (.inl (z64 (fun _ => 0)))) := by rw [e_ks311, zup_ne _ _ (by omega)]; exact kh302
  have kh323 : ks311.1 (b + 260) = .inl (1, 400, .inl (fun _ => 0)) := by rw [e_ks311, zup_ne _ _ (by omega)]; exact kh303
  have kR324 : zDA (b + 1) zE0 ks311 := zDA.fr kR304 (zFr.put (P := fun q => q = b) zFr.rf e_ks311 rfl) (by intro q h1 h2 h3; (try simp only [zIn, zJf] at h3); omega)
  have kR325 : zDA (b + 23) zE0 ks311 := zDA.fr kR305 (zFr.put (P := fun q => q = b) zFr.rf e_ks311 rfl) (by intro q h1 h2 h3; (try simp only [zIn, zJf] at h3); omega)
  have kR326 : zDA (b + 45) zE0 ks311 := zDA.fr kR306 (zFr.put (P := fun q => q = b) zFr.rf e_ks311 rfl) (by intro q h1 h2 h3; (try simp only [zIn, zJf] at h3); omega)
  have kR327 : zHi0 (b + 67) ks311 := zHi0.fr kR307 (zFr.put (P := fun q => q = b) zFr.rf e_ks311 rfl) (by intro q h1 h2 h3; (try simp only [zIn, zJf] at h3); omega)
  have kR328 : zSk0 (b + 255) ks311 := zSk0.fr kR308 (zFr.put (P := fun q => q = b) zFr.rf e_ks311 rfl) (by intro q h1 h2 h3; (try simp only [zIn, zJf] at h3); omega)
  have kH329 : ks311.2 = some (b + 261) := by rw [e_ks311]; exact kH309
  have kB330 : ∀ q, q < b → ks311.1 q = σ.1 q := fun q hq => by rw [e_ks311]; exact (zup_ne _ _ (by omega)).trans (kB310 q hq)
  refine zr_aload_n dX9_init_114 rfl ?_
  refine zr_iconst (v := 0) dX9_init_115 (by decide) ?_
  refine zr_putfield (fs' := [.ref ((b + 1)), .ref ((b + 23)), .ref ((b + 45)), .ref ((b + 67)), .ref ((b + 245)), .ref ((b + 248)), .ref ((b + 250)), .ref ((b + 255)), .ref ((b + 260)), .int 0, .int 0, .int 0, .int 0, .int 0, .int 0]) dX9_init_116 pX9_67 kh312 (by decide) (rfl) (rfl) (Nat.le_of_ble_eq_true rfl) rfl ?_
  refine zr_sig (fun ks331 e_ks331 => ?_)
  have kh332 : ks331.1 b = .inr (7, [.ref ((b + 1)), .ref ((b + 23)), .ref ((b + 45)), .ref ((b + 67)), .ref ((b + 245)), .ref ((b + 248)), .ref ((b + 250)), .ref ((b + 255)), .ref ((b + 260)), .int 0, .int 0, .int 0, .int 0, .int 0, .int 0]) := by rw [e_ks331]; exact zup_at _ _ _
  have kh333 : ks331.1 (b + 245) = .inr (4, [.ref ((b + 246)), .ref ((b + 247)), .int 0, .int 0, .int 0, .int 0]) := by rw [e_ks331, zup_ne _ _ (by omega)]; exact kh313
  have kh334 : ks331.1 (b + 246) = .inl (0, 400, .inl (fun _ => 0)) := by rw [e_ks331, zup_ne _ _ (by omega)]; exact kh314
  have kh335 : ks331.1 (b + 247) = .inl (0, 400, .inl (fun _ => 0)) := by rw [e_ks331, zup_ne _ _ (by omega)]; exact kh315
  have kh336 : ks331.1 (b + 248) = .inr (0, [.ref ((b + 249))]) := by rw [e_ks331, zup_ne _ _ (by omega)]; exact kh316
  have kh337 : ks331.1 (b + 249) = .inl (3, 10, .inr (.inl (z64 (fun _ => 0)))) := by rw [e_ks331, zup_ne _ _ (by omega)]; exact kh317
  have kh338 : ks331.1 (b + 250) = .inr (3, [.ref ((b + 1)), .ref ((b + 245)), .ref ((b + 251)), .ref ((b + 253))]) := by rw [e_ks331, zup_ne _ _ (by omega)]; exact kh318
  have kh339 : ks331.1 (b + 251) = .inr (0, [.ref ((b + 252))]) := by rw [e_ks331, zup_ne _ _ (by omega)]; exact kh319
  have kh340 : ks331.1 (b + 252) = .inl (3, 10, .inr (.inl (z64 (fun _ => 0)))) := by rw [e_ks331, zup_ne _ _ (by omega)]; exact kh320
  have kh341 : ks331.1 (b + 253) = .inr (0, [.ref ((b + 254))]) := by rw [e_ks331, zup_ne _ _ (by omega)]; exact kh321
  have kh342 : ks331.1 (b + 254) = .inl (3, 10, .inr (.inl (z64 (fun _ => 0)))) := by rw [e_ks331, zup_ne _ _ (by omega)]; exact kh322
  have kh343 : ks331.1 (b + 260) = .inl (1, 400, .inl (fun _ => 0)) := by rw [e_ks331, zup_ne _ _ (by omega)]; exact kh323
  have kR344 : zDA (b + 1) zE0 ks331 := zDA.fr kR324 (zFr.put (P := fun q => q = b) zFr.rf e_ks331 rfl) (by intro q h1 h2 h3; (try simp only [zIn, zJf] at h3); omega)
  have kR345 : zDA (b + 23) zE0 ks331 := zDA.fr kR325 (zFr.put (P := fun q => q = b) zFr.rf e_ks331 rfl) (by intro q h1 h2 h3; (try simp only [zIn, zJf] at h3); omega)
  have kR346 : zDA (b + 45) zE0 ks331 := zDA.fr kR326 (zFr.put (P := fun q => q = b) zFr.rf e_ks331 rfl) (by intro q h1 h2 h3; (try simp only [zIn, zJf] at h3); omega)
  have kR347 : zHi0 (b + 67) ks331 := zHi0.fr kR327 (zFr.put (P := fun q => q = b) zFr.rf e_ks331 rfl) (by intro q h1 h2 h3; (try simp only [zIn, zJf] at h3); omega)
  have kR348 : zSk0 (b + 255) ks331 := zSk0.fr kR328 (zFr.put (P := fun q => q = b) zFr.rf e_ks331 rfl) (by intro q h1 h2 h3; (try simp only [zIn, zJf] at h3); omega)
  have kH349 : ks331.2 = some (b + 261) := by rw [e_ks331]; exact kH329
  have kB350 : ∀ q, q < b → ks331.1 q = σ.1 q := fun q hq => by rw [e_ks331]; exact (zup_ne _ _ (by omega)).trans (kB330 q hq)
  refine zr_aload_n dX9_init_119 rfl ?_
  refine zr_iconst (v := -1) dX9_init_120 (by decide) ?_
  refine zr_putfield (fs' := [.ref ((b + 1)), .ref ((b + 23)), .ref ((b + 45)), .ref ((b + 67)), .ref ((b + 245)), .ref ((b + 248)), .ref ((b + 250)), .ref ((b + 255)), .ref ((b + 260)), .int 0, .int 0, .int ((-1)), .int 0, .int 0, .int 0]) dX9_init_121 pX9_71 kh332 (by decide) (rfl) (rfl) (Nat.le_of_ble_eq_true rfl) rfl ?_
  refine zr_sig (fun ks351 e_ks351 => ?_)
  have kh352 : ks351.1 b = .inr (7, [.ref ((b + 1)), .ref ((b + 23)), .ref ((b + 45)), .ref ((b + 67)), .ref ((b + 245)), .ref ((b + 248)), .ref ((b + 250)), .ref ((b + 255)), .ref ((b + 260)), .int 0, .int 0, .int ((-1)), .int 0, .int 0, .int 0]) := by rw [e_ks351]; exact zup_at _ _ _
  have kh353 : ks351.1 (b + 245) = .inr (4, [.ref ((b + 246)), .ref ((b + 247)), .int 0, .int 0, .int 0, .int 0]) := by rw [e_ks351, zup_ne _ _ (by omega)]; exact kh333
  have kh354 : ks351.1 (b + 246) = .inl (0, 400, .inl (fun _ => 0)) := by rw [e_ks351, zup_ne _ _ (by omega)]; exact kh334
  have kh355 : ks351.1 (b + 247) = .inl (0, 400, .inl (fun _ => 0)) := by rw [e_ks351, zup_ne _ _ (by omega)]; exact kh335
  have kh356 : ks351.1 (b + 248) = .inr (0, [.ref ((b + 249))]) := by rw [e_ks351, zup_ne _ _ (by omega)]; exact kh336
  have kh357 : ks351.1 (b + 249) = .inl (3, 10, .inr (.inl (z64 (fun _ => 0)))) := by rw [e_ks351, zup_ne _ _ (by omega)]; exact kh337
  have kh358 : ks351.1 (b + 250) = .inr (3, [.ref ((b + 1)), .ref ((b + 245)), .ref ((b + 251)), .ref ((b + 253))]) := by rw [e_ks351, zup_ne _ _ (by omega)]; exact kh338
  have kh359 : ks351.1 (b + 251) = .inr (0, [.ref ((b + 252))]) := by rw [e_ks351, zup_ne _ _ (by omega)]; exact kh339
  have kh360 : ks351.1 (b + 252) = .inl (3, 10, .inr (.inl (z64 (fun _ => 0)))) := by rw [e_ks351, zup_ne _ _ (by omega)]; exact kh340
  have kh361 : ks351.1 (b + 253) = .inr (0, [.ref ((b + 254))]) := by rw [e_ks351, zup_ne _ _ (by omega)]; exact kh341
  have kh362 : ks351.1 (b + 254) = .inl (3, 10, .inr (.inl (z64 (fun _ => 0)))) := by rw [e_ks351, zup_ne _ _ (by omega)]; exact kh342
  have kh363 : ks351.1 (b + 260) = .inl (1, 400, .inl (fun _ => 0)) := by rw [e_ks351, zup_ne _ _ (by omega)]; exact kh343
  have kR364 : zDA (b + 1) zE0 ks351 := zDA.fr kR344 (zFr.put (P := fun q => q = b) zFr.rf e_ks351 rfl) (by intro q h1 h2 h3; (try simp only [zIn, zJf] at h3); omega)
  have kR365 : zDA (b + 23) zE0 ks351 := zDA.fr kR345 (zFr.put (P := fun q => q = b) zFr.rf e_ks351 rfl) (by intro q h1 h2 h3; (try simp only [zIn, zJf] at h3); omega)
  have kR366 : zDA (b + 45) zE0 ks351 := zDA.fr kR346 (zFr.put (P := fun q => q = b) zFr.rf e_ks351 rfl) (by intro q h1 h2 h3; (try simp only [zIn, zJf] at h3); omega)
  have kR367 : zHi0 (b + 67) ks351 := zHi0.fr kR347 (zFr.put (P := fun q => q = b) zFr.rf e_ks351 rfl) (by intro q h1 h2 h3; (try simp only [zIn, zJf] at h3); omega)
  have kR368 : zSk0 (b + 255) ks351 := zSk0.fr kR348 (zFr.put (P := fun q => q = b) zFr.rf e_ks351 rfl) (by intro q h1 h2 h3; (try simp only [zIn, zJf] at h3); omega)
  have kH369 : ks351.2 = some (b + 261) := by rw [e_ks351]; exact kH349
  have kB370 : ∀ q, q < b → ks351.1 q = σ.1 q := fun q hq => by rw [e_ks351]; exact (zup_ne _ _ (by omega)).trans (kB350 q hq)
  refine zr_aload_n dX9_init_124 rfl ?_
  refine zr_iconst (v := 0) dX9_init_125 (by decide) ?_
  refine zr_putfield (fs' := [.ref ((b + 1)), .ref ((b + 23)), .ref ((b + 45)), .ref ((b + 67)), .ref ((b + 245)), .ref ((b + 248)), .ref ((b + 250)), .ref ((b + 255)), .ref ((b + 260)), .int 0, .int 0, .int ((-1)), .int 0, .int 0, .int 0]) dX9_init_126 pX9_74 kh352 (by decide) (rfl) (rfl) (Nat.le_of_ble_eq_true rfl) rfl ?_
  refine zr_sig (fun ks371 e_ks371 => ?_)
  have kh372 : ks371.1 b = .inr (7, [.ref ((b + 1)), .ref ((b + 23)), .ref ((b + 45)), .ref ((b + 67)), .ref ((b + 245)), .ref ((b + 248)), .ref ((b + 250)), .ref ((b + 255)), .ref ((b + 260)), .int 0, .int 0, .int ((-1)), .int 0, .int 0, .int 0]) := by rw [e_ks371]; exact zup_at _ _ _
  have kh373 : ks371.1 (b + 245) = .inr (4, [.ref ((b + 246)), .ref ((b + 247)), .int 0, .int 0, .int 0, .int 0]) := by rw [e_ks371, zup_ne _ _ (by omega)]; exact kh353
  have kh374 : ks371.1 (b + 246) = .inl (0, 400, .inl (fun _ => 0)) := by rw [e_ks371, zup_ne _ _ (by omega)]; exact kh354
  have kh375 : ks371.1 (b + 247) = .inl (0, 400, .inl (fun _ => 0)) := by rw [e_ks371, zup_ne _ _ (by omega)]; exact kh355
  have kh376 : ks371.1 (b + 248) = .inr (0, [.ref ((b + 249))]) := by rw [e_ks371, zup_ne _ _ (by omega)]; exact kh356
  have kh377 : ks371.1 (b + 249) = .inl (3, 10, .inr (.inl (z64 (fun _ => 0)))) := by rw [e_ks371, zup_ne _ _ (by omega)]; exact kh357
  have kh378 : ks371.1 (b + 250) = .inr (3, [.ref ((b + 1)), .ref ((b + 245)), .ref ((b + 251)), .ref ((b + 253))]) := by rw [e_ks371, zup_ne _ _ (by omega)]; exact kh358
  have kh379 : ks371.1 (b + 251) = .inr (0, [.ref ((b + 252))]) := by rw [e_ks371, zup_ne _ _ (by omega)]; exact kh359
  have kh380 : ks371.1 (b + 252) = .inl (3, 10, .inr (.inl (z64 (fun _ => 0)))) := by rw [e_ks371, zup_ne _ _ (by omega)]; exact kh360
  have kh381 : ks371.1 (b + 253) = .inr (0, [.ref ((b + 254))]) := by rw [e_ks371, zup_ne _ _ (by omega)]; exact kh361
  have kh382 : ks371.1 (b + 254) = .inl (3, 10, .inr (.inl (z64 (fun _ => 0)))) := by rw [e_ks371, zup_ne _ _ (by omega)]; exact kh362
  have kh383 : ks371.1 (b + 260) = .inl (1, 400, .inl (fun _ => 0)) := by rw [e_ks371, zup_ne _ _ (by omega)]; exact kh363
  have kR384 : zDA (b + 1) zE0 ks371 := zDA.fr kR364 (zFr.put (P := fun q => q = b) zFr.rf e_ks371 rfl) (by intro q h1 h2 h3; (try simp only [zIn, zJf] at h3); omega)
  have kR385 : zDA (b + 23) zE0 ks371 := zDA.fr kR365 (zFr.put (P := fun q => q = b) zFr.rf e_ks371 rfl) (by intro q h1 h2 h3; (try simp only [zIn, zJf] at h3); omega)
  have kR386 : zDA (b + 45) zE0 ks371 := zDA.fr kR366 (zFr.put (P := fun q => q = b) zFr.rf e_ks371 rfl) (by intro q h1 h2 h3; (try simp only [zIn, zJf] at h3); omega)
  have kR387 : zHi0 (b + 67) ks371 := zHi0.fr kR367 (zFr.put (P := fun q => q = b) zFr.rf e_ks371 rfl) (by intro q h1 h2 h3; (try simp only [zIn, zJf] at h3); omega)
  have kR388 : zSk0 (b + 255) ks371 := zSk0.fr kR368 (zFr.put (P := fun q => q = b) zFr.rf e_ks371 rfl) (by intro q h1 h2 h3; (try simp only [zIn, zJf] at h3); omega)
  have kH389 : ks371.2 = some (b + 261) := by rw [e_ks371]; exact kH369
  have kB390 : ∀ q, q < b → ks371.1 q = σ.1 q := fun q hq => by rw [e_ks371]; exact (zup_ne _ _ (by omega)).trans (kB370 q hq)
  refine zr_aload_n dX9_init_129 rfl ?_
  refine zr_iconst (v := 0) dX9_init_130 (by decide) ?_
  refine zr_putfield (fs' := [.ref ((b + 1)), .ref ((b + 23)), .ref ((b + 45)), .ref ((b + 67)), .ref ((b + 245)), .ref ((b + 248)), .ref ((b + 250)), .ref ((b + 255)), .ref ((b + 260)), .int 0, .int 0, .int ((-1)), .int 0, .int 0, .int 0]) dX9_init_131 pX9_77 kh372 (by decide) (rfl) (rfl) (Nat.le_of_ble_eq_true rfl) rfl ?_
  refine zr_sig (fun ks391 e_ks391 => ?_)
  have kh392 : ks391.1 b = .inr (7, [.ref ((b + 1)), .ref ((b + 23)), .ref ((b + 45)), .ref ((b + 67)), .ref ((b + 245)), .ref ((b + 248)), .ref ((b + 250)), .ref ((b + 255)), .ref ((b + 260)), .int 0, .int 0, .int ((-1)), .int 0, .int 0, .int 0]) := by rw [e_ks391]; exact zup_at _ _ _
  have kh393 : ks391.1 (b + 245) = .inr (4, [.ref ((b + 246)), .ref ((b + 247)), .int 0, .int 0, .int 0, .int 0]) := by rw [e_ks391, zup_ne _ _ (by omega)]; exact kh373
  have kh394 : ks391.1 (b + 246) = .inl (0, 400, .inl (fun _ => 0)) := by rw [e_ks391, zup_ne _ _ (by omega)]; exact kh374
  have kh395 : ks391.1 (b + 247) = .inl (0, 400, .inl (fun _ => 0)) := by rw [e_ks391, zup_ne _ _ (by omega)]; exact kh375
  have kh396 : ks391.1 (b + 248) = .inr (0, [.ref ((b + 249))]) := by rw [e_ks391, zup_ne _ _ (by omega)]; exact kh376
  have kh397 : ks391.1 (b + 249) = .inl (3, 10, .inr (.inl (z64 (fun _ => 0)))) := by rw [e_ks391, zup_ne _ _ (by omega)]; exact kh377
  have kh398 : ks391.1 (b + 250) = .inr (3, [.ref ((b + 1)), .ref ((b + 245)), .ref ((b + 251)), .ref ((b + 253))]) := by rw [e_ks391, zup_ne _ _ (by omega)]; exact kh378
  have kh399 : ks391.1 (b + 251) = .inr (0, [.ref ((b + 252))]) := by rw [e_ks391, zup_ne _ _ (by omega)]; exact kh379
  have kh400 : ks391.1 (b + 252) = .inl (3, 10, .inr (.inl (z64 (fun _ => 0)))) := by rw [e_ks391, zup_ne _ _ (by omega)]; exact kh380
  have kh401 : ks391.1 (b + 253) = .inr (0, [.ref ((b + 254))]) := by rw [e_ks391, zup_ne _ _ (by omega)]; exact kh381
  have kh402 : ks391.1 (b + 254) = .inl (3, 10, .inr (.inl (z64 (fun _ => 0)))) := by rw [e_ks391, zup_ne _ _ (by omega)]; exact kh382
  have kh403 : ks391.1 (b + 260) = .inl (1, 400, .inl (fun _ => 0)) := by rw [e_ks391, zup_ne _ _ (by omega)]; exact kh383
  have kR404 : zDA (b + 1) zE0 ks391 := zDA.fr kR384 (zFr.put (P := fun q => q = b) zFr.rf e_ks391 rfl) (by intro q h1 h2 h3; (try simp only [zIn, zJf] at h3); omega)
  have kR405 : zDA (b + 23) zE0 ks391 := zDA.fr kR385 (zFr.put (P := fun q => q = b) zFr.rf e_ks391 rfl) (by intro q h1 h2 h3; (try simp only [zIn, zJf] at h3); omega)
  have kR406 : zDA (b + 45) zE0 ks391 := zDA.fr kR386 (zFr.put (P := fun q => q = b) zFr.rf e_ks391 rfl) (by intro q h1 h2 h3; (try simp only [zIn, zJf] at h3); omega)
  have kR407 : zHi0 (b + 67) ks391 := zHi0.fr kR387 (zFr.put (P := fun q => q = b) zFr.rf e_ks391 rfl) (by intro q h1 h2 h3; (try simp only [zIn, zJf] at h3); omega)
  have kR408 : zSk0 (b + 255) ks391 := zSk0.fr kR388 (zFr.put (P := fun q => q = b) zFr.rf e_ks391 rfl) (by intro q h1 h2 h3; (try simp only [zIn, zJf] at h3); omega)
  have kH409 : ks391.2 = some (b + 261) := by rw [e_ks391]; exact kH389
  have kB410 : ∀ q, q < b → ks391.1 q = σ.1 q := fun q hq => by rw [e_ks391]; exact (zup_ne _ _ (by omega)).trans (kB390 q hq)
  refine zr_aload_n dX9_init_134 rfl ?_
  refine zr_iconst (v := 0) dX9_init_135 (by decide) ?_
  refine zr_putfield (fs' := [.ref ((b + 1)), .ref ((b + 23)), .ref ((b + 45)), .ref ((b + 67)), .ref ((b + 245)), .ref ((b + 248)), .ref ((b + 250)), .ref ((b + 255)), .ref ((b + 260)), .int 0, .int 0, .int ((-1)), .int 0, .int 0, .int 0]) dX9_init_136 pX9_80 kh392 (by decide) (rfl) (rfl) (Nat.le_of_ble_eq_true rfl) rfl ?_
  refine zr_sig (fun ks411 e_ks411 => ?_)
  have kh412 : ks411.1 b = .inr (7, [.ref ((b + 1)), .ref ((b + 23)), .ref ((b + 45)), .ref ((b + 67)), .ref ((b + 245)), .ref ((b + 248)), .ref ((b + 250)), .ref ((b + 255)), .ref ((b + 260)), .int 0, .int 0, .int ((-1)), .int 0, .int 0, .int 0]) := by rw [e_ks411]; exact zup_at _ _ _
  have kh413 : ks411.1 (b + 245) = .inr (4, [.ref ((b + 246)), .ref ((b + 247)), .int 0, .int 0, .int 0, .int 0]) := by rw [e_ks411, zup_ne _ _ (by omega)]; exact kh393
  have kh414 : ks411.1 (b + 246) = .inl (0, 400, .inl (fun _ => 0)) := by rw [e_ks411, zup_ne _ _ (by omega)]; exact kh394
  have kh415 : ks411.1 (b + 247) = .inl (0, 400, .inl (fun _ => 0)) := by rw [e_ks411, zup_ne _ _ (by omega)]; exact kh395
  have kh416 : ks411.1 (b + 248) = .inr (0, [.ref ((b + 249))]) := by rw [e_ks411, zup_ne _ _ (by omega)]; exact kh396
  have kh417 : ks411.1 (b + 249) = .inl (3, 10, .inr (.inl (z64 (fun _ => 0)))) := by rw [e_ks411, zup_ne _ _ (by omega)]; exact kh397
  have kh418 : ks411.1 (b + 250) = .inr (3, [.ref ((b + 1)), .ref ((b + 245)), .ref ((b + 251)), .ref ((b + 253))]) := by rw [e_ks411, zup_ne _ _ (by omega)]; exact kh398
  have kh419 : ks411.1 (b + 251) = .inr (0, [.ref ((b + 252))]) := by rw [e_ks411, zup_ne _ _ (by omega)]; exact kh399
  have kh420 : ks411.1 (b + 252) = .inl (3, 10, .inr (.inl (z64 (fun _ => 0)))) := by rw [e_ks411, zup_ne _ _ (by omega)]; exact kh400
  have kh421 : ks411.1 (b + 253) = .inr (0, [.ref ((b + 254))]) := by rw [e_ks411, zup_ne _ _ (by omega)]; exact kh401
  have kh422 : ks411.1 (b + 254) = .inl (3, 10, .inr (.inl (z64 (fun _ => 0)))) := by rw [e_ks411, zup_ne _ _ (by omega)]; exact kh402
  have kh423 : ks411.1 (b + 260) = .inl (1, 400, .inl (fun _ => 0)) := by rw [e_ks411, zup_ne _ _ (by omega)]; exact kh403
  have kR424 : zDA (b + 1) zE0 ks411 := zDA.fr kR404 (zFr.put (P := fun q => q = b) zFr.rf e_ks411 rfl) (by intro q h1 h2 h3; (try simp only [zIn, zJf] at h3); omega)
  have kR425 : zDA (b + 23) zE0 ks411 := zDA.fr kR405 (zFr.put (P := fun q => q = b) zFr.rf e_ks411 rfl) (by intro q h1 h2 h3; (try simp only [zIn, zJf] at h3); omega)
  have kR426 : zDA (b + 45) zE0 ks411 := zDA.fr kR406 (zFr.put (P := fun q => q = b) zFr.rf e_ks411 rfl) (by intro q h1 h2 h3; (try simp only [zIn, zJf] at h3); omega)
  have kR427 : zHi0 (b + 67) ks411 := zHi0.fr kR407 (zFr.put (P := fun q => q = b) zFr.rf e_ks411 rfl) (by intro q h1 h2 h3; (try simp only [zIn, zJf] at h3); omega)
  have kR428 : zSk0 (b + 255) ks411 := zSk0.fr kR408 (zFr.put (P := fun q => q = b) zFr.rf e_ks411 rfl) (by intro q h1 h2 h3; (try simp only [zIn, zJf] at h3); omega)
  have kH429 : ks411.2 = some (b + 261) := by rw [e_ks411]; exact kH409
  have kB430 : ∀ q, q < b → ks411.1 q = σ.1 q := fun q hq => by rw [e_ks411]; exact (zup_ne _ _ (by omega)).trans (kB410 q hq)
  exact zr_return dX9_init_139 rfl (⟨rfl, ⟨kH429, kB430⟩, fun U T ln => ⟨zE0, _, kh412, kR424, kR425, zE0_w, kR426, kR427 U, ⟨kh418, ⟨_, _, _, _, _, _, kh413, kh414, kh415⟩, ⟨_, kh416, kh417⟩, ⟨_, kh419, kh420⟩, ⟨_, kh421, kh422⟩⟩, kR428 T, kh423, fun k hk => absurd hk (Nat.not_lt_zero k)⟩⟩)

set_option maxHeartbeats 400000 in
set_option maxRecDepth 100000 in
theorem qX10_init {X : zX} (hX : X.1.stackTraces = false) {σ : zS} {b : Nat}  (h0 : σ.1 b = .inr (8, [.null, .null, .null, .null, .int 0, .int 0, .int 0, .int 0, .int 0, .int 0, .int 0, .int 0, .null, .int 0, .int 0, .null, .int 0, .null, .null, .int 0, .int 0, .int 0, .int 0, .null, .null, .int 0, .null, .int 0])) (hh : σ.2 = some (b + 1))  : zMet X mX10_init yX10_init 1 11 4075 [.ref b] σ (zV (fun s => zNw b σ s 12 ∧ ∀ U T ln, zMo b 0 0 0 0 zE0 zE0 zE0 0 U 0 T 0 ln 0 (-1) 0 0 0 s)) := by
  refine zMet_of (ls := [some (.ref b)]) rfl (by decide +kernel) rfl (fun _ => rfl) hX (Nat.le_of_ble_eq_true rfl) rfl ?_
  have hB : ∀ q, q < b → σ.1 q = σ.1 q := fun q _ => rfl
  refine zr_aload_n dX10_init_0 rfl ?_
  refine zr_objInit dX10_init_1 oX10_1 (by decide) (by decide) ?_
  refine zr_aload_n dX10_init_4 rfl ?_
  refine zr_bipush (v := 82) dX10_init_5 (by decide) ?_
  refine zr_newarray (t := 0) (N := 82) (x := (82, .inl (fun _ => 0))) dX10_init_7 ac_int rfl rfl (fun C q => by cases q) (fun _ => rfl) (by decide) (by decide) (by decide) hh (by omega) (by omega) ?_
  refine zr_sig (fun ks1 e_ks1 => ?_)
  have kh2 : ks1.1 b = .inr (8, [.null, .null, .null, .null, .int 0, .int 0, .int 0, .int 0, .int 0, .int 0, .int 0, .int 0, .null, .int 0, .int 0, .null, .int 0, .null, .null, .int 0, .int 0, .int 0, .int 0, .null, .null, .int 0, .null, .int 0]) := by rw [e_ks1, zup_ne _ _ (by omega)]; exact h0
  have kh3 : ks1.1 (b + 1) = .inl (0, 82, .inl (fun _ => 0)) := by rw [e_ks1]; exact zup_at _ _ _
  have kH4 : ks1.2 = some (b + 2) := by rw [e_ks1]; rfl
  have kB5 : ∀ q, q < b → ks1.1 q = σ.1 q := fun q hq => by rw [e_ks1]; exact (zup_ne _ _ (by omega)).trans (hB q hq)
  refine zr_putfinal (fs' := [.ref ((b + 1)), .null, .null, .null, .int 0, .int 0, .int 0, .int 0, .int 0, .int 0, .int 0, .int 0, .null, .int 0, .int 0, .null, .int 0, .null, .null, .int 0, .int 0, .int 0, .int 0, .null, .null, .int 0, .null, .int 0]) dX10_init_9 rfl pX10_7 kh2 (by decide) rfl rfl (Nat.le_of_ble_eq_true rfl) rfl ?_
  refine zr_sig (fun ks6 e_ks6 => ?_)
  have kh7 : ks6.1 b = .inr (8, [.ref ((b + 1)), .null, .null, .null, .int 0, .int 0, .int 0, .int 0, .int 0, .int 0, .int 0, .int 0, .null, .int 0, .int 0, .null, .int 0, .null, .null, .int 0, .int 0, .int 0, .int 0, .null, .null, .int 0, .null, .int 0]) := by rw [e_ks6]; exact zup_at _ _ _
  have kh8 : ks6.1 (b + 1) = .inl (0, 82, .inl (fun _ => 0)) := by rw [e_ks6, zup_ne _ _ (by omega)]; exact kh3
  have kH9 : ks6.2 = some (b + 2) := by rw [e_ks6]; exact kH4
  have kB10 : ∀ q, q < b → ks6.1 q = σ.1 q := fun q hq => by rw [e_ks6]; exact (zup_ne _ _ (by omega)).trans (kB5 q hq)
  refine zr_aload_n dX10_init_12 rfl ?_
  refine zr_sipush (v := 656) dX10_init_13 (by decide) ?_
  refine zr_newarray (t := 0) (N := 656) (x := (656, .inl (fun _ => 0))) dX10_init_16 ac_int rfl rfl (fun C q => by cases q) (fun _ => rfl) (by decide) (by decide) (by decide) kH9 (by omega) (by omega) ?_
  refine zr_sig (fun ks11 e_ks11 => ?_)
  have kh12 : ks11.1 b = .inr (8, [.ref ((b + 1)), .null, .null, .null, .int 0, .int 0, .int 0, .int 0, .int 0, .int 0, .int 0, .int 0, .null, .int 0, .int 0, .null, .int 0, .null, .null, .int 0, .int 0, .int 0, .int 0, .null, .null, .int 0, .null, .int 0]) := by rw [e_ks11, zup_ne _ _ (by omega)]; exact kh7
  have kh13 : ks11.1 (b + 1) = .inl (0, 82, .inl (fun _ => 0)) := by rw [e_ks11, zup_ne _ _ (by omega)]; exact kh8
  have kh14 : ks11.1 (b + 2) = .inl (0, 656, .inl (fun _ => 0)) := by rw [e_ks11]; exact zup_at _ _ _
  have kH15 : ks11.2 = some (b + 3) := by rw [e_ks11]; rfl
  have kB16 : ∀ q, q < b → ks11.1 q = σ.1 q := fun q hq => by rw [e_ks11]; exact (zup_ne _ _ (by omega)).trans (kB10 q hq)
  refine zr_putfinal (fs' := [.ref ((b + 1)), .ref ((b + 2)), .null, .null, .int 0, .int 0, .int 0, .int 0, .int 0, .int 0, .int 0, .int 0, .null, .int 0, .int 0, .null, .int 0, .null, .null, .int 0, .int 0, .int 0, .int 0, .null, .null, .int 0, .null, .int 0]) dX10_init_18 rfl pX10_13 kh12 (by decide) rfl rfl (Nat.le_of_ble_eq_true rfl) rfl ?_
  refine zr_sig (fun ks17 e_ks17 => ?_)
  have kh18 : ks17.1 b = .inr (8, [.ref ((b + 1)), .ref ((b + 2)), .null, .null, .int 0, .int 0, .int 0, .int 0, .int 0, .int 0, .int 0, .int 0, .null, .int 0, .int 0, .null, .int 0, .null, .null, .int 0, .int 0, .int 0, .int 0, .null, .null, .int 0, .null, .int 0]) := by rw [e_ks17]; exact zup_at _ _ _
  have kh19 : ks17.1 (b + 1) = .inl (0, 82, .inl (fun _ => 0)) := by rw [e_ks17, zup_ne _ _ (by omega)]; exact kh13
  have kh20 : ks17.1 (b + 2) = .inl (0, 656, .inl (fun _ => 0)) := by rw [e_ks17, zup_ne _ _ (by omega)]; exact kh14
  have kH21 : ks17.2 = some (b + 3) := by rw [e_ks17]; exact kH15
  have kB22 : ∀ q, q < b → ks17.1 q = σ.1 q := fun q hq => by rw [e_ks17]; exact (zup_ne _ _ (by omega)).trans (kB16 q hq)
  refine zr_aload_n dX10_init_21 rfl ?_
  refine zr_bipush (v := 82) dX10_init_22 (by decide) ?_
  refine zr_newarray (t := 0) (N := 82) (x := (82, .inl (fun _ => 0))) dX10_init_24 ac_int rfl rfl (fun C q => by cases q) (fun _ => rfl) (by decide) (by decide) (by decide) kH21 (by omega) (by omega) ?_
  refine zr_sig (fun ks23 e_ks23 => ?_)
  have kh24 : ks23.1 b = .inr (8, [.ref ((b + 1)), .ref ((b + 2)), .null, .null, .int 0, .int 0, .int 0, .int 0, .int 0, .int 0, .int 0, .int 0, .null, .int 0, .int 0, .null, .int 0, .null, .null, .int 0, .int 0, .int 0, .int 0, .null, .null, .int 0, .null, .int 0]) := by rw [e_ks23, zup_ne _ _ (by omega)]; exact kh18
  have kh25 : ks23.1 (b + 1) = .inl (0, 82, .inl (fun _ => 0)) := by rw [e_ks23, zup_ne _ _ (by omega)]; exact kh19
  have kh26 : ks23.1 (b + 2) = .inl (0, 656, .inl (fun _ => 0)) := by rw [e_ks23, zup_ne _ _ (by omega)]; exact kh20
  have kh27 : ks23.1 (b + 3) = .inl (0, 82, .inl (fun _ => 0)) := by rw [e_ks23]; exact zup_at _ _ _
  have kH28 : ks23.2 = some (b + 4) := by rw [e_ks23]; rfl
  have kB29 : ∀ q, q < b → ks23.1 q = σ.1 q := fun q hq => by rw [e_ks23]; exact (zup_ne _ _ (by omega)).trans (kB22 q hq)
  refine zr_putfinal (fs' := [.ref ((b + 1)), .ref ((b + 2)), .ref ((b + 3)), .null, .int 0, .int 0, .int 0, .int 0, .int 0, .int 0, .int 0, .int 0, .null, .int 0, .int 0, .null, .int 0, .null, .null, .int 0, .int 0, .int 0, .int 0, .null, .null, .int 0, .null, .int 0]) dX10_init_26 rfl pX10_16 kh24 (by decide) rfl rfl (Nat.le_of_ble_eq_true rfl) rfl ?_
  refine zr_sig (fun ks30 e_ks30 => ?_)
  have kh31 : ks30.1 b = .inr (8, [.ref ((b + 1)), .ref ((b + 2)), .ref ((b + 3)), .null, .int 0, .int 0, .int 0, .int 0, .int 0, .int 0, .int 0, .int 0, .null, .int 0, .int 0, .null, .int 0, .null, .null, .int 0, .int 0, .int 0, .int 0, .null, .null, .int 0, .null, .int 0]) := by rw [e_ks30]; exact zup_at _ _ _
  have kh32 : ks30.1 (b + 1) = .inl (0, 82, .inl (fun _ => 0)) := by rw [e_ks30, zup_ne _ _ (by omega)]; exact kh25
  have kh33 : ks30.1 (b + 2) = .inl (0, 656, .inl (fun _ => 0)) := by rw [e_ks30, zup_ne _ _ (by omega)]; exact kh26
  have kh34 : ks30.1 (b + 3) = .inl (0, 82, .inl (fun _ => 0)) := by rw [e_ks30, zup_ne _ _ (by omega)]; exact kh27
  have kH35 : ks30.2 = some (b + 4) := by rw [e_ks30]; exact kH28
  have kB36 : ∀ q, q < b → ks30.1 q = σ.1 q := fun q hq => by rw [e_ks30]; exact (zup_ne _ _ (by omega)).trans (kB29 q hq)
  refine zr_aload_n dX10_init_29 rfl ?_
  refine zr_bipush (v := 82) dX10_init_30 (by decide) ?_
  refine zr_newarray (t := 0) (N := 82) (x := (82, .inl (fun _ => 0))) dX10_init_32 ac_int rfl rfl (fun C q => by cases q) (fun _ => rfl) (by decide) (by decide) (by decide) kH35 (by omega) (by omega) ?_
  refine zr_sig (fun ks37 e_ks37 => ?_)
  have kh38 : ks37.1 b = .inr (8, [.ref ((b + 1)), .ref ((b + 2)), .ref ((b + 3)), .null, .int 0, .int 0, .int 0, .int 0, .int 0, .int 0, .int 0, .int 0, .null, .int 0, .int 0, .null, .int 0, .null, .null, .int 0, .int 0, .int 0, .int 0, .null, .null, .int 0, .null, .int 0]) := by rw [e_ks37, zup_ne _ _ (by omega)]; exact kh31
  have kh39 : ks37.1 (b + 1) = .inl (0, 82, .inl (fun _ => 0)) := by rw [e_ks37, zup_ne _ _ (by omega)]; exact kh32
  have kh40 : ks37.1 (b + 2) = .inl (0, 656, .inl (fun _ => 0)) := by rw [e_ks37, zup_ne _ _ (by omega)]; exact kh33
  have kh41 : ks37.1 (b + 3) = .inl (0, 82, .inl (fun _ => 0)) := by rw [e_ks37, zup_ne _ _ (by omega)]; exact kh34
  have kh42 : ks37.1 (b + 4) = .inl (0, 82, .inl (fun _ => 0)) := by rw [e_ks37]; exact zup_at _ _ _
  have kH43 : ks37.2 = some (b + 5) := by rw [e_ks37]; rfl
  have kB44 : ∀ q, q < b → ks37.1 q = σ.1 q := fun q hq => by rw [e_ks37]; exact (zup_ne _ _ (by omega)).trans (kB36 q hq)
  refine zr_putfinal (fs' := [.ref ((b + 1)), .ref ((b + 2)), .ref ((b + 3)), .ref ((b + 4)), .int 0, .int 0, .int 0, .int 0, .int 0, .int 0, .int 0, .int 0, .null, .int 0, .int 0, .null, .int 0, .null, .null, .int 0, .int 0, .int 0, .int 0, .null, .null, .int 0, .null, .int 0]) dX10_init_34 rfl pX10_19 kh38 (by decide) rfl rfl (Nat.le_of_ble_eq_true rfl) rfl ?_
  refine zr_sig (fun ks45 e_ks45 => ?_)
  have kh46 : ks45.1 b = .inr (8, [.ref ((b + 1)), .ref ((b + 2)), .ref ((b + 3)), .ref ((b + 4)), .int 0, .int 0, .int 0, .int 0, .int 0, .int 0, .int 0, .int 0, .null, .int 0, .int 0, .null, .int 0, .null, .null, .int 0, .int 0, .int 0, .int 0, .null, .null, .int 0, .null, .int 0]) := by rw [e_ks45]; exact zup_at _ _ _
  have kh47 : ks45.1 (b + 1) = .inl (0, 82, .inl (fun _ => 0)) := by rw [e_ks45, zup_ne _ _ (by omega)]; exact kh39
  have kh48 : ks45.1 (b + 2) = .inl (0, 656, .inl (fun _ => 0)) := by rw [e_ks45, zup_ne _ _ (by omega)]; exact kh40
  have kh49 : ks45.1 (b + 3) = .inl (0, 82, .inl (fun _ => 0)) := by rw [e_ks45, zup_ne _ _ (by omega)]; exact kh41
  have kh50 : ks45.1 (b + 4) = .inl (0, 82, .inl (fun _ => 0)) := by rw [e_ks45, zup_ne _ _ (by omega)]; exact kh42
  have kH51 : ks45.2 = some (b + 5) := by rw [e_ks45]; exact kH43
  have kB52 : ∀ q, q < b → ks45.1 q = σ.1 q := fun q hq => by rw [e_ks45]; exact (zup_ne _ _ (by omega)).trans (kB44 q hq)
  refine zr_aload_n dX10_init_37 rfl ?_
  refine zr_bipush (v := 60) dX10_init_38 (by decide) ?_
  refine zr_newarray (t := 0) (N := 60) (x := (60, .inl (fun _ => 0))) dX10_init_40 ac_int rfl rfl (fun C q => by cases q) (fun _ => rfl) (by decide) (by decide) (by decide) kH51 (by omega) (by omega) ?_
  refine zr_sig (fun ks53 e_ks53 => ?_)
  have kh54 : ks53.1 b = .inr (8, [.ref ((b + 1)), .ref ((b + 2)), .ref ((b + 3)), .ref ((b + 4)), .int 0, .int 0, .int 0, .int 0, .int 0, .int 0, .int 0, .int 0, .null, .int 0, .int 0, .null, .int 0, .null, .null, .int 0, .int 0, .int 0, .int 0, .null, .null, .int 0, .null, .int 0]) := by rw [e_ks53, zup_ne _ _ (by omega)]; exact kh46
  have kh55 : ks53.1 (b + 1) = .inl (0, 82, .inl (fun _ => 0)) := by rw [e_ks53, zup_ne _ _ (by omega)]; exact kh47
  have kh56 : ks53.1 (b + 2) = .inl (0, 656, .inl (fun _ => 0)) := by rw [e_ks53, zup_ne _ _ (by omega)]; exact kh48
  have kh57 : ks53.1 (b + 3) = .inl (0, 82, .inl (fun _ => 0)) := by rw [e_ks53, zup_ne _ _ (by omega)]; exact kh49
  have kh58 : ks53.1 (b + 4) = .inl (0, 82, .inl (fun _ => 0)) := by rw [e_ks53, zup_ne _ _ (by omega)]; exact kh50
  have kh59 : ks53.1 (b + 5) = .inl (0, 60, .inl (fun _ => 0)) := by rw [e_ks53]; exact zup_at _ _ _
  have kH60 : ks53.2 = some (b + 6) := by rw [e_ks53]; rfl
  have kB61 : ∀ q, q < b → ks53.1 q = σ.1 q := fun q hq => by rw [e_ks53]; exact (zup_ne _ _ (by omega)).trans (kB52 q hq)
  refine zr_putfinal (fs' := [.ref ((b + 1)), .ref ((b + 2)), .ref ((b + 3)), .ref ((b + 4)), .int 0, .int 0, .int 0, .int 0, .int 0, .int 0, .int 0, .int 0, .ref ((b + 5)), .int 0, .int 0, .null, .int 0, .null, .null, .int 0, .int 0, .int 0, .int 0, .null, .null, .int 0, .null, .int 0]) dX10_init_42 rfl pX10_22 kh54 (by decide) rfl rfl (Nat.le_of_ble_eq_true rfl) rfl ?_
  refine zr_sig (fun ks62 e_ks62 => ?_)
  have kh63 : ks62.1 b = .inr (8, [.ref ((b + 1)), .ref ((b + 2)), .ref ((b + 3)), .ref ((b + 4)), .int 0, .int 0, .int 0, .int 0, .int 0, .int 0, .int 0, .int 0, .ref ((b + 5)), .int 0, .int 0, .null, .int 0, .null, .null, .int 0, .int 0, .int 0, .int 0, .null, .null, .int 0, .null, .int 0]) := by rw [e_ks62]; exact zup_at _ _ _
  have kh64 : ks62.1 (b + 1) = .inl (0, 82, .inl (fun _ => 0)) := by rw [e_ks62, zup_ne _ _ (by omega)]; exact kh55
  have kh65 : ks62.1 (b + 2) = .inl (0, 656, .inl (fun _ => 0)) := by rw [e_ks62, zup_ne _ _ (by omega)]; exact kh56
  have kh66 : ks62.1 (b + 3) = .inl (0, 82, .inl (fun _ => 0)) := by rw [e_ks62, zup_ne _ _ (by omega)]; exact kh57
  have kh67 : ks62.1 (b + 4) = .inl (0, 82, .inl (fun _ => 0)) := by rw [e_ks62, zup_ne _ _ (by omega)]; exact kh58
  have kh68 : ks62.1 (b + 5) = .inl (0, 60, .inl (fun _ => 0)) := by rw [e_ks62, zup_ne _ _ (by omega)]; exact kh59
  have kH69 : ks62.2 = some (b + 6) := by rw [e_ks62]; exact kH60
  have kB70 : ∀ q, q < b → ks62.1 q = σ.1 q := fun q hq => by rw [e_ks62]; exact (zup_ne _ _ (by omega)).trans (kB61 q hq)
  refine zr_aload_n dX10_init_45 rfl ?_
  refine zr_iconst (v := -1) dX10_init_46 (by decide) ?_
  refine zr_putfield (fs' := [.ref ((b + 1)), .ref ((b + 2)), .ref ((b + 3)), .ref ((b + 4)), .int 0, .int 0, .int 0, .int 0, .int 0, .int 0, .int 0, .int 0, .ref ((b + 5)), .int 0, .int ((-1)), .null, .int 0, .null, .null, .int 0, .int 0, .int 0, .int 0, .null, .null, .int 0, .null, .int 0]) dX10_init_47 pX10_25 kh63 (by decide) (rfl) (rfl) (Nat.le_of_ble_eq_true rfl) rfl ?_
  refine zr_sig (fun ks71 e_ks71 => ?_)
  have kh72 : ks71.1 b = .inr (8, [.ref ((b + 1)), .ref ((b + 2)), .ref ((b + 3)), .ref ((b + 4)), .int 0, .int 0, .int 0, .int 0, .int 0, .int 0, .int 0, .int 0, .ref ((b + 5)), .int 0, .int ((-1)), .null, .int 0, .null, .null, .int 0, .int 0, .int 0, .int 0, .null, .null, .int 0, .null, .int 0]) := by rw [e_ks71]; exact zup_at _ _ _
  have kh73 : ks71.1 (b + 1) = .inl (0, 82, .inl (fun _ => 0)) := by rw [e_ks71, zup_ne _ _ (by omega)]; exact kh64
  have kh74 : ks71.1 (b + 2) = .inl (0, 656, .inl (fun _ => 0)) := by rw [e_ks71, zup_ne _ _ (by omega)]; exact kh65
  have kh75 : ks71.1 (b + 3) = .inl (0, 82, .inl (fun _ => 0)) := by rw [e_ks71, zup_ne _ _ (by omega)]; exact kh66
  have kh76 : ks71.1 (b + 4) = .inl (0, 82, .inl (fun _ => 0)) := by rw [e_ks71, zup_ne _ _ (by omega)]; exact kh67
  have kh77 : ks71.1 (b + 5) = .inl (0, 60, .inl (fun _ => 0)) := by rw [e_ks71, zup_ne _ _ (by omega)]; exact kh68
  have kH78 : ks71.2 = some (b + 6) := by rw [e_ks71]; exact kH69
  have kB79 : ∀ q, q < b → ks71.1 q = σ.1 q := fun q hq => by rw [e_ks71]; exact (zup_ne _ _ (by omega)).trans (kB70 q hq)
  refine zr_aload_n dX10_init_50 rfl ?_
  refine zr_sipush (v := 400) dX10_init_51 (by decide) ?_
  refine zr_newarray (t := 1) (N := 400) (x := (400, .inl (fun _ => 0))) dX10_init_54 ac_char rfl rfl (fun C q => by cases q) (fun _ => rfl) (by decide) (by decide) (by decide) kH78 (by omega) (by omega) ?_
  refine zr_sig (fun ks80 e_ks80 => ?_)
  have kh81 : ks80.1 b = .inr (8, [.ref ((b + 1)), .ref ((b + 2)), .ref ((b + 3)), .ref ((b + 4)), .int 0, .int 0, .int 0, .int 0, .int 0, .int 0, .int 0, .int 0, .ref ((b + 5)), .int 0, .int ((-1)), .null, .int 0, .null, .null, .int 0, .int 0, .int 0, .int 0, .null, .null, .int 0, .null, .int 0]) := by rw [e_ks80, zup_ne _ _ (by omega)]; exact kh72
  have kh82 : ks80.1 (b + 1) = .inl (0, 82, .inl (fun _ => 0)) := by rw [e_ks80, zup_ne _ _ (by omega)]; exact kh73
  have kh83 : ks80.1 (b + 2) = .inl (0, 656, .inl (fun _ => 0)) := by rw [e_ks80, zup_ne _ _ (by omega)]; exact kh74
  have kh84 : ks80.1 (b + 3) = .inl (0, 82, .inl (fun _ => 0)) := by rw [e_ks80, zup_ne _ _ (by omega)]; exact kh75
  have kh85 : ks80.1 (b + 4) = .inl (0, 82, .inl (fun _ => 0)) := by rw [e_ks80, zup_ne _ _ (by omega)]; exact kh76
  have kh86 : ks80.1 (b + 5) = .inl (0, 60, .inl (fun _ => 0)) := by rw [e_ks80, zup_ne _ _ (by omega)]; exact kh77
  have kh87 : ks80.1 (b + 6) = .inl (1, 400, .inl (fun _ => 0)) := by rw [e_ks80]; exact zup_at _ _ _
  have kH88 : ks80.2 = some (b + 7) := by rw [e_ks80]; rfl
  have kB89 : ∀ q, q < b → ks80.1 q = σ.1 q := fun q hq => by rw [e_ks80]; exact (zup_ne _ _ (by omega)).trans (kB79 q hq)
  refine zr_putfinal (fs' := [.ref ((b + 1)), .ref ((b + 2)), .ref ((b + 3)), .ref ((b + 4)), .int 0, .int 0, .int 0, .int 0, .int 0, .int 0, .int 0, .int 0, .ref ((b + 5)), .int 0, .int ((-1)), .ref ((b + 6)), .int 0, .null, .null, .int 0, .int 0, .int 0, .int 0, .null, .null, .int 0, .null, .int 0]) dX10_init_56 rfl pX10_29 kh81 (by decide) rfl rfl (Nat.le_of_ble_eq_true rfl) rfl ?_
  refine zr_sig (fun ks90 e_ks90 => ?_)
  have kh91 : ks90.1 b = .inr (8, [.ref ((b + 1)), .ref ((b + 2)), .ref ((b + 3)), .ref ((b + 4)), .int 0, .int 0, .int 0, .int 0, .int 0, .int 0, .int 0, .int 0, .ref ((b + 5)), .int 0, .int ((-1)), .ref ((b + 6)), .int 0, .null, .null, .int 0, .int 0, .int 0, .int 0, .null, .null, .int 0, .null, .int 0]) := by rw [e_ks90]; exact zup_at _ _ _
  have kh92 : ks90.1 (b + 1) = .inl (0, 82, .inl (fun _ => 0)) := by rw [e_ks90, zup_ne _ _ (by omega)]; exact kh82
  have kh93 : ks90.1 (b + 2) = .inl (0, 656, .inl (fun _ => 0)) := by rw [e_ks90, zup_ne _ _ (by omega)]; exact kh83
  have kh94 : ks90.1 (b + 3) = .inl (0, 82, .inl (fun _ => 0)) := by rw [e_ks90, zup_ne _ _ (by omega)]; exact kh84
  have kh95 : ks90.1 (b + 4) = .inl (0, 82, .inl (fun _ => 0)) := by rw [e_ks90, zup_ne _ _ (by omega)]; exact kh85
  have kh96 : ks90.1 (b + 5) = .inl (0, 60, .inl (fun _ => 0)) := by rw [e_ks90, zup_ne _ _ (by omega)]; exact kh86
  have kh97 : ks90.1 (b + 6) = .inl (1, 400, .inl (fun _ => 0)) := by rw [e_ks90, zup_ne _ _ (by omega)]; exact kh87
  have kH98 : ks90.2 = some (b + 7) := by rw [e_ks90]; exact kH88
  have kB99 : ∀ q, q < b → ks90.1 q = σ.1 q := fun q hq => by rw [e_ks90]; exact (zup_ne _ _ (by omega)).trans (kB89 q hq)
  refine zr_aload_n dX10_init_59 rfl ?_
  refine zr_sipush (v := 1300) dX10_init_60 (by decide) ?_
  refine zr_newarray (t := 0) (N := 1300) (x := (1300, .inl (fun _ => 0))) dX10_init_63 ac_int rfl rfl (fun C q => by cases q) (fun _ => rfl) (by decide) (by decide) (by decide) kH98 (by omega) (by omega) ?_
  refine zr_sig (fun ks100 e_ks100 => ?_)
  have kh101 : ks100.1 b = .inr (8, [.ref ((b + 1)), .ref ((b + 2)), .ref ((b + 3)), .ref ((b + 4)), .int 0, .int 0, .int 0, .int 0, .int 0, .int 0, .int 0, .int 0, .ref ((b + 5)), .int 0, .int ((-1)), .ref ((b + 6)), .int 0, .null, .null, .int 0, .int 0, .int 0, .int 0, .null, .null, .int 0, .null, .int 0]) := by rw [e_ks100, zup_ne _ _ (by omega)]; exact kh91
  have kh102 : ks100.1 (b + 1) = .inl (0, 82, .inl (fun _ => 0)) := by rw [e_ks100, zup_ne _ _ (by omega)]; exact kh92
  have kh103 : ks100.1 (b + 2) = .inl (0, 656, .inl (fun _ => 0)) := by rw [e_ks100, zup_ne _ _ (by omega)]; exact kh93
  have kh104 : ks100.1 (b + 3) = .inl (0, 82, .inl (fun _ => 0)) := by rw [e_ks100, zup_ne _ _ (by omega)]; exact kh94
  have kh105 : ks100.1 (b + 4) = .inl (0, 82, .inl (fun _ => 0)) := by rw [e_ks100, zup_ne _ _ (by omega)]; exact kh95
  have kh106 : ks100.1 (b + 5) = .inl (0, 60, .inl (fun _ => 0)) := by rw [e_ks100, zup_ne _ _ (by omega)]; exact kh96
  have kh107 : ks100.1 (b + 6) = .inl (1, 400, .inl (fun _ => 0)) := by rw [e_ks100, zup_ne _ _ (by omega)]; exact kh97
  have kh108 : ks100.1 (b + 7) = .inl (0, 1300, .inl (fun _ => 0)) := by rw [e_ks100]; exact zup_at _ _ _
  have kH109 : ks100.2 = some (b + 8) := by rw [e_ks100]; rfl
  have kB110 : ∀ q, q < b → ks100.1 q = σ.1 q := fun q hq => by rw [e_ks100]; exact (zup_ne _ _ (by omega)).trans (kB99 q hq)
  refine zr_putfinal (fs' := [.ref ((b + 1)), .ref ((b + 2)), .ref ((b + 3)), .ref ((b + 4)), .int 0, .int 0, .int 0, .int 0, .int 0, .int 0, .int 0, .int 0, .ref ((b + 5)), .int 0, .int ((-1)), .ref ((b + 6)), .int 0, .ref ((b + 7)), .null, .int 0, .int 0, .int 0, .int 0, .null, .null, .int 0, .null, .int 0]) dX10_init_65 rfl pX10_33 kh101 (by decide) rfl rfl (Nat.le_of_ble_eq_true rfl) rfl ?_
  refine zr_sig (fun ks111 e_ks111 => ?_)
  have kh112 : ks111.1 b = .inr (8, [.ref ((b + 1)), .ref ((b + 2)), .ref ((b + 3)), .ref ((b + 4)), .int 0, .int 0, .int 0, .int 0, .int 0, .int 0, .int 0, .int 0, .ref ((b + 5)), .int 0, .int ((-1)), .ref ((b + 6)), .int 0, .ref ((b + 7)), .null, .int 0, .int 0, .int 0, .int 0, .null, .null, .int 0, .null, .int 0]) := by rw [e_ks111]; exact zup_at _ _ _
  have kh113 : ks111.1 (b + 1) = .inl (0, 82, .inl (fun _ => 0)) := by rw [e_ks111, zup_ne _ _ (by omega)]; exact kh102
  have kh114 : ks111.1 (b + 2) = .inl (0, 656, .inl (fun _ => 0)) := by rw [e_ks111, zup_ne _ _ (by omega)]; exact kh103
  have kh115 : ks111.1 (b + 3) = .inl (0, 82, .inl (fun _ => 0)) := by rw [e_ks111, zup_ne _ _ (by omega)]; exact kh104
  have kh116 : ks111.1 (b + 4) = .inl (0, 82, .inl (fun _ => 0)) := by rw [e_ks111, zup_ne _ _ (by omega)]; exact kh105
  have kh117 : ks111.1 (b + 5) = .inl (0, 60, .inl (fun _ => 0)) := by rw [e_ks111, zup_ne _ _ (by omega)]; exact kh106
  have kh118 : ks111.1 (b + 6) = .inl (1, 400, .inl (fun _ => 0)) := by rw [e_ks111, zup_ne _ _ (by omega)]; exact kh107
  have kh119 : ks111.1 (b + 7) = .inl (0, 1300, .inl (fun _ => 0)) := by rw [e_ks111, zup_ne _ _ (by omega)]; exact kh108
  have kH120 : ks111.2 = some (b + 8) := by rw [e_ks111]; exact kH109
  have kB121 : ∀ q, q < b → ks111.1 q = σ.1 q := fun q hq => by rw [e_ks111]; exact (zup_ne _ _ (by omega)).trans (kB110 q hq)
  refine zr_aload_n dX10_init_68 rfl ?_
  refine zr_sipush (v := 1300) dX10_init_69 (by decide) ?_
  refine zr_newarray (t := 0) (N := 1300) (x := (1300, .inl (fun _ => 0))) dX10_init_72 ac_int rfl rfl (fun C q => by cases q) (fun _ => rfl) (by decide) (by decide) (by decide) kH120 (by omega) (by omega) ?_
  refine zr_sig (fun ks122 e_ks122 => ?_)
  have kh123 : ks122.1 b = .inr (8, [.ref ((b + 1)), .ref ((b + 2)), .ref ((b + 3)), .ref ((b + 4)), .int 0, .int 0, .int 0, .int 0, .int 0, .int 0, .int 0, .int 0, .ref ((b + 5)), .int 0, .int ((-1)), .ref ((b + 6)), .int 0, .ref ((b + 7)), .null, .int 0, .int 0, .int 0, .int 0, .null, .null, .int 0, .null, .int 0]) := by rw [e_ks122, zup_ne _ _ (by omega)]; exact kh112
  have kh124 : ks122.1 (b + 1) = .inl (0, 82, .inl (fun _ => 0)) := by rw [e_ks122, zup_ne _ _ (by omega)]; exact kh113
  have kh125 : ks122.1 (b + 2) = .inl (0, 656, .inl (fun _ => 0)) := by rw [e_ks122, zup_ne _ _ (by omega)]; exact kh114
  have kh126 : ks122.1 (b + 3) = .inl (0, 82, .inl (fun _ => 0)) := by rw [e_ks122, zup_ne _ _ (by omega)]; exact kh115
  have kh127 : ks122.1 (b + 4) = .inl (0, 82, .inl (fun _ => 0)) := by rw [e_ks122, zup_ne _ _ (by omega)]; exact kh116
  have kh128 : ks122.1 (b + 5) = .inl (0, 60, .inl (fun _ => 0)) := by rw [e_ks122, zup_ne _ _ (by omega)]; exact kh117
  have kh129 : ks122.1 (b + 6) = .inl (1, 400, .inl (fun _ => 0)) := by rw [e_ks122, zup_ne _ _ (by omega)]; exact kh118
  have kh130 : ks122.1 (b + 7) = .inl (0, 1300, .inl (fun _ => 0)) := by rw [e_ks122, zup_ne _ _ (by omega)]; exact kh119
  have kh131 : ks122.1 (b + 8) = .inl (0, 1300, .inl (fun _ => 0)) := by rw [e_ks122]; exact zup_at _ _ _
  have kH132 : ks122.2 = some (b + 9) := by rw [e_ks122]; rfl
  have kB133 : ∀ q, q < b → ks122.1 q = σ.1 q := fun q hq => by rw [e_ks122]; exact (zup_ne _ _ (by omega)).trans (kB121 q hq)
  refine zr_putfinal (fs' := [.ref ((b + 1)), .ref ((b + 2)), .ref ((b + 3)), .ref ((b + 4)), .int 0, .int 0, .int 0, .int 0, .int 0, .int 0, .int 0, .int 0, .ref ((b + 5)), .int 0, .int ((-1)), .ref ((b + 6)), .int 0, .ref ((b + 7)), .ref ((b + 8)), .int 0, .int 0, .int 0, .int 0, .null, .null, .int 0, .null, .int 0]) dX10_init_74 rfl pX10_36 kh123 (by decide) rfl rfl (Nat.le_of_ble_eq_true rfl) rfl ?_
  refine zr_sig (fun ks134 e_ks134 => ?_)
  have kh135 : ks134.1 b = .inr (8, [.ref ((b + 1)), .ref ((b + 2)), .ref ((b + 3)), .ref ((b + 4)), .int 0, .int 0, .int 0, .int 0, .int 0, .int 0, .int 0, .int 0, .ref ((b + 5)), .int 0, .int ((-1)), .ref ((b + 6)), .int 0, .ref ((b + 7)), .ref ((b + 8)), .int 0, .int 0, .int 0, .int 0, .null, .null, .int 0, .null, .int 0]) := by rw [e_ks134]; exact zup_at _ _ _
  have kh136 : ks134.1 (b + 1) = .inl (0, 82, .inl (fun _ => 0)) := by rw [e_ks134, zup_ne _ _ (by omega)]; exact kh124
  have kh137 : ks134.1 (b + 2) = .inl (0, 656, .inl (fun _ => 0)) := by rw [e_ks134, zup_ne _ _ (by omega)]; exact kh125
  have kh138 : ks134.1 (b + 3) = .inl (0, 82, .inl (fun _ => 0)) := by rw [e_ks134, zup_ne _ _ (by omega)]; exact kh126
  have kh139 : ks134.1 (b + 4) = .inl (0, 82, .inl (fun _ => 0)) := by rw [e_ks134, zup_ne _ _ (by omega)]; exact kh127
  have kh140 : ks134.1 (b + 5) = .inl (0, 60, .inl (fun _ => 0)) := by rw [e_ks134, zup_ne _ _ (by omega)]; exact kh128
  have kh141 : ks134.1 (b + 6) = .inl (1, 400, .inl (fun _ => 0)) := by rw [e_ks134, zup_ne _ _ (by omega)]; exact kh129
  have kh142 : ks134.1 (b + 7) = .inl (0, 1300, .inl (fun _ => 0)) := by rw [e_ks134, zup_ne _ _ (by omega)]; exact kh130
  have kh143 : ks134.1 (b + 8) = .inl (0, 1300, .inl (fun _ => 0)) := by rw [e_ks134, zup_ne _ _ (by omega)]; exact kh131
  have kH144 : ks134.2 = some (b + 9) := by rw [e_ks134]; exact kH132
  have kB145 : ∀ q, q < b → ks134.1 q = σ.1 q := fun q hq => by rw [e_ks134]; exact (zup_ne _ _ (by omega)).trans (kB133 q hq)
  refine zr_aload_n dX10_init_77 rfl ?_
  refine zr_bipush (v := 10) dX10_init_78 (by decide) ?_
  refine zr_newarray (t := 3) (N := 10) (x := (10, .inr (.inl (z64 (fun _ => 0))))) dX10_init_80 ac_long rfl rfl (fun C q => by cases q) (fun _ => rfl) (by decide) (by decide) (by decide) kH144 (by omega) (by omega) ?_
  refine zr_sig (fun ks146 e_ks146 => ?_)
  have kh147 : ks146.1 b = .inr (8, [.ref ((b + 1)), .ref ((b + 2)), .ref ((b + 3)), .ref ((b + 4)), .int 0, .int 0, .int 0, .int 0, .int 0, .int 0, .int 0, .int 0, .ref ((b + 5)), .int 0, .int ((-1)), .ref ((b + 6)), .int 0, .ref ((b + 7)), .ref ((b + 8)), .int 0, .int 0, .int 0, .int 0, .null, .null, .int 0, .null, .int 0]) := by rw [e_ks146, zup_ne _ _ (by omega)]; exact kh135
  have kh148 : ks146.1 (b + 1) = .inl (0, 82, .inl (fun _ => 0)) := by rw [e_ks146, zup_ne _ _ (by omega)]; exact kh136
  have kh149 : ks146.1 (b + 2) = .inl (0, 656, .inl (fun _ => 0)) := by rw [e_ks146, zup_ne _ _ (by omega)]; exact kh137
  have kh150 : ks146.1 (b + 3) = .inl (0, 82, .inl (fun _ => 0)) := by rw [e_ks146, zup_ne _ _ (by omega)]; exact kh138
  have kh151 : ks146.1 (b + 4) = .inl (0, 82, .inl (fun _ => 0)) := by rw [e_ks146, zup_ne _ _ (by omega)]; exact kh139
  have kh152 : ks146.1 (b + 5) = .inl (0, 60, .inl (fun _ => 0)) := by rw [e_ks146, zup_ne _ _ (by omega)]; exact kh140
  have kh153 : ks146.1 (b + 6) = .inl (1, 400, .inl (fun _ => 0)) := by rw [e_ks146, zup_ne _ _ (by omega)]; exact kh141
  have kh154 : ks146.1 (b + 7) = .inl (0, 1300, .inl (fun _ => 0)) := by rw [e_ks146, zup_ne _ _ (by omega)]; exact kh142
  have kh155 : ks146.1 (b + 8) = .inl (0, 1300, .inl (fun _ => 0)) := by rw [e_ks146, zup_ne _ _ (by omega)]; exact kh143
  have kh156 : ks146.1 (b + 9) = .inl (3, 10, .inr (.inl (z64 (fun _ => 0)))) := by rw [e_ks146]; exact zup_at _ _ _
  have kH157 : ks146.2 = some (b + 10) := by rw [e_ks146]; rfl
  have kB158 : ∀ q, q < b → ks146.1 q = σ.1 q := fun q hq => by rw [e_ks146]; exact (zup_ne _ _ (by omega)).trans (kB145 q hq)
  refine zr_putfinal (fs' := [.ref ((b + 1)), .ref ((b + 2)), .ref ((b + 3)), .ref ((b + 4)), .int 0, .int 0, .int 0, .int 0, .int 0, .int 0, .int 0, .int 0, .ref ((b + 5)), .int 0, .int ((-1)), .ref ((b + 6)), .int 0, .ref ((b + 7)), .ref ((b + 8)), .int 0, .int 0, .int 0, .int 0, .ref ((b + 9)), .null, .int 0, .null, .int 0]) dX10_init_82 rfl pX10_39 kh147 (by decide) rfl rfl (Nat.le_of_ble_eq_true rfl) rfl ?_
  refine zr_sig (fun ks159 e_ks159 => ?_)
  have kh160 : ks159.1 b = .inr (8, [.ref ((b + 1)), .ref ((b + 2)), .ref ((b + 3)), .ref ((b + 4)), .int 0, .int 0, .int 0, .int 0, .int 0, .int 0, .int 0, .int 0, .ref ((b + 5)), .int 0, .int ((-1)), .ref ((b + 6)), .int 0, .ref ((b + 7)), .ref ((b + 8)), .int 0, .int 0, .int 0, .int 0, .ref ((b + 9)), .null, .int 0, .null, .int 0]) := by rw [e_ks159]; exact zup_at _ _ _
  have kh161 : ks159.1 (b + 1) = .inl (0, 82, .inl (fun _ => 0)) := by rw [e_ks159, zup_ne _ _ (by omega)]; exact kh148
  have kh162 : ks159.1 (b + 2) = .inl (0, 656, .inl (fun _ => 0)) := by rw [e_ks159, zup_ne _ _ (by omega)]; exact kh149
  have kh163 : ks159.1 (b + 3) = .inl (0, 82, .inl (fun _ => 0)) := by rw [e_ks159, zup_ne _ _ (by omega)]; exact kh150
  have kh164 : ks159.1 (b + 4) = .inl (0, 82, .inl (fun _ => 0)) := by rw [e_ks159, zup_ne _ _ (by omega)]; exact kh151
  have kh165 : ks159.1 (b + 5) = .inl (0, 60, .inl (fun _ => 0)) := by rw [e_ks159, zup_ne _ _ (by omega)]; exact kh152
  have kh166 : ks159.1 (b + 6) = .inl (1, 400, .inl (fun _ => 0)) := by rw [e_ks159, zup_ne _ _ (by omega)]; exact kh153
  have kh167 : ks159.1 (b + 7) = .inl (0, 1300, .inl (fun _ => 0)) := by rw [e_ks159, zup_ne _ _ (by omega)]; exact kh154
  have kh168 : ks159.1 (b + 8) = .inl (0, 1300, .inl (fun _ => 0)) := by rw [e_ks159, zup_ne _ _ (by omega)]; exact kh155
  have kh169 : ks159.1 (b + 9) = .inl (3, 10, .inr (.inl (z64 (fun _ => 0)))) := by rw [e_ks159, zup_ne _ _ (by omega)]; exact kh156
  have kH170 : ks159.2 = some (b + 10) := by rw [e_ks159]; exact kH157
  have kB171 : ∀ q, q < b → ks159.1 q = σ.1 q := fun q hq => by rw [e_ks159]; exact (zup_ne _ _ (by omega)).trans (kB158 q hq)
  refine zr_aload_n dX10_init_85 rfl ?_
  refine zr_bipush (v := 10) dX10_init_86 (by decide) ?_
  refine zr_newarray (t := 3) (N := 10) (x := (10, .inr (.inl (z64 (fun _ => 0))))) dX10_init_88 ac_long rfl rfl (fun C q => by cases q) (fun _ => rfl) (by decide) (by decide) (by decide) kH170 (by omega) (by omega) ?_
  refine zr_sig (fun ks172 e_ks172 => ?_)
  have kh173 : ks172.1 b = .inr (8, [.ref ((b + 1)), .ref ((b + 2)), .ref ((b + 3)), .ref ((b + 4)), .int 0, .int 0, .int 0, .int 0, .int 0, .int 0, .int 0, .int 0, .ref ((b + 5)), .int 0, .int ((-1)), .ref ((b + 6)), .int 0, .ref ((b + 7)), .ref ((b + 8)), .int 0, .int 0, .int 0, .int 0, .ref ((b + 9)), .null, .int 0, .null, .int 0]) := by rw [e_ks172, zup_ne _ _ (by omega)]; exact kh160
  have kh174 : ks172.1 (b + 1) = .inl (0, 82, .inl (fun _ => 0)) := by rw [e_ks172, zup_ne _ _ (by omega)]; exact kh161
  have kh175 : ks172.1 (b + 2) = .inl (0, 656, .inl (fun _ => 0)) := by rw [e_ks172, zup_ne _ _ (by omega)]; exact kh162
  have kh176 : ks172.1 (b + 3) = .inl (0, 82, .inl (fun _ => 0)) := by rw [e_ks172, zup_ne _ _ (by omega)]; exact kh163
  have kh177 : ks172.1 (b + 4) = .inl (0, 82, .inl (fun _ => 0)) := by rw [e_ks172, zup_ne _ _ (by omega)]; exact kh164
  have kh178 : ks172.1 (b + 5) = .inl (0, 60, .inl (fun _ => 0)) := by rw [e_ks172, zup_ne _ _ (by omega)]; exact kh165
  have kh179 : ks172.1 (b + 6) = .inl (1, 400, .inl (fun _ => 0)) := by rw [e_ks172, zup_ne _ _ (by omega)]; exact kh166
  have kh180 : ks172.1 (b + 7) = .inl (0, 1300, .inl (fun _ => 0)) := by rw [e_ks172, zup_ne _ _ (by omega)]; exact kh167
  have kh181 : ks172.1 (b + 8) = .inl (0, 1300, .inl (fun _ => 0)) := by rw [e_ks172, zup_ne _ _ (by omega)]; exact kh168
  have kh182 : ks172.1 (b + 9) = .inl (3, 10, .inr (.inl (z64 (fun _ => 0)))) := by rw [e_ks172, zup_ne _ _ (by omega)]; exact kh169
  have kh183 : ks172.1 (b + 10) = .inl (3, 10, .inr (.inl (z64 (fun _ => 0)))) := by rw [e_ks172]; exact zup_at _ _ _
  have kH184 : ks172.2 = some (b + 11) := by rw [e_ks172]; rfl
  have kB185 : ∀ q, q < b → ks172.1 q = σ.1 q := fun q hq => by rw [e_ks172]; exact (zup_ne _ _ (by omega)).trans (kB171 q hq)
  refine zr_putfinal (fs' := [.ref ((b + 1)), .ref ((b + 2)), .ref ((b + 3)), .ref ((b + 4)), .int 0, .int 0, .int 0, .int 0, .int 0, .int 0, .int 0, .int 0, .ref ((b + 5)), .int 0, .int ((-1)), .ref ((b + 6)), .int 0, .ref ((b + 7)), .ref ((b + 8)), .int 0, .int 0, .int 0, .int 0, .ref ((b + 9)), .ref ((b + 10)), .int 0, .null, .int 0]) dX10_init_90 rfl pX10_43 kh173 (by decide) rfl rfl (Nat.le_of_ble_eq_true rfl) rfl ?_
  refine zr_sig (fun ks186 e_ks186 => ?_)
  have kh187 : ks186.1 b = .inr (8, [.ref ((b + 1)), .ref ((b + 2)), .ref ((b + 3)), .ref ((b + 4)), .int 0, .int 0, .int 0, .int 0, .int 0, .int 0, .int 0, .int 0, .ref ((b + 5)), .int 0, .int ((-1)), .ref ((b + 6)), .int 0, .ref ((b + 7)), .ref ((b + 8)), .int 0, .int 0, .int 0, .int 0, .ref ((b + 9)), .ref ((b + 10)), .int 0, .null, .int 0]) := by rw [e_ks186]; exact zup_at _ _ _
  have kh188 : ks186.1 (b + 1) = .inl (0, 82, .inl (fun _ => 0)) := by rw [e_ks186, zup_ne _ _ (by omega)]; exact kh174
  have kh189 : ks186.1 (b + 2) = .inl (0, 656, .inl (fun _ => 0)) := by rw [e_ks186, zup_ne _ _ (by omega)]; exact kh175
  have kh190 : ks186.1 (b + 3) = .inl (0, 82, .inl (fun _ => 0)) := by rw [e_ks186, zup_ne _ _ (by omega)]; exact kh176
  have kh191 : ks186.1 (b + 4) = .inl (0, 82, .inl (fun _ => 0)) := by rw [e_ks186, zup_ne _ _ (by omega)]; exact kh177
  have kh192 : ks186.1 (b + 5) = .inl (0, 60, .inl (fun _ => 0)) := by rw [e_ks186, zup_ne _ _ (by omega)]; exact kh178
  have kh193 : ks186.1 (b + 6) = .inl (1, 400, .inl (fun _ => 0)) := by rw [e_ks186, zup_ne _ _ (by omega)]; exact kh179
  have kh194 : ks186.1 (b + 7) = .inl (0, 1300, .inl (fun _ => 0)) := by rw [e_ks186, zup_ne _ _ (by omega)]; exact kh180
  have kh195 : ks186.1 (b + 8) = .inl (0, 1300, .inl (fun _ => 0)) := by rw [e_ks186, zup_ne _ _ (by omega)]; exact kh181
  have kh196 : ks186.1 (b + 9) = .inl (3, 10, .inr (.inl (z64 (fun _ => 0)))) := by rw [e_ks186, zup_ne _ _ (by omega)]; exact kh182
  have kh197 : ks186.1 (b + 10) = .inl (3, 10, .inr (.inl (z64 (fun _ => 0)))) := by rw [e_ks186, zup_ne _ _ (by omega)]; exact kh183
  have kH198 : ks186.2 = some (b + 11) := by rw [e_ks186]; exact kH184
  have kB199 : ∀ q, q < b → ks186.1 q = σ.1 q := fun q hq => by rw [e_ks186]; exact (zup_ne _ _ (by omega)).trans (kB185 q hq)
  refine zr_aload_n dX10_init_93 rfl ?_
  refine zr_bipush (v := 93) dX10_init_94 (by decide) ?_
  refine zr_newarray (t := 0) (N := 93) (x := (93, .inl (fun _ => 0))) dX10_init_96 ac_int rfl rfl (fun C q => by cases q) (fun _ => rfl) (by decide) (by decide) (by decide) kH198 (by omega) (by omega) ?_
  refine zr_sig (fun ks200 e_ks200 => ?_)
  have kh201 : ks200.1 b = .inr (8, [.ref ((b + 1)), .ref ((b + 2)), .ref ((b + 3)), .ref ((b + 4)), .int 0, .int 0, .int 0, .int 0, .int 0, .int 0, .int 0, .int 0, .ref ((b + 5)), .int 0, .int ((-1)), .ref ((b + 6)), .int 0, .ref ((b + 7)), .ref ((b + 8)), .int 0, .int 0, .int 0, .int 0, .ref ((b + 9)), .ref ((b + 10)), .int 0, .null, .int 0]) := by rw [e_ks200, zup_ne _ _ (by omega)]; exact kh187
  have kh202 : ks200.1 (b + 1) = .inl (0, 82, .inl (fun _ => 0)) := by rw [e_ks200, zup_ne _ _ (by omega)]; exact kh188
  have kh203 : ks200.1 (b + 2) = .inl (0, 656, .inl (fun _ => 0)) := by rw [e_ks200, zup_ne _ _ (by omega)]; exact kh189
  have kh204 : ks200.1 (b + 3) = .inl (0, 82, .inl (fun _ => 0)) := by rw [e_ks200, zup_ne _ _ (by omega)]; exact kh190
  have kh205 : ks200.1 (b + 4) = .inl (0, 82, .inl (fun _ => 0)) := by rw [e_ks200, zup_ne _ _ (by omega)]; exact kh191
  have kh206 : ks200.1 (b + 5) = .inl (0, 60, .inl (fun _ => 0)) := by rw [e_ks200, zup_ne _ _ (by omega)]; exact kh192
  have kh207 : ks200.1 (b + 6) = .inl (1, 400, .inl (fun _ => 0)) := by rw [e_ks200, zup_ne _ _ (by omega)]; exact kh193
  have kh208 : ks200.1 (b + 7) = .inl (0, 1300, .inl (fun _ => 0)) := by rw [e_ks200, zup_ne _ _ (by omega)]; exact kh194
  have kh209 : ks200.1 (b + 8) = .inl (0, 1300, .inl (fun _ => 0)) := by rw [e_ks200, zup_ne _ _ (by omega)]; exact kh195
  have kh210 : ks200.1 (b + 9) = .inl (3, 10, .inr (.inl (z64 (fun _ => 0)))) := by rw [e_ks200, zup_ne _ _ (by omega)]; exact kh196
  have kh211 : ks200.1 (b + 10) = .inl (3, 10, .inr (.inl (z64 (fun _ => 0)))) := by rw [e_ks200, zup_ne _ _ (by omega)]; exact kh197
  have kh212 : ks200.1 (b + 11) = .inl (0, 93, .inl (fun _ => 0)) := by rw [e_ks200]; exact zup_at _ _ _
  have kH213 : ks200.2 = some (b + 12) := by rw [e_ks200]; rfl
  have kB214 : ∀ q, q < b → ks200.1 q = σ.1 q := fun q hq => by rw [e_ks200]; exact (zup_ne _ _ (by omega)).trans (kB199 q hq)
  refine zr_putfinal (fs' := [.ref ((b + 1)), .ref ((b + 2)), .ref ((b + 3)), .ref ((b + 4)), .int 0, .int 0, .int 0, .int 0, .int 0, .int 0, .int 0, .int 0, .ref ((b + 5)), .int 0, .int ((-1)), .ref ((b + 6)), .int 0, .ref ((b + 7)), .ref ((b + 8)), .int 0, .int 0, .int 0, .int 0, .ref ((b + 9)), .ref ((b + 10)), .int 0, .ref ((b + 11)), .int 0]) dX10_init_98 rfl pX10_46 kh201 (by decide) rfl rfl (Nat.le_of_ble_eq_true rfl) rfl ?_
  refine zr_sig (fun ks215 e_ks215 => ?_)
  have kh216 : ks215.1 b = .inr (8, [.ref ((b + 1)), .ref ((b + 2)), .ref ((b + 3)), .ref ((b + 4)), .int 0, .int 0, .int 0, .int 0, .int 0, .int 0, .int 0, .int 0, .ref ((b + 5)), .int 0, .int ((-1)), .ref ((b + 6)), .int 0, .ref ((b + 7)), .ref ((b + 8)), .int 0, .int 0, .int 0, .int 0, .ref ((b + 9)), .ref ((b + 10)), .int 0, .ref ((b + 11)), .int 0]) := by rw [e_ks215]; exact zup_at _ _ _
  have kh217 : ks215.1 (b + 1) = .inl (0, 82, .inl (fun _ => 0)) := by rw [e_ks215, zup_ne _ _ (by omega)]; exact kh202
  have kh218 : ks215.1 (b + 2) = .inl (0, 656, .inl (fun _ => 0)) := by rw [e_ks215, zup_ne _ _ (by omega)]; exact kh203
  have kh219 : ks215.1 (b + 3) = .inl (0, 82, .inl (fun _ => 0)) := by rw [e_ks215, zup_ne _ _ (by omega)]; exact kh204
  have kh220 : ks215.1 (b + 4) = .inl (0, 82, .inl (fun _ => 0)) := by rw [e_ks215, zup_ne _ _ (by omega)]; exact kh205
  have kh221 : ks215.1 (b + 5) = .inl (0, 60, .inl (fun _ => 0)) := by rw [e_ks215, zup_ne _ _ (by omega)]; exact kh206
  have kh222 : ks215.1 (b + 6) = .inl (1, 400, .inl (fun _ => 0)) := by rw [e_ks215, zup_ne _ _ (by omega)]; exact kh207
  have kh223 : ks215.1 (b + 7) = .inl (0, 1300, .inl (fun _ => 0)) := by rw [e_ks215, zup_ne _ _ (by omega)]; exact kh208
  have kh224 : ks215.1 (b + 8) = .inl (0, 1300, .inl (fun _ => 0)) := by rw [e_ks215, zup_ne _ _ (by omega)]; exact kh209
  have kh225 : ks215.1 (b + 9) = .inl (3, 10, .inr (.inl (z64 (fun _ => 0)))) := by rw [e_ks215, zup_ne _ _ (by omega)]; exact kh210
  have kh226 : ks215.1 (b + 10) = .inl (3, 10, .inr (.inl (z64 (fun _ => 0)))) := by rw [e_ks215, zup_ne _ _ (by omega)]; exact kh211
  have kh227 : ks215.1 (b + 11) = .inl (0, 93, .inl (fun _ => 0)) := by rw [e_ks215, zup_ne _ _ (by omega)]; exact kh212
  have kH228 : ks215.2 = some (b + 12) := by rw [e_ks215]; exact kH213
  have kB229 : ∀ q, q < b → ks215.1 q = σ.1 q := fun q hq => by rw [e_ks215]; exact (zup_ne _ _ (by omega)).trans (kB214 q hq)
  exact zr_return dX10_init_101 rfl (⟨rfl, ⟨kH228, kB229⟩, fun U T ln => ⟨fun k => if k = 14 then -1 else 0, _, _, _, _, _, _, _, kh216, ⟨rfl, rfl, rfl, rfl, rfl, rfl, rfl, rfl, rfl, rfl, rfl, rfl⟩, kh217, kh218, kh219, kh220, kh221, kh222, kh227, ⟨[], _, kh223, rfl⟩, ⟨_, kh224⟩, ⟨_, kh225⟩, ⟨_, kh226⟩, ⟨rfl, rfl, fun i hi => absurd hi (Nat.not_lt_zero i), fun i hi => absurd hi (Nat.not_lt_zero i)⟩, ⟨rfl, rfl, fun i hi => absurd hi (Nat.not_lt_zero i), fun i hi => absurd hi (Nat.not_lt_zero i)⟩, ⟨rfl, rfl, fun i hi => absurd hi (Nat.not_lt_zero i), fun i hi => absurd hi (Nat.not_lt_zero i)⟩, Nat.zero_le _, fun i hi => absurd hi (Nat.not_lt_zero i), Nat.zero_le _, fun i hi => absurd hi (Nat.not_lt_zero i), Nat.zero_le _, fun i hi => absurd hi (Nat.not_lt_zero i)⟩⟩)

