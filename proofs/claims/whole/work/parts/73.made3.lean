/-! the court and the reference, made -/
def zSk0 (b : Nat) (s : zS) : Prop := ∀ T, zSk b 0 T s
theorem zSk0.fr {b : Nat} {σ s : zS} {P : Nat → Prop} (h : zSk0 b σ) (F : zFr σ s P) (hp : ∀ q, b ≤ q → q < b + 5 → ¬ P q) : zSk0 b s := fun T => (h T).fr F hp
theorem qC7_init {X : zX} (hX : X.1.stackTraces = false) {σ : zS} {b : Nat} (h0 : σ.1 b = .inr (5, [.null, .int 0, .null, .null, .null, .int 0, .int 0])) (hh : σ.2 = some (b + 1)) : zMet X mX7_init yX7_init 1 4 96 [.ref b] σ (zV (fun s => zNw b σ s 5 ∧ zSk0 b s)) := (qX7_init hX h0 hh).mono (fun o s q => by
  obtain ⟨e, N, k0, k1, ⟨cf, k2⟩, k3, k4⟩ := q
  exact ⟨e, N, fun T => ⟨_, _, _, cf, _, _, Nat.zero_le _, k0, k1, k2, k3, k4, fun k hk => absurd hk (Nat.not_lt_zero k)⟩⟩)
theorem qC4_init {X : zX} (hX : X.1.stackTraces = false) {σ : zS} {b : Nat} (h0 : σ.1 b = .inr (2, [.null, .int 0, .int 0])) (hh : σ.2 = some (b + 1)) : zMet X mX4_init yX4_init 3 177 1536 [.ref b] σ (zV (fun s => zNw b σ s 178 ∧ zHi0 b s)) := qX4_init hX h0 hh
set_option maxHeartbeats 400000 in
set_option maxRecDepth 100000 in
theorem qX5_init {X : zX} (hX : X.1.stackTraces = false) {σ : zS} {b : Nat}  (h0 : σ.1 b = .inr (3, [.null, .null, .null, .null])) (hh : σ.2 = some (b + 1))  : zMet X mX5_init yX5_init 3 29 1019 [.ref b] σ (zV (fun s => zNw b σ s 30 ∧ s.1 b = .inr (3, [.ref (b + 1), .ref (b + 23), .ref (b + 26), .ref (b + 28)]) ∧ s.1 (b + 23) = .inr (4, [.ref (b + 24), .ref (b + 25), .int 0, .int 0, .int 0, .int 0]) ∧ s.1 (b + 24) = .inl (0, 400, .inl (fun _ => 0)) ∧ s.1 (b + 25) = .inl (0, 400, .inl (fun _ => 0)) ∧ s.1 (b + 26) = .inr (0, [.ref (b + 27)]) ∧ s.1 (b + 27) = .inl (3, 10, .inr (.inl (z64 (fun _ => 0)))) ∧ s.1 (b + 28) = .inr (0, [.ref (b + 29)]) ∧ s.1 (b + 29) = .inl (3, 10, .inr (.inl (z64 (fun _ => 0)))) ∧ zDA (b + 1) zE0 s)) := by
  refine zMet_of (ls := [some (.ref b)]) rfl (by decide +kernel) rfl (fun _ => rfl) hX (Nat.le_of_ble_eq_true rfl) rfl ?_
  have hB : ∀ q, q < b → σ.1 q = σ.1 q := fun q _ => rfl
  refine zr_aload_n dX5_init_0 rfl ?_
  refine zr_objInit dX5_init_1 oX5_3 (by decide) (by decide) ?_
  refine zr_aload_n dX5_init_4 rfl ?_
  refine zr_new dX5_init_5 nX5_9 hh (by omega) (by omega) ?_
  refine zr_sig (fun ks1 e_ks1 => ?_)
  have kh2 : ks1.1 b = .inr (3, [.null, .null, .null, .null]) := by rw [e_ks1, zup_ne _ _ (by omega)]; exact h0
  have kh3 : ks1.1 (b + 1) = .inr (1, [.null, .null, .null, .null, .null, .int 0, .int 0]) := by rw [e_ks1]; exact zup_at _ _ _
  have kH4 : ks1.2 = some (b + 2) := by rw [e_ks1]; rfl
  have kB5 : ∀ q, q < b → ks1.1 q = σ.1 q := fun q hq => by rw [e_ks1]; exact (zup_ne _ _ (by omega)).trans (hB q hq)
  refine zr_dup dX5_init_8 rfl ?_
  refine zr_callIv [.ref ((b + 1)), .ref b] dX5_init_9 vX5_11 (qX3_init hX  kh3 kH4) (by decide) (by omega) (by omega) rfl rfl (Nat.le_of_ble_eq_true rfl) rfl (fun s_5 h_ => ?_)
  obtain ⟨⟨kH8, kB9⟩, kR7⟩ := h_
  have kh10 : s_5.1 b = .inr (3, [.null, .null, .null, .null]) := (kB9 _ (by omega)).trans kh2
  have kH11 : s_5.2 = some (b + 23) := by rw [kH8]
  have kB12 : ∀ q, q < b → s_5.1 q = σ.1 q := fun q hq => (kB9 q (by omega)).trans (kB5 q hq)
  refine zr_putfinal (fs' := [.ref ((b + 1)), .null, .null, .null]) dX5_init_12 rfl pX5_12 kh10 (by decide) rfl rfl (Nat.le_of_ble_eq_true rfl) rfl ?_
  refine zr_sig (fun ks13 e_ks13 => ?_)
  have kh14 : ks13.1 b = .inr (3, [.ref ((b + 1)), .null, .null, .null]) := by rw [e_ks13]; exact zup_at _ _ _
  have kR15 : zDA (b + 1) zE0 ks13 := zDA.fr kR7 (zFr.put (P := fun q => q = b) zFr.rf e_ks13 rfl) (by intro q h1 h2 h3; (try simp only [zIn, zJf] at h3); omega)
  have kH16 : ks13.2 = some (b + 23) := by rw [e_ks13]; exact kH11
  have kB17 : ∀ q, q < b → ks13.1 q = σ.1 q := fun q hq => by rw [e_ks13]; exact (zup_ne _ _ (by omega)).trans (kB12 q hq)
  refine zr_aload_n dX5_init_15 rfl ?_
  refine zr_new dX5_init_16 nX5_18 kH16 (by omega) (by omega) ?_
  refine zr_sig (fun ks18 e_ks18 => ?_)
  have kh19 : ks18.1 b = .inr (3, [.ref ((b + 1)), .null, .null, .null]) := by rw [e_ks18, zup_ne _ _ (by omega)]; exact kh14
  have kh20 : ks18.1 (b + 23) = .inr (4, [.null, .null, .int 0, .int 0, .int 0, .int 0]) := by rw [e_ks18]; exact zup_at _ _ _
  have kR21 : zDA (b + 1) zE0 ks18 := zDA.fr (σ := (ks13.1, none)) (s := (ks18.1, none)) (P := fun q => q = b + 23) kR15 ⟨rfl, fun q hq => by show ks18.1 q = ks13.1 q; rw [e_ks18, zup_ne _ _ hq]⟩ (by intro q h1 h2 h3; omega)
  have kH22 : ks18.2 = some (b + 24) := by rw [e_ks18]; rfl
  have kB23 : ∀ q, q < b → ks18.1 q = σ.1 q := fun q hq => by rw [e_ks18]; exact (zup_ne _ _ (by omega)).trans (kB17 q hq)
  refine zr_dup dX5_init_19 rfl ?_
  refine zr_callIv [.ref ((b + 23)), .ref b] dX5_init_20 vX5_20 (qX6_init hX  kh20 kH22) (by decide) (by omega) (by omega) rfl rfl (Nat.le_of_ble_eq_true rfl) rfl (fun s_23 h_ => ?_)
  obtain ⟨⟨kH28, kB29⟩, kh25, kh26, kh27⟩ := h_
  have kh30 : s_23.1 b = .inr (3, [.ref ((b + 1)), .null, .null, .null]) := (kB29 _ (by omega)).trans kh19
  have kR31 : zDA (b + 1) zE0 s_23 := zDA.fr (σ := (ks18.1, none)) (s := (s_23.1, none)) (P := fun q => b + 23 ≤ q) kR21 ⟨rfl, fun q hq => kB29 q (Nat.not_le.mp hq)⟩ (by intro q h1 h2 (h3 : b + 23 ≤ q); omega)
  have kH32 : s_23.2 = some (b + 26) := by rw [kH28]
  have kB33 : ∀ q, q < b → s_23.1 q = σ.1 q := fun q hq => (kB29 q (by omega)).trans (kB23 q hq)
  refine zr_putfinal (fs' := [.ref ((b + 1)), .ref ((b + 23)), .null, .null]) dX5_init_23 rfl pX5_21 kh30 (by decide) rfl rfl (Nat.le_of_ble_eq_true rfl) rfl ?_
  refine zr_sig (fun ks34 e_ks34 => ?_)
  have kh35 : ks34.1 b = .inr (3, [.ref ((b + 1)), .ref ((b + 23)), .null, .null]) := by rw [e_ks34]; exact zup_at _ _ _
  have kh36 : ks34.1 (b + 23) = .inr (4, [.ref ((b + 24)), .ref ((b + 25)), .int 0, .int 0, .int 0, .int 0]) := by rw [e_ks34, zup_ne _ _ (by omega)]; exact kh25
  have kh37 : ks34.1 (b + 24) = .inl (0, 400, .inl (fun _ => 0)) := by rw [e_ks34, zup_ne _ _ (by omega)]; exact kh26
  have kh38 : ks34.1 (b + 25) = .inl (0, 400, .inl (fun _ => 0)) := by rw [e_ks34, zup_ne _ _ (by omega)]; exact kh27
  have kR39 : zDA (b + 1) zE0 ks34 := zDA.fr kR31 (zFr.put (P := fun q => q = b) zFr.rf e_ks34 rfl) (by intro q h1 h2 h3; (try simp only [zIn, zJf] at h3); omega)
  have kH40 : ks34.2 = some (b + 26) := by rw [e_ks34]; exact kH32
  have kB41 : ∀ q, q < b → ks34.1 q = σ.1 q := fun q hq => by rw [e_ks34]; exact (zup_ne _ _ (by omega)).trans (kB33 q hq)
  refine zr_aload_n dX5_init_26 rfl ?_
  refine zr_new dX5_init_27 nX5_25 kH40 (by omega) (by omega) ?_
  refine zr_sig (fun ks42 e_ks42 => ?_)
  have kh43 : ks42.1 b = .inr (3, [.ref ((b + 1)), .ref ((b + 23)), .null, .null]) := by rw [e_ks42, zup_ne _ _ (by omega)]; exact kh35
  have kh44 : ks42.1 (b + 23) = .inr (4, [.ref ((b + 24)), .ref ((b + 25)), .int 0, .int 0, .int 0, .int 0]) := by rw [e_ks42, zup_ne _ _ (by omega)]; exact kh36
  have kh45 : ks42.1 (b + 24) = .inl (0, 400, .inl (fun _ => 0)) := by rw [e_ks42, zup_ne _ _ (by omega)]; exact kh37
  have kh46 : ks42.1 (b + 25) = .inl (0, 400, .inl (fun _ => 0)) := by rw [e_ks42, zup_ne _ _ (by omega)]; exact kh38
  have kh47 : ks42.1 (b + 26) = .inr (0, [.null]) := by rw [e_ks42]; exact zup_at _ _ _
  have kR48 : zDA (b + 1) zE0 ks42 := zDA.fr (σ := (ks34.1, none)) (s := (ks42.1, none)) (P := fun q => q = b + 26) kR39 ⟨rfl, fun q hq => by show ks42.1 q = ks34.1 q; rw [e_ks42, zup_ne _ _ hq]⟩ (by intro q h1 h2 h3; omega)
  have kH49 : ks42.2 = some (b + 27) := by rw [e_ks42]; rfl
  have kB50 : ∀ q, q < b → ks42.1 q = σ.1 q := fun q hq => by rw [e_ks42]; exact (zup_ne _ _ (by omega)).trans (kB41 q hq)
  refine zr_dup dX5_init_30 rfl ?_
  refine zr_callIv [.ref ((b + 26)), .ref b] dX5_init_31 vX5_27 (qX2_init hX  kh47 kH49) (by decide) (by omega) (by omega) rfl rfl (Nat.le_of_ble_eq_true rfl) rfl (fun s_50 h_ => ?_)
  obtain ⟨⟨kH54, kB55⟩, kh52, kh53⟩ := h_
  have kh56 : s_50.1 b = .inr (3, [.ref ((b + 1)), .ref ((b + 23)), .null, .null]) := (kB55 _ (by omega)).trans kh43
  have kh57 : s_50.1 (b + 23) = .inr (4, [.ref ((b + 24)), .ref ((b + 25)), .int 0, .int 0, .int 0, .int 0]) := (kB55 _ (by omega)).trans kh44
  have kh58 : s_50.1 (b + 24) = .inl (0, 400, .inl (fun _ => 0)) := (kB55 _ (by omega)).trans kh45
  have kh59 : s_50.1 (b + 25) = .inl (0, 400, .inl (fun _ => 0)) := (kB55 _ (by omega)).trans kh46
  have kR60 : zDA (b + 1) zE0 s_50 := zDA.fr (σ := (ks42.1, none)) (s := (s_50.1, none)) (P := fun q => b + 26 ≤ q) kR48 ⟨rfl, fun q hq => kB55 q (Nat.not_le.mp hq)⟩ (by intro q h1 h2 (h3 : b + 26 ≤ q); omega)
  have kH61 : s_50.2 = some (b + 28) := by rw [kH54]
  have kB62 : ∀ q, q < b → s_50.1 q = σ.1 q := fun q hq => (kB55 q (by omega)).trans (kB50 q hq)
  refine zr_putfinal (fs' := [.ref ((b + 1)), .ref ((b + 23)), .ref ((b + 26)), .null]) dX5_init_34 rfl pX5_28 kh56 (by decide) rfl rfl (Nat.le_of_ble_eq_true rfl) rfl ?_
  refine zr_sig (fun ks63 e_ks63 => ?_)
  have kh64 : ks63.1 b = .inr (3, [.ref ((b + 1)), .ref ((b + 23)), .ref ((b + 26)), .null]) := by rw [e_ks63]; exact zup_at _ _ _
  have kh65 : ks63.1 (b + 23) = .inr (4, [.ref ((b + 24)), .ref ((b + 25)), .int 0, .int 0, .int 0, .int 0]) := by rw [e_ks63, zup_ne _ _ (by omega)]; exact kh57
  have kh66 : ks63.1 (b + 24) = .inl (0, 400, .inl (fun _ => 0)) := by rw [e_ks63, zup_ne _ _ (by omega)]; exact kh58
  have kh67 : ks63.1 (b + 25) = .inl (0, 400, .inl (fun _ => 0)) := by rw [e_ks63, zup_ne _ _ (by omega)]; exact kh59
  have kh68 : ks63.1 (b + 26) = .inr (0, [.ref ((b + 27))]) := by rw [e_ks63, zup_ne _ _ (by omega)]; exact kh52
  have kh69 : ks63.1 (b + 27) = .inl (3, 10, .inr (.inl (z64 (fun _ => 0)))) := by rw [e_ks63, zup_ne _ _ (by omega)]; exact kh53
  have kR70 : zDA (b + 1) zE0 ks63 := zDA.fr kR60 (zFr.put (P := fun q => q = b) zFr.rf e_ks63 rfl) (by intro q h1 h2 h3; (try simp only [zIn, zJf] at h3); omega)
  have kH71 : ks63.2 = some (b + 28) := by rw [e_ks63]; exact kH61
  have kB72 : ∀ q, q < b → ks63.1 q = σ.1 q := fun q hq => by rw [e_ks63]; exact (zup_ne _ _ (by omega)).trans (kB62 q hq)
  refine zr_aload_n dX5_init_37 rfl ?_
  refine zr_new dX5_init_38 nX5_25 kH71 (by omega) (by omega) ?_
  refine zr_sig (fun ks73 e_ks73 => ?_)
  have kh74 : ks73.1 b = .inr (3, [.ref ((b + 1)), .ref ((b + 23)), .ref ((b + 26)), .null]) := by rw [e_ks73, zup_ne _ _ (by omega)]; exact kh64
  have kh75 : ks73.1 (b + 23) = .inr (4, [.ref ((b + 24)), .ref ((b + 25)), .int 0, .int 0, .int 0, .int 0]) := by rw [e_ks73, zup_ne _ _ (by omega)]; exact kh65
  have kh76 : ks73.1 (b + 24) = .inl (0, 400, .inl (fun _ => 0)) := by rw [e_ks73, zup_ne _ _ (by omega)]; exact kh66
  have kh77 : ks73.1 (b + 25) = .inl (0, 400, .inl (fun _ => 0)) := by rw [e_ks73, zup_ne _ _ (by omega)]; exact kh67
  have kh78 : ks73.1 (b + 26) = .inr (0, [.ref ((b + 27))]) := by rw [e_ks73, zup_ne _ _ (by omega)]; exact kh68
  have kh79 : ks73.1 (b + 27) = .inl (3, 10, .inr (.inl (z64 (fun _ => 0)))) := by rw [e_ks73, zup_ne _ _ (by omega)]; exact kh69
  have kh80 : ks73.1 (b + 28) = .inr (0, [.null]) := by rw [e_ks73]; exact zup_at _ _ _
  have kR81 : zDA (b + 1) zE0 ks73 := zDA.fr (σ := (ks63.1, none)) (s := (ks73.1, none)) (P := fun q => q = b + 28) kR70 ⟨rfl, fun q hq => by show ks73.1 q = ks63.1 q; rw [e_ks73, zup_ne _ _ hq]⟩ (by intro q h1 h2 h3; omega)
  have kH82 : ks73.2 = some (b + 29) := by rw [e_ks73]; rfl
  have kB83 : ∀ q, q < b → ks73.1 q = σ.1 q := fun q hq => by rw [e_ks73]; exact (zup_ne _ _ (by omega)).trans (kB72 q hq)
  refine zr_dup dX5_init_41 rfl ?_
  refine zr_callIv [.ref ((b + 28)), .ref b] dX5_init_42 vX5_27 (qX2_init hX  kh80 kH82) (by decide) (by omega) (by omega) rfl rfl (Nat.le_of_ble_eq_true rfl) rfl (fun s_83 h_ => ?_)
  obtain ⟨⟨kH87, kB88⟩, kh85, kh86⟩ := h_
  have kh89 : s_83.1 b = .inr (3, [.ref ((b + 1)), .ref ((b + 23)), .ref ((b + 26)), .null]) := (kB88 _ (by omega)).trans kh74
  have kh90 : s_83.1 (b + 23) = .inr (4, [.ref ((b + 24)), .ref ((b + 25)), .int 0, .int 0, .int 0, .int 0]) := (kB88 _ (by omega)).trans kh75
  have kh91 : s_83.1 (b + 24) = .inl (0, 400, .inl (fun _ => 0)) := (kB88 _ (by omega)).trans kh76
  have kh92 : s_83.1 (b + 25) = .inl (0, 400, .inl (fun _ => 0)) := (kB88 _ (by omega)).trans kh77
  have kh93 : s_83.1 (b + 26) = .inr (0, [.ref ((b + 27))]) := (kB88 _ (by omega)).trans kh78
  have kh94 : s_83.1 (b + 27) = .inl (3, 10, .inr (.inl (z64 (fun _ => 0)))) := (kB88 _ (by omega)).trans kh79
  have kR95 : zDA (b + 1) zE0 s_83 := zDA.fr (σ := (ks73.1, none)) (s := (s_83.1, none)) (P := fun q => b + 28 ≤ q) kR81 ⟨rfl, fun q hq => kB88 q (Nat.not_le.mp hq)⟩ (by intro q h1 h2 (h3 : b + 28 ≤ q); omega)
  have kH96 : s_83.2 = some (b + 30) := by rw [kH87]
  have kB97 : ∀ q, q < b → s_83.1 q = σ.1 q := fun q hq => (kB88 q (by omega)).trans (kB83 q hq)
  refine zr_putfinal (fs' := [.ref ((b + 1)), .ref ((b + 23)), .ref ((b + 26)), .ref ((b + 28))]) dX5_init_45 rfl pX5_32 kh89 (by decide) rfl rfl (Nat.le_of_ble_eq_true rfl) rfl ?_
  refine zr_sig (fun ks98 e_ks98 => ?_)
  have kh99 : ks98.1 b = .inr (3, [.ref ((b + 1)), .ref ((b + 23)), .ref ((b + 26)), .ref ((b + 28))]) := by rw [e_ks98]; exact zup_at _ _ _
  have kh100 : ks98.1 (b + 23) = .inr (4, [.ref ((b + 24)), .ref ((b + 25)), .int 0, .int 0, .int 0, .int 0]) := by rw [e_ks98, zup_ne _ _ (by omega)]; exact kh90
  have kh101 : ks98.1 (b + 24) = .inl (0, 400, .inl (fun _ => 0)) := by rw [e_ks98, zup_ne _ _ (by omega)]; exact kh91
  have kh102 : ks98.1 (b + 25) = .inl (0, 400, .inl (fun _ => 0)) := by rw [e_ks98, zup_ne _ _ (by omega)]; exact kh92
  have kh103 : ks98.1 (b + 26) = .inr (0, [.ref ((b + 27))]) := by rw [e_ks98, zup_ne _ _ (by omega)]; exact kh93
  have kh104 : ks98.1 (b + 27) = .inl (3, 10, .inr (.inl (z64 (fun _ => 0)))) := by rw [e_ks98, zup_ne _ _ (by omega)]; exact kh94
  have kh105 : ks98.1 (b + 28) = .inr (0, [.ref ((b + 29))]) := by rw [e_ks98, zup_ne _ _ (by omega)]; exact kh85
  have kh106 : ks98.1 (b + 29) = .inl (3, 10, .inr (.inl (z64 (fun _ => 0)))) := by rw [e_ks98, zup_ne _ _ (by omega)]; exact kh86
  have kR107 : zDA (b + 1) zE0 ks98 := zDA.fr kR95 (zFr.put (P := fun q => q = b) zFr.rf e_ks98 rfl) (by intro q h1 h2 h3; (try simp only [zIn, zJf] at h3); omega)
  have kH108 : ks98.2 = some (b + 30) := by rw [e_ks98]; exact kH96
  have kB109 : ∀ q, q < b → ks98.1 q = σ.1 q := fun q hq => by rw [e_ks98]; exact (zup_ne _ _ (by omega)).trans (kB97 q hq)
  exact zr_return dX5_init_48 rfl (⟨rfl, ⟨kH108, kB109⟩, kh99, kh100, kh101, kh102, kh103, kh104, kh105, kh106, kR107⟩)

set_option maxHeartbeats 400000 in
set_option maxRecDepth 100000 in
theorem qX9_init {X : zX} (hX : X.1.stackTraces = false) {σ : zS} {b : Nat}  (h0 : σ.1 b = .inr (7, [.null, .null, .null, .null, .null, .null, .null, .null, .null, .int 0, .int 0, .int 0, .int 0, .int 0, .int 0])) (hh : σ.2 = some (b + 1))  : zMet X mX9_init yX9_init 4 260 3458 [.ref b] σ (zV (fun s => zNw b σ s 261 ∧ ∀ U T ln, zKt b zE0 zE0 0 U 0 T 0 ln 0 (-1) 0 0 0 s)) := by
  refine zMet_of (ls := [some (.ref b)]) rfl (by decide +kernel) rfl (fun _ => rfl) hX (Nat.le_of_ble_eq_true rfl) rfl ?_
  have hB : ∀ q, q < b → σ.1 q = σ.1 q := fun q _ => rfl
  refine zr_aload_n dX9_init_0 rfl ?_
  refine zr_objInit dX9_init_1 oX9_3 (by decide) (by decide) ?_
  refine zr_aload_n dX9_init_4 rfl ?_
  refine zr_new dX9_init_5 nX9_9 hh (by omega) (by omega) ?_
  refine zr_sig (fun ks1 e_ks1 => ?_)
  have kh2 : ks1.1 b = .inr (7, [.null, .null, .null, .null, .null, .null, .null, .null, .null, .int 0, .int 0, .int 0, .int 0, .int 0, .int 0]) := by rw [e_ks1, zup_ne _ _ (by omega)]; exact h0
  have kh3 : ks1.1 (b + 1) = .inr (3, [.null, .null, .null, .null]) := by rw [e_ks1]; exact zup_at _ _ _
  have kH4 : ks1.2 = some (b + 2) := by rw [e_ks1]; rfl
  have kB5 : ∀ q, q < b → ks1.1 q = σ.1 q := fun q hq => by rw [e_ks1]; exact (zup_ne _ _ (by omega)).trans (hB q hq)
  refine zr_dup dX9_init_8 rfl ?_
  refine zr_callIv [.ref ((b + 1)), .ref b] dX9_init_9 vX9_11 (qX5_init hX  kh3 kH4) (by decide) (by omega) (by omega) rfl rfl (Nat.le_of_ble_eq_true rfl) rfl (fun s_5 h_ => ?_)
  obtain ⟨⟨kH16, kB17⟩, kh7, kh8, kh9, kh10, kh11, kh12, kh13, kh14, kR15⟩ := h_
  have kh18 : s_5.1 b = .inr (7, [.null, .null, .null, .null, .null, .null, .null, .null, .null, .int 0, .int 0, .int 0, .int 0, .int 0, .int 0]) := (kB17 _ (by omega)).trans kh2
  have kH19 : s_5.2 = some (b + 31) := by rw [kH16]
  have kB20 : ∀ q, q < b → s_5.1 q = σ.1 q := fun q hq => (kB17 q (by omega)).trans (kB5 q hq)
  refine zr_putfinal (fs' := [.ref ((b + 1)), .null, .null, .null, .null, .null, .null, .null, .null, .int 0, .int 0, .int 0, .int 0, .int 0, .int 0]) dX9_init_12 rfl pX9_12 kh18 (by decide) rfl rfl (Nat.le_of_ble_eq_true rfl) rfl ?_
  refine zr_sig (fun ks21 e_ks21 => ?_)
  have kh22 : ks21.1 b = .inr (7, [.ref ((b + 1)), .null, .null, .null, .null, .null, .null, .null, .null, .int 0, .int 0, .int 0, .int 0, .int 0, .int 0]) := by rw [e_ks21]; exact zup_at _ _ _
  have kh23 : ks21.1 (b + 1) = .inr (3, [.ref ((b + 2)), .ref ((b + 24)), .ref ((b + 27)), .ref ((b + 29))]) := by rw [e_ks21, zup_ne _ _ (by omega)]; exact kh7
  have kh24 : ks21.1 (b + 24) = .inr (4, [.ref ((b + 25)), .ref ((b + 26)), .int 0, .int 0, .int 0, .int 0]) := by rw [e_ks21, zup_ne _ _ (by omega)]; exact kh8
  have kh25 : ks21.1 (b + 25) = .inl (0, 400, .inl (fun _ => 0)) := by rw [e_ks21, zup_ne _ _ (by omega)]; exact kh9
  have kh26 : ks21.1 (b + 26) = .inl (0, 400, .inl (fun _ => 0)) := by rw [e_ks21, zup_ne _ _ (by omega)]; exact kh10
  have kh27 : ks21.1 (b + 27) = .inr (0, [.ref ((b + 28))]) := by rw [e_ks21, zup_ne _ _ (by omega)]; exact kh11
  have kh28 : ks21.1 (b + 28) = .inl (3, 10, .inr (.inl (z64 (fun _ => 0)))) := by rw [e_ks21, zup_ne _ _ (by omega)]; exact kh12
  have kh29 : ks21.1 (b + 29) = .inr (0, [.ref ((b + 30))]) := by rw [e_ks21, zup_ne _ _ (by omega)]; exact kh13
  have kh30 : ks21.1 (b + 30) = .inl (3, 10, .inr (.inl (z64 (fun _ => 0)))) := by rw [e_ks21, zup_ne _ _ (by omega)]; exact kh14
  have kR31 : zDA (b + 2) zE0 ks21 := zDA.fr kR15 (zFr.put (P := fun q => q = b) zFr.rf e_ks21 rfl) (by intro q h1 h2 h3; (try simp only [zIn, zJf] at h3); omega)
  have kH32 : ks21.2 = some (b + 31) := by rw [e_ks21]; exact kH19
  have kB33 : ∀ q, q < b → ks21.1 q = σ.1 q := fun q hq => by rw [e_ks21]; exact (zup_ne _ _ (by omega)).trans (kB20 q hq)
  refine zr_aload_n dX9_init_15 rfl ?_
  refine zr_aload_n dX9_init_16 rfl ?_
  refine zr_getfield dX9_init_17 fX9_12 kh22 rfl (by decide) ?_
  refine zr_getfield dX9_init_20 fX9_16 kh23 rfl (by decide) ?_
  refine zr_putfinal (fs' := [.ref ((b + 1)), .ref ((b + 2)), .null, .null, .null, .null, .null, .null, .null, .int 0, .int 0, .int 0, .int 0, .int 0, .int 0]) dX9_init_23 rfl pX9_20 kh22 (by decide) rfl rfl (Nat.le_of_ble_eq_true rfl) rfl ?_
  refine zr_sig (fun ks34 e_ks34 => ?_)
  have kh35 : ks34.1 b = .inr (7, [.ref ((b + 1)), .ref ((b + 2)), .null, .null, .null, .null, .null, .null, .null, .int 0, .int 0, .int 0, .int 0, .int 0, .int 0]) := by rw [e_ks34]; exact zup_at _ _ _
  have kh36 : ks34.1 (b + 1) = .inr (3, [.ref ((b + 2)), .ref ((b + 24)), .ref ((b + 27)), .ref ((b + 29))]) := by rw [e_ks34, zup_ne _ _ (by omega)]; exact kh23
  have kh37 : ks34.1 (b + 24) = .inr (4, [.ref ((b + 25)), .ref ((b + 26)), .int 0, .int 0, .int 0, .int 0]) := by rw [e_ks34, zup_ne _ _ (by omega)]; exact kh24
  have kh38 : ks34.1 (b + 25) = .inl (0, 400, .inl (fun _ => 0)) := by rw [e_ks34, zup_ne _ _ (by omega)]; exact kh25
  have kh39 : ks34.1 (b + 26) = .inl (0, 400, .inl (fun _ => 0)) := by rw [e_ks34, zup_ne _ _ (by omega)]; exact kh26
  have kh40 : ks34.1 (b + 27) = .inr (0, [.ref ((b + 28))]) := by rw [e_ks34, zup_ne _ _ (by omega)]; exact kh27
  have kh41 : ks34.1 (b + 28) = .inl (3, 10, .inr (.inl (z64 (fun _ => 0)))) := by rw [e_ks34, zup_ne _ _ (by omega)]; exact kh28
  have kh42 : ks34.1 (b + 29) = .inr (0, [.ref ((b + 30))]) := by rw [e_ks34, zup_ne _ _ (by omega)]; exact kh29
  have kh43 : ks34.1 (b + 30) = .inl (3, 10, .inr (.inl (z64 (fun _ => 0)))) := by rw [e_ks34, zup_ne _ _ (by omega)]; exact kh30
  have kR44 : zDA (b + 2) zE0 ks34 := zDA.fr kR31 (zFr.put (P := fun q => q = b) zFr.rf e_ks34 rfl) (by intro q h1 h2 h3; (try simp only [zIn, zJf] at h3); omega)
  have kH45 : ks34.2 = some (b + 31) := by rw [e_ks34]; exact kH32
  have kB46 : ∀ q, q < b → ks34.1 q = σ.1 q := fun q hq => by rw [e_ks34]; exact (zup_ne _ _ (by omega)).trans (kB33 q hq)
  refine zr_aload_n dX9_init_26 rfl ?_
  refine zr_aload_n dX9_init_27 rfl ?_
  refine zr_getfield dX9_init_28 fX9_12 kh35 rfl (by decide) ?_
  refine zr_getfield dX9_init_31 fX9_21 kh36 rfl (by decide) ?_
  refine zr_putfinal (fs' := [.ref ((b + 1)), .ref ((b + 2)), .ref ((b + 24)), .null, .null, .null, .null, .null, .null, .int 0, .int 0, .int 0, .int 0, .int 0, .int 0]) dX9_init_34 rfl pX9_25 kh35 (by decide) rfl rfl (Nat.le_of_ble_eq_true rfl) rfl ?_
  refine zr_sig (fun ks47 e_ks47 => ?_)
  have kh48 : ks47.1 b = .inr (7, [.ref ((b + 1)), .ref ((b + 2)), .ref ((b + 24)), .null, .null, .null, .null, .null, .null, .int 0, .int 0, .int 0, .int 0, .int 0, .int 0]) := by rw [e_ks47]; exact zup_at _ _ _
  have kh49 : ks47.1 (b + 1) = .inr (3, [.ref ((b + 2)), .ref ((b + 24)), .ref ((b + 27)), .ref ((b + 29))]) := by rw [e_ks47, zup_ne _ _ (by omega)]; exact kh36
  have kh50 : ks47.1 (b + 24) = .inr (4, [.ref ((b + 25)), .ref ((b + 26)), .int 0, .int 0, .int 0, .int 0]) := by rw [e_ks47, zup_ne _ _ (by omega)]; exact kh37
  have kh51 : ks47.1 (b + 25) = .inl (0, 400, .inl (fun _ => 0)) := by rw [e_ks47, zup_ne _ _ (by omega)]; exact kh38
  have kh52 : ks47.1 (b + 26) = .inl (0, 400, .inl (fun _ => 0)) := by rw [e_ks47, zup_ne _ _ (by omega)]; exact kh39
  have kh53 : ks47.1 (b + 27) = .inr (0, [.ref ((b + 28))]) := by rw [e_ks47, zup_ne _ _ (by omega)]; exact kh40
  have kh54 : ks47.1 (b + 28) = .inl (3, 10, .inr (.inl (z64 (fun _ => 0)))) := by rw [e_ks47, zup_ne _ _ (by omega)]; exact kh41
  have kh55 : ks47.1 (b + 29) = .inr (0, [.ref ((b + 30))]) := by rw [e_ks47, zup_ne _ _ (by omega)]; exact kh42
  have kh56 : ks47.1 (b + 30) = .inl (3, 10, .inr (.inl (z64 (fun _ => 0)))) := by rw [e_ks47, zup_ne _ _ (by omega)]; exact kh43
  have kR57 : zDA (b + 2) zE0 ks47 := zDA.fr kR44 (zFr.put (P := fun q => q = b) zFr.rf e_ks47 rfl) (by intro q h1 h2 h3; (try simp only [zIn, zJf] at h3); omega)
  have kH58 : ks47.2 = some (b + 31) := by rw [e_ks47]; exact kH45
  have kB59 : ∀ q, q < b → ks47.1 q = σ.1 q := fun q hq => by rw [e_ks47]; exact (zup_ne _ _ (by omega)).trans (kB46 q hq)
  refine zr_aload_n dX9_init_37 rfl ?_
  refine zr_new dX9_init_38 nX9_26 kH58 (by omega) (by omega) ?_
  refine zr_sig (fun ks60 e_ks60 => ?_)
  have kh61 : ks60.1 b = .inr (7, [.ref ((b + 1)), .ref ((b + 2)), .ref ((b + 24)), .null, .null, .null, .null, .null, .null, .int 0, .int 0, .int 0, .int 0, .int 0, .int 0]) := by rw [e_ks60, zup_ne _ _ (by omega)]; exact kh48
  have kh62 : ks60.1 (b + 1) = .inr (3, [.ref ((b + 2)), .ref ((b + 24)), .ref ((b + 27)), .ref ((b + 29))]) := by rw [e_ks60, zup_ne _ _ (by omega)]; exact kh49
  have kh63 : ks60.1 (b + 24) = .inr (4, [.ref ((b + 25)), .ref ((b + 26)), .int 0, .int 0, .int 0, .int 0]) := by rw [e_ks60, zup_ne _ _ (by omega)]; exact kh50
  have kh64 : ks60.1 (b + 25) = .inl (0, 400, .inl (fun _ => 0)) := by rw [e_ks60, zup_ne _ _ (by omega)]; exact kh51
  have kh65 : ks60.1 (b + 26) = .inl (0, 400, .inl (fun _ => 0)) := by rw [e_ks60, zup_ne _ _ (by omega)]; exact kh52
  have kh66 : ks60.1 (b + 27) = .inr (0, [.ref ((b + 28))]) := by rw [e_ks60, zup_ne _ _ (by omega)]; exact kh53
  have kh67 : ks60.1 (b + 28) = .inl (3, 10, .inr (.inl (z64 (fun _ => 0)))) := by rw [e_ks60, zup_ne _ _ (by omega)]; exact kh54
  have kh68 : ks60.1 (b + 29) = .inr (0, [.ref ((b + 30))]) := by rw [e_ks60, zup_ne _ _ (by omega)]; exact kh55
  have kh69 : ks60.1 (b + 30) = .inl (3, 10, .inr (.inl (z64 (fun _ => 0)))) := by rw [e_ks60, zup_ne _ _ (by omega)]; exact kh56
  have kh70 : ks60.1 (b + 31) = .inr (1, [.null, .null, .null, .null, .null, .int 0, .int 0]) := by rw [e_ks60]; exact zup_at _ _ _
  have kR71 : zDA (b + 2) zE0 ks60 := zDA.fr (σ := (ks47.1, none)) (s := (ks60.1, none)) (P := fun q => q = b + 31) kR57 ⟨rfl, fun q hq => by show ks60.1 q = ks47.1 q; rw [e_ks60, zup_ne _ _ hq]⟩ (by intro q h1 h2 h3; omega)
  have kH72 : ks60.2 = some (b + 32) := by rw [e_ks60]; rfl
  have kB73 : ∀ q, q < b → ks60.1 q = σ.1 q := fun q hq => by rw [e_ks60]; exact (zup_ne _ _ (by omega)).trans (kB59 q hq)
  refine zr_dup dX9_init_41 rfl ?_
  refine zr_callIv [.ref ((b + 31)), .ref b] dX9_init_42 vX9_28 (qX3_init hX  kh70 kH72) (by decide) (by omega) (by omega) rfl rfl (Nat.le_of_ble_eq_true rfl) rfl (fun s_73 h_ => ?_)
  obtain ⟨⟨kH76, kB77⟩, kR75⟩ := h_
  have kh78 : s_73.1 b = .inr (7, [.ref ((b + 1)), .ref ((b + 2)), .ref ((b + 24)), .null, .null, .null, .null, .null, .null, .int 0, .int 0, .int 0, .int 0, .int 0, .int 0]) := (kB77 _ (by omega)).trans kh61
  have kh79 : s_73.1 (b + 1) = .inr (3, [.ref ((b + 2)), .ref ((b + 24)), .ref ((b + 27)), .ref ((b + 29))]) := (kB77 _ (by omega)).trans kh62
  have kh80 : s_73.1 (b + 24) = .inr (4, [.ref ((b + 25)), .ref ((b + 26)), .int 0, .int 0, .int 0, .int 0]) := (kB77 _ (by omega)).trans kh63
  have kh81 : s_73.1 (b + 25) = .inl (0, 400, .inl (fun _ => 0)) := (kB77 _ (by omega)).trans kh64
  have kh82 : s_73.1 (b + 26) = .inl (0, 400, .inl (fun _ => 0)) := (kB77 _ (by omega)).trans kh65
  have kh83 : s_73.1 (b + 27) = .inr (0, [.ref ((b + 28))]) := (kB77 _ (by omega)).trans kh66
  have kh84 : s_73.1 (b + 28) = .inl (3, 10, .inr (.inl (z64 (fun _ => 0)))) := (kB77 _ (by omega)).trans kh67
  have kh85 : s_73.1 (b + 29) = .inr (0, [.ref ((b + 30))]) := (kB77 _ (by omega)).trans kh68
  have kh86 : s_73.1 (b + 30) = .inl (3, 10, .inr (.inl (z64 (fun _ => 0)))) := (kB77 _ (by omega)).trans kh69
  have kR87 : zDA (b + 2) zE0 s_73 := zDA.fr (σ := (ks60.1, none)) (s := (s_73.1, none)) (P := fun q => b + 31 ≤ q) kR71 ⟨rfl, fun q hq => kB77 q (Nat.not_le.mp hq)⟩ (by intro q h1 h2 (h3 : b + 31 ≤ q); omega)
  have kH88 : s_73.2 = some (b + 53) := by rw [kH76]
  have kB89 : ∀ q, q < b → s_73.1 q = σ.1 q := fun q hq => (kB77 q (by omega)).trans (kB73 q hq)
  refine zr_putfinal (fs' := [.ref ((b + 1)), .ref ((b + 2)), .ref ((b + 24)), .ref ((b + 31)), .null, .null, .null, .null, .null, .int 0, .int 0, .int 0, .int 0, .int 0, .int 0]) dX9_init_45 rfl pX9_29 kh78 (by decide) rfl rfl (Nat.le_of_ble_eq_true rfl) rfl ?_
  refine zr_sig (fun ks90 e_ks90 => ?_)
  have kh91 : ks90.1 b = .inr (7, [.ref ((b + 1)), .ref ((b + 2)), .ref ((b + 24)), .ref ((b + 31)), .null, .null, .null, .null, .null, .int 0, .int 0, .int 0, .int 0, .int 0, .int 0]) := by rw [e_ks90]; exact zup_at _ _ _
  have kh92 : ks90.1 (b + 1) = .inr (3, [.ref ((b + 2)), .ref ((b + 24)), .ref ((b + 27)), .ref ((b + 29))]) := by rw [e_ks90, zup_ne _ _ (by omega)]; exact kh79
  have kh93 : ks90.1 (b + 24) = .inr (4, [.ref ((b + 25)), .ref ((b + 26)), .int 0, .int 0, .int 0, .int 0]) := by rw [e_ks90, zup_ne _ _ (by omega)]; exact kh80
  have kh94 : ks90.1 (b + 25) = .inl (0, 400, .inl (fun _ => 0)) := by rw [e_ks90, zup_ne _ _ (by omega)]; exact kh81
  have kh95 : ks90.1 (b + 26) = .inl (0, 400, .inl (fun _ => 0)) := by rw [e_ks90, zup_ne _ _ (by omega)]; exact kh82
  have kh96 : ks90.1 (b + 27) = .inr (0, [.ref ((b + 28))]) := by rw [e_ks90, zup_ne _ _ (by omega)]; exact kh83
  have kh97 : ks90.1 (b + 28) = .inl (3, 10, .inr (.inl (z64 (fun _ => 0)))) := by rw [e_ks90, zup_ne _ _ (by omega)]; exact kh84
  have kh98 : ks90.1 (b + 29) = .inr (0, [.ref ((b + 30))]) := by rw [e_ks90, zup_ne _ _ (by omega)]; exact kh85
  have kh99 : ks90.1 (b + 30) = .inl (3, 10, .inr (.inl (z64 (fun _ => 0)))) := by rw [e_ks90, zup_ne _ _ (by omega)]; exact kh86
  have kR100 : zDA (b + 2) zE0 ks90 := zDA.fr kR87 (zFr.put (P := fun q => q = b) zFr.rf e_ks90 rfl) (by intro q h1 h2 h3; (try simp only [zIn, zJf] at h3); omega)
  have kR101 : zDA (b + 31) zE0 ks90 := zDA.fr kR75 (zFr.put (P := fun q => q = b) zFr.rf e_ks90 rfl) (by intro q h1 h2 h3; (try simp only [zIn, zJf] at h3); omega)
  have kH102 : ks90.2 = some (b + 53) := by rw [e_ks90]; exact kH88
  have kB103 : ∀ q, q < b → ks90.1 q = σ.1 q := fun q hq => by rw [e_ks90]; exact (zup_ne _ _ (by omega)).trans (kB89 q hq)
  refine zr_aload_n dX9_init_48 rfl ?_
  refine zr_new dX9_init_49 nX9_26 kH102 (by omega) (by omega) ?_
  refine zr_sig (fun ks104 e_ks104 => ?_)
  have kh105 : ks104.1 b = .inr (7, [.ref ((b + 1)), .ref ((b + 2)), .ref ((b + 24)), .ref ((b + 31)), .null, .null, .null, .null, .null, .int 0, .int 0, .int 0, .int 0, .int 0, .int 0]) := by rw [e_ks104, zup_ne _ _ (by omega)]; exact kh91
  have kh106 : ks104.1 (b + 1) = .inr (3, [.ref ((b + 2)), .ref ((b + 24)), .ref ((b + 27)), .ref ((b + 29))]) := by rw [e_ks104, zup_ne _ _ (by omega)]; exact kh92
  have kh107 : ks104.1 (b + 24) = .inr (4, [.ref ((b + 25)), .ref ((b + 26)), .int 0, .int 0, .int 0, .int 0]) := by rw [e_ks104, zup_ne _ _ (by omega)]; exact kh93
  have kh108 : ks104.1 (b + 25) = .inl (0, 400, .inl (fun _ => 0)) := by rw [e_ks104, zup_ne _ _ (by omega)]; exact kh94
  have kh109 : ks104.1 (b + 26) = .inl (0, 400, .inl (fun _ => 0)) := by rw [e_ks104, zup_ne _ _ (by omega)]; exact kh95
  have kh110 : ks104.1 (b + 27) = .inr (0, [.ref ((b + 28))]) := by rw [e_ks104, zup_ne _ _ (by omega)]; exact kh96
  have kh111 : ks104.1 (b + 28) = .inl (3, 10, .inr (.inl (z64 (fun _ => 0)))) := by rw [e_ks104, zup_ne _ _ (by omega)]; exact kh97
  have kh112 : ks104.1 (b + 29) = .inr (0, [.ref ((b + 30))]) := by rw [e_ks104, zup_ne _ _ (by omega)]; exact kh98
  have kh113 : ks104.1 (b + 30) = .inl (3, 10, .inr (.inl (z64 (fun _ => 0)))) := by rw [e_ks104, zup_ne _ _ (by omega)]; exact kh99
  have kh114 : ks104.1 (b + 53) = .inr (1, [.null, .null, .null, .null, .null, .int 0, .int 0]) := by rw [e_ks104]; exact zup_at _ _ _
  have kR115 : zDA (b + 2) zE0 ks104 := zDA.fr (σ := (ks90.1, none)) (s := (ks104.1, none)) (P := fun q => q = b + 53) kR100 ⟨rfl, fun q hq => by show ks104.1 q = ks90.1 q; rw [e_ks104, zup_ne _ _ hq]⟩ (by intro q h1 h2 h3; omega)
  have kR116 : zDA (b + 31) zE0 ks104 := zDA.fr (σ := (ks90.1, none)) (s := (ks104.1, none)) (P := fun q => q = b + 53) kR101 ⟨rfl, fun q hq => by show ks104.1 q = ks90.1 q; rw [e_ks104, zup_ne _ _ hq]⟩ (by intro q h1 h2 h3; omega)
  have kH117 : ks104.2 = some (b + 54) := by rw [e_ks104]; rfl
  have kB118 : ∀ q, q < b → ks104.1 q = σ.1 q := fun q hq => by rw [e_ks104]; exact (zup_ne _ _ (by omega)).trans (kB103 q hq)
  refine zr_dup dX9_init_52 rfl ?_
  refine zr_callIv [.ref ((b + 53)), .ref b] dX9_init_53 vX9_28 (qX3_init hX  kh114 kH117) (by decide) (by omega) (by omega) rfl rfl (Nat.le_of_ble_eq_true rfl) rfl (fun s_118 h_ => ?_)
  obtain ⟨⟨kH121, kB122⟩, kR120⟩ := h_
  have kh123 : s_118.1 b = .inr (7, [.ref ((b + 1)), .ref ((b + 2)), .ref ((b + 24)), .ref ((b + 31)), .null, .null, .null, .null, .null, .int 0, .int 0, .int 0, .int 0, .int 0, .int 0]) := (kB122 _ (by omega)).trans kh105
  have kh124 : s_118.1 (b + 1) = .inr (3, [.ref ((b + 2)), .ref ((b + 24)), .ref ((b + 27)), .ref ((b + 29))]) := (kB122 _ (by omega)).trans kh106
  have kh125 : s_118.1 (b + 24) = .inr (4, [.ref ((b + 25)), .ref ((b + 26)), .int 0, .int 0, .int 0, .int 0]) := (kB122 _ (by omega)).trans kh107
  have kh126 : s_118.1 (b + 25) = .inl (0, 400, .inl (fun _ => 0)) := (kB122 _ (by omega)).trans kh108
  have kh127 : s_118.1 (b + 26) = .inl (0, 400, .inl (fun _ => 0)) := (kB122 _ (by omega)).trans kh109
  have kh128 : s_118.1 (b + 27) = .inr (0, [.ref ((b + 28))]) := (kB122 _ (by omega)).trans kh110
  have kh129 : s_118.1 (b + 28) = .inl (3, 10, .inr (.inl (z64 (fun _ => 0)))) := (kB122 _ (by omega)).trans kh111
  have kh130 : s_118.1 (b + 29) = .inr (0, [.ref ((b + 30))]) := (kB122 _ (by omega)).trans kh112
  have kh131 : s_118.1 (b + 30) = .inl (3, 10, .inr (.inl (z64 (fun _ => 0)))) := (kB122 _ (by omega)).trans kh113
  have kR132 : zDA (b + 2) zE0 s_118 := zDA.fr (σ := (ks104.1, none)) (s := (s_118.1, none)) (P := fun q => b + 53 ≤ q) kR115 ⟨rfl, fun q hq => kB122 q (Nat.not_le.mp hq)⟩ (by intro q h1 h2 (h3 : b + 53 ≤ q); omega)
  have kR133 : zDA (b + 31) zE0 s_118 := zDA.fr (σ := (ks104.1, none)) (s := (s_118.1, none)) (P := fun q => b + 53 ≤ q) kR116 ⟨rfl, fun q hq => kB122 q (Nat.not_le.mp hq)⟩ (by intro q h1 h2 (h3 : b + 53 ≤ q); omega)
  have kH134 : s_118.2 = some (b + 75) := by rw [kH121]
  have kB135 : ∀ q, q < b → s_118.1 q = σ.1 q := fun q hq => (kB122 q (by omega)).trans (kB118 q hq)
  refine zr_putfinal (fs' := [.ref ((b + 1)), .ref ((b + 2)), .ref ((b + 24)), .ref ((b + 31)), .ref ((b + 53)), .null, .null, .null, .null, .int 0, .int 0, .int 0, .int 0, .int 0, .int 0]) dX9_init_56 rfl pX9_32 kh123 (by decide) rfl rfl (Nat.le_of_ble_eq_true rfl) rfl ?_
  refine zr_sig (fun ks136 e_ks136 => ?_)
  have kh137 : ks136.1 b = .inr (7, [.ref ((b + 1)), .ref ((b + 2)), .ref ((b + 24)), .ref ((b + 31)), .ref ((b + 53)), .null, .null, .null, .null, .int 0, .int 0, .int 0, .int 0, .int 0, .int 0]) := by rw [e_ks136]; exact zup_at _ _ _
  have kh138 : ks136.1 (b + 1) = .inr (3, [.ref ((b + 2)), .ref ((b + 24)), .ref ((b + 27)), .ref ((b + 29))]) := by rw [e_ks136, zup_ne _ _ (by omega)]; exact kh124
  have kh139 : ks136.1 (b + 24) = .inr (4, [.ref ((b + 25)), .ref ((b + 26)), .int 0, .int 0, .int 0, .int 0]) := by rw [e_ks136, zup_ne _ _ (by omega)]; exact kh125
  have kh140 : ks136.1 (b + 25) = .inl (0, 400, .inl (fun _ => 0)) := by rw [e_ks136, zup_ne _ _ (by omega)]; exact kh126
  have kh141 : ks136.1 (b + 26) = .inl (0, 400, .inl (fun _ => 0)) := by rw [e_ks136, zup_ne _ _ (by omega)]; exact kh127
  have kh142 : ks136.1 (b + 27) = .inr (0, [.ref ((b + 28))]) := by rw [e_ks136, zup_ne _ _ (by omega)]; exact kh128
  have kh143 : ks136.1 (b + 28) = .inl (3, 10, .inr (.inl (z64 (fun _ => 0)))) := by rw [e_ks136, zup_ne _ _ (by omega)]; exact kh129
  have kh144 : ks136.1 (b + 29) = .inr (0, [.ref ((b + 30))]) := by rw [e_ks136, zup_ne _ _ (by omega)]; exact kh130
  have kh145 : ks136.1 (b + 30) = .inl (3, 10, .inr (.inl (z64 (fun _ => 0)))) := by rw [e_ks136, zup_ne _ _ (by omega)]; exact kh131
  have kR146 : zDA (b + 2) zE0 ks136 := zDA.fr kR132 (zFr.put (P := fun q => q = b) zFr.rf e_ks136 rfl) (by intro q h1 h2 h3; (try simp only [zIn, zJf] at h3); omega)
  have kR147 : zDA (b + 31) zE0 ks136 := zDA.fr kR133 (zFr.put (P := fun q => q = b) zFr.rf e_ks136 rfl) (by intro q h1 h2 h3; (try simp only [zIn, zJf] at h3); omega)
  have kR148 : zDA (b + 53) zE0 ks136 := zDA.fr kR120 (zFr.put (P := fun q => q = b) zFr.rf e_ks136 rfl) (by intro q h1 h2 h3; (try simp only [zIn, zJf] at h3); omega)
  have kH149 : ks136.2 = some (b + 75) := by rw [e_ks136]; exact kH134
  have kB150 : ∀ q, q < b → ks136.1 q = σ.1 q := fun q hq => by rw [e_ks136]; exact (zup_ne _ _ (by omega)).trans (kB135 q hq)
  refine zr_aload_n dX9_init_59 rfl ?_
  refine zr_new dX9_init_60 nX9_35 kH149 (by omega) (by omega) ?_
  refine zr_sig (fun ks151 e_ks151 => ?_)
  have kh152 : ks151.1 b = .inr (7, [.ref ((b + 1)), .ref ((b + 2)), .ref ((b + 24)), .ref ((b + 31)), .ref ((b + 53)), .null, .null, .null, .null, .int 0, .int 0, .int 0, .int 0, .int 0, .int 0]) := by rw [e_ks151, zup_ne _ _ (by omega)]; exact kh137
  have kh153 : ks151.1 (b + 1) = .inr (3, [.ref ((b + 2)), .ref ((b + 24)), .ref ((b + 27)), .ref ((b + 29))]) := by rw [e_ks151, zup_ne _ _ (by omega)]; exact kh138
  have kh154 : ks151.1 (b + 24) = .inr (4, [.ref ((b + 25)), .ref ((b + 26)), .int 0, .int 0, .int 0, .int 0]) := by rw [e_ks151, zup_ne _ _ (by omega)]; exact kh139
  have kh155 : ks151.1 (b + 25) = .inl (0, 400, .inl (fun _ => 0)) := by rw [e_ks151, zup_ne _ _ (by omega)]; exact kh140
  have kh156 : ks151.1 (b + 26) = .inl (0, 400, .inl (fun _ => 0)) := by rw [e_ks151, zup_ne _ _ (by omega)]; exact kh141
  have kh157 : ks151.1 (b + 27) = .inr (0, [.ref ((b + 28))]) := by rw [e_ks151, zup_ne _ _ (by omega)]; exact kh142
  have kh158 : ks151.1 (b + 28) = .inl (3, 10, .inr (.inl (z64 (fun _ => 0)))) := by rw [e_ks151, zup_ne _ _ (by omega)]; exact kh143
  have kh159 : ks151.1 (b + 29) = .inr (0, [.ref ((b + 30))]) := by rw [e_ks151, zup_ne _ _ (by omega)]; exact kh144
  have kh160 : ks151.1 (b + 30) = .inl (3, 10, .inr (.inl (z64 (fun _ => 0)))) := by rw [e_ks151, zup_ne _ _ (by omega)]; exact kh145
  have kh161 : ks151.1 (b + 75) = .inr (2, [.null, .int 0, .int 0]) := by rw [e_ks151]; exact zup_at _ _ _
  have kR162 : zDA (b + 2) zE0 ks151 := zDA.fr (σ := (ks136.1, none)) (s := (ks151.1, none)) (P := fun q => q = b + 75) kR146 ⟨rfl, fun q hq => by show ks151.1 q = ks136.1 q; rw [e_ks151, zup_ne _ _ hq]⟩ (by intro q h1 h2 h3; omega)
  have kR163 : zDA (b + 31) zE0 ks151 := zDA.fr (σ := (ks136.1, none)) (s := (ks151.1, none)) (P := fun q => q = b + 75) kR147 ⟨rfl, fun q hq => by show ks151.1 q = ks136.1 q; rw [e_ks151, zup_ne _ _ hq]⟩ (by intro q h1 h2 h3; omega)
  have kR164 : zDA (b + 53) zE0 ks151 := zDA.fr (σ := (ks136.1, none)) (s := (ks151.1, none)) (P := fun q => q = b + 75) kR148 ⟨rfl, fun q hq => by show ks151.1 q = ks136.1 q; rw [e_ks151, zup_ne _ _ hq]⟩ (by intro q h1 h2 h3; omega)
  have kH165 : ks151.2 = some (b + 76) := by rw [e_ks151]; rfl
  have kB166 : ∀ q, q < b → ks151.1 q = σ.1 q := fun q hq => by rw [e_ks151]; exact (zup_ne _ _ (by omega)).trans (kB150 q hq)
  refine zr_dup dX9_init_63 rfl ?_
  refine zr_callIv [.ref ((b + 75)), .ref b] dX9_init_64 vX9_37 (qC4_init hX  kh161 kH165) (by decide) (by omega) (by omega) rfl rfl (Nat.le_of_ble_eq_true rfl) rfl (fun s_166 h_ => ?_)
  obtain ⟨⟨kH169, kB170⟩, kR168⟩ := h_
  have kh171 : s_166.1 b = .inr (7, [.ref ((b + 1)), .ref ((b + 2)), .ref ((b + 24)), .ref ((b + 31)), .ref ((b + 53)), .null, .null, .null, .null, .int 0, .int 0, .int 0, .int 0, .int 0, .int 0]) := (kB170 _ (by omega)).trans kh152
  have kh172 : s_166.1 (b + 1) = .inr (3, [.ref ((b + 2)), .ref ((b + 24)), .ref ((b + 27)), .ref ((b + 29))]) := (kB170 _ (by omega)).trans kh153
  have kh173 : s_166.1 (b + 24) = .inr (4, [.ref ((b + 25)), .ref ((b + 26)), .int 0, .int 0, .int 0, .int 0]) := (kB170 _ (by omega)).trans kh154
  have kh174 : s_166.1 (b + 25) = .inl (0, 400, .inl (fun _ => 0)) := (kB170 _ (by omega)).trans kh155
  have kh175 : s_166.1 (b + 26) = .inl (0, 400, .inl (fun _ => 0)) := (kB170 _ (by omega)).trans kh156
  have kh176 : s_166.1 (b + 27) = .inr (0, [.ref ((b + 28))]) := (kB170 _ (by omega)).trans kh157
  have kh177 : s_166.1 (b + 28) = .inl (3, 10, .inr (.inl (z64 (fun _ => 0)))) := (kB170 _ (by omega)).trans kh158
  have kh178 : s_166.1 (b + 29) = .inr (0, [.ref ((b + 30))]) := (kB170 _ (by omega)).trans kh159
  have kh179 : s_166.1 (b + 30) = .inl (3, 10, .inr (.inl (z64 (fun _ => 0)))) := (kB170 _ (by omega)).trans kh160
  have kR180 : zDA (b + 2) zE0 s_166 := zDA.fr (σ := (ks151.1, none)) (s := (s_166.1, none)) (P := fun q => b + 75 ≤ q) kR162 ⟨rfl, fun q hq => kB170 q (Nat.not_le.mp hq)⟩ (by intro q h1 h2 (h3 : b + 75 ≤ q); omega)
  have kR181 : zDA (b + 31) zE0 s_166 := zDA.fr (σ := (ks151.1, none)) (s := (s_166.1, none)) (P := fun q => b + 75 ≤ q) kR163 ⟨rfl, fun q hq => kB170 q (Nat.not_le.mp hq)⟩ (by intro q h1 h2 (h3 : b + 75 ≤ q); omega)
  have kR182 : zDA (b + 53) zE0 s_166 := zDA.fr (σ := (ks151.1, none)) (s := (s_166.1, none)) (P := fun q => b + 75 ≤ q) kR164 ⟨rfl, fun q hq => kB170 q (Nat.not_le.mp hq)⟩ (by intro q h1 h2 (h3 : b + 75 ≤ q); omega)
  have kH183 : s_166.2 = some (b + 253) := by rw [kH169]
  have kB184 : ∀ q, q < b → s_166.1 q = σ.1 q := fun q hq => (kB170 q (by omega)).trans (kB166 q hq)
  refine zr_putfinal (fs' := [.ref ((b + 1)), .ref ((b + 2)), .ref ((b + 24)), .ref ((b + 31)), .ref ((b + 53)), .ref ((b + 75)), .null, .null, .null, .int 0, .int 0, .int 0, .int 0, .int 0, .int 0]) dX9_init_67 rfl pX9_38 kh171 (by decide) rfl rfl (Nat.le_of_ble_eq_true rfl) rfl ?_
  refine zr_sig (fun ks185 e_ks185 => ?_)
  have kh186 : ks185.1 b = .inr (7, [.ref ((b + 1)), .ref ((b + 2)), .ref ((b + 24)), .ref ((b + 31)), .ref ((b + 53)), .ref ((b + 75)), .null, .null, .null, .int 0, .int 0, .int 0, .int 0, .int 0, .int 0]) := by rw [e_ks185]; exact zup_at _ _ _
  have kh187 : ks185.1 (b + 1) = .inr (3, [.ref ((b + 2)), .ref ((b + 24)), .ref ((b + 27)), .ref ((b + 29))]) := by rw [e_ks185, zup_ne _ _ (by omega)]; exact kh172
  have kh188 : ks185.1 (b + 24) = .inr (4, [.ref ((b + 25)), .ref ((b + 26)), .int 0, .int 0, .int 0, .int 0]) := by rw [e_ks185, zup_ne _ _ (by omega)]; exact kh173
  have kh189 : ks185.1 (b + 25) = .inl (0, 400, .inl (fun _ => 0)) := by rw [e_ks185, zup_ne _ _ (by omega)]; exact kh174
  have kh190 : ks185.1 (b + 26) = .inl (0, 400, .inl (fun _ => 0)) := by rw [e_ks185, zup_ne _ _ (by omega)]; exact kh175
  have kh191 : ks185.1 (b + 27) = .inr (0, [.ref ((b + 28))]) := by rw [e_ks185, zup_ne _ _ (by omega)]; exact kh176
  have kh192 : ks185.1 (b + 28) = .inl (3, 10, .inr (.inl (z64 (fun _ => 0)))) := by rw [e_ks185, zup_ne _ _ (by omega)]; exact kh177
  have kh193 : ks185.1 (b + 29) = .inr (0, [.ref ((b + 30))]) := by rw [e_ks185, zup_ne _ _ (by omega)]; exact kh178
  have kh194 : ks185.1 (b + 30) = .inl (3, 10, .inr (.inl (z64 (fun _ => 0)))) := by rw [e_ks185, zup_ne _ _ (by omega)]; exact kh179
  have kR195 : zDA (b + 2) zE0 ks185 := zDA.fr kR180 (zFr.put (P := fun q => q = b) zFr.rf e_ks185 rfl) (by intro q h1 h2 h3; (try simp only [zIn, zJf] at h3); omega)
  have kR196 : zDA (b + 31) zE0 ks185 := zDA.fr kR181 (zFr.put (P := fun q => q = b) zFr.rf e_ks185 rfl) (by intro q h1 h2 h3; (try simp only [zIn, zJf] at h3); omega)
  have kR197 : zDA (b + 53) zE0 ks185 := zDA.fr kR182 (zFr.put (P := fun q => q = b) zFr.rf e_ks185 rfl) (by intro q h1 h2 h3; (try simp only [zIn, zJf] at h3); omega)
  have kR198 : zHi0 (b + 75) ks185 := zHi0.fr kR168 (zFr.put (P := fun q => q = b) zFr.rf e_ks185 rfl) (by intro q h1 h2 h3; (try simp only [zIn, zJf] at h3); omega)
  have kH199 : ks185.2 = some (b + 253) := by rw [e_ks185]; exact kH183
  have kB200 : ∀ q, q < b → ks185.1 q = σ.1 q := fun q hq => by rw [e_ks185]; exact (zup_ne _ _ (by omega)).trans (kB184 q hq)
  refine zr_aload_n dX9_init_70 rfl ?_
  refine zr_new dX9_init_71 nX9_42 kH199 (by omega) (by omega) ?_
  refine zr_sig (fun ks201 e_ks201 => ?_)
  have kh202 : ks201.1 b = .inr (7, [.ref ((b + 1)), .ref ((b + 2)), .ref ((b + 24)), .ref ((b + 31)), .ref ((b + 53)), .ref ((b + 75)), .null, .null, .null, .int 0, .int 0, .int 0, .int 0, .int 0, .int 0]) := by rw [e_ks201, zup_ne _ _ (by omega)]; exact kh186
  have kh203 : ks201.1 (b + 1) = .inr (3, [.ref ((b + 2)), .ref ((b + 24)), .ref ((b + 27)), .ref ((b + 29))]) := by rw [e_ks201, zup_ne _ _ (by omega)]; exact kh187
  have kh204 : ks201.1 (b + 24) = .inr (4, [.ref ((b + 25)), .ref ((b + 26)), .int 0, .int 0, .int 0, .int 0]) := by rw [e_ks201, zup_ne _ _ (by omega)]; exact kh188
  have kh205 : ks201.1 (b + 25) = .inl (0, 400, .inl (fun _ => 0)) := by rw [e_ks201, zup_ne _ _ (by omega)]; exact kh189
  have kh206 : ks201.1 (b + 26) = .inl (0, 400, .inl (fun _ => 0)) := by rw [e_ks201, zup_ne _ _ (by omega)]; exact kh190
  have kh207 : ks201.1 (b + 27) = .inr (0, [.ref ((b + 28))]) := by rw [e_ks201, zup_ne _ _ (by omega)]; exact kh191
  have kh208 : ks201.1 (b + 28) = .inl (3, 10, .inr (.inl (z64 (fun _ => 0)))) := by rw [e_ks201, zup_ne _ _ (by omega)]; exact kh192
  have kh209 : ks201.1 (b + 29) = .inr (0, [.ref ((b + 30))]) := by rw [e_ks201, zup_ne _ _ (by omega)]; exact kh193
  have kh210 : ks201.1 (b + 30) = .inl (3, 10, .inr (.inl (z64 (fun _ => 0)))) := by rw [e_ks201, zup_ne _ _ (by omega)]; exact kh194
  have kh211 : ks201.1 (b + 253) = .inr (0, [.null]) := by rw [e_ks201]; exact zup_at _ _ _
  have kR212 : zDA (b + 2) zE0 ks201 := zDA.fr (σ := (ks185.1, none)) (s := (ks201.1, none)) (P := fun q => q = b + 253) kR195 ⟨rfl, fun q hq => by show ks201.1 q = ks185.1 q; rw [e_ks201, zup_ne _ _ hq]⟩ (by intro q h1 h2 h3; omega)
  have kR213 : zDA (b + 31) zE0 ks201 := zDA.fr (σ := (ks185.1, none)) (s := (ks201.1, none)) (P := fun q => q = b + 253) kR196 ⟨rfl, fun q hq => by show ks201.1 q = ks185.1 q; rw [e_ks201, zup_ne _ _ hq]⟩ (by intro q h1 h2 h3; omega)
  have kR214 : zDA (b + 53) zE0 ks201 := zDA.fr (σ := (ks185.1, none)) (s := (ks201.1, none)) (P := fun q => q = b + 253) kR197 ⟨rfl, fun q hq => by show ks201.1 q = ks185.1 q; rw [e_ks201, zup_ne _ _ hq]⟩ (by intro q h1 h2 h3; omega)
  have kR215 : zHi0 (b + 75) ks201 := zHi0.fr (σ := (ks185.1, none)) (s := (ks201.1, none)) (P := fun q => q = b + 253) kR198 ⟨rfl, fun q hq => by show ks201.1 q = ks185.1 q; rw [e_ks201, zup_ne _ _ hq]⟩ (by intro q h1 h2 h3; omega)
  have kH216 : ks201.2 = some (b + 254) := by rw [e_ks201]; rfl
  have kB217 : ∀ q, q < b → ks201.1 q = σ.1 q := fun q hq => by rw [e_ks201]; exact (zup_ne _ _ (by omega)).trans (kB200 q hq)
  refine zr_dup dX9_init_74 rfl ?_
  refine zr_callIv [.ref ((b + 253)), .ref b] dX9_init_75 vX9_44 (qX2_init hX  kh211 kH216) (by decide) (by omega) (by omega) rfl rfl (Nat.le_of_ble_eq_true rfl) rfl (fun s_217 h_ => ?_)
  obtain ⟨⟨kH221, kB222⟩, kh219, kh220⟩ := h_
  have kh223 : s_217.1 b = .inr (7, [.ref ((b + 1)), .ref ((b + 2)), .ref ((b + 24)), .ref ((b + 31)), .ref ((b + 53)), .ref ((b + 75)), .null, .null, .null, .int 0, .int 0, .int 0, .int 0, .int 0, .int 0]) := (kB222 _ (by omega)).trans kh202
  have kh224 : s_217.1 (b + 1) = .inr (3, [.ref ((b + 2)), .ref ((b + 24)), .ref ((b + 27)), .ref ((b + 29))]) := (kB222 _ (by omega)).trans kh203
  have kh225 : s_217.1 (b + 24) = .inr (4, [.ref ((b + 25)), .ref ((b + 26)), .int 0, .int 0, .int 0, .int 0]) := (kB222 _ (by omega)).trans kh204
  have kh226 : s_217.1 (b + 25) = .inl (0, 400, .inl (fun _ => 0)) := (kB222 _ (by omega)).trans kh205
  have kh227 : s_217.1 (b + 26) = .inl (0, 400, .inl (fun _ => 0)) := (kB222 _ (by omega)).trans kh206
  have kh228 : s_217.1 (b + 27) = .inr (0, [.ref ((b + 28))]) := (kB222 _ (by omega)).trans kh207
  have kh229 : s_217.1 (b + 28) = .inl (3, 10, .inr (.inl (z64 (fun _ => 0)))) := (kB222 _ (by omega)).trans kh208
  have kh230 : s_217.1 (b + 29) = .inr (0, [.ref ((b + 30))]) := (kB222 _ (by omega)).trans kh209
  have kh231 : s_217.1 (b + 30) = .inl (3, 10, .inr (.inl (z64 (fun _ => 0)))) := (kB222 _ (by omega)).trans kh210
  have kR232 : zDA (b + 2) zE0 s_217 := zDA.fr (σ := (ks201.1, none)) (s := (s_217.1, none)) (P := fun q => b + 253 ≤ q) kR212 ⟨rfl, fun q hq => kB222 q (Nat.not_le.mp hq)⟩ (by intro q h1 h2 (h3 : b + 253 ≤ q); omega)
  have kR233 : zDA (b + 31) zE0 s_217 := zDA.fr (σ := (ks201.1, none)) (s := (s_217.1, none)) (P := fun q => b + 253 ≤ q) kR213 ⟨rfl, fun q hq => kB222 q (Nat.not_le.mp hq)⟩ (by intro q h1 h2 (h3 : b + 253 ≤ q); omega)
  have kR234 : zDA (b + 53) zE0 s_217 := zDA.fr (σ := (ks201.1, none)) (s := (s_217.1, none)) (P := fun q => b + 253 ≤ q) kR214 ⟨rfl, fun q hq => kB222 q (Nat.not_le.mp hq)⟩ (by intro q h1 h2 (h3 : b + 253 ≤ q); omega)
  have kR235 : zHi0 (b + 75) s_217 := zHi0.fr (σ := (ks201.1, none)) (s := (s_217.1, none)) (P := fun q => b + 253 ≤ q) kR215 ⟨rfl, fun q hq => kB222 q (Nat.not_le.mp hq)⟩ (by intro q h1 h2 (h3 : b + 253 ≤ q); omega)
  have kH236 : s_217.2 = some (b + 255) := by rw [kH221]
  have kB237 : ∀ q, q < b → s_217.1 q = σ.1 q := fun q hq => (kB222 q (by omega)).trans (kB217 q hq)
  refine zr_putfinal (fs' := [.ref ((b + 1)), .ref ((b + 2)), .ref ((b + 24)), .ref ((b + 31)), .ref ((b + 53)), .ref ((b + 75)), .ref ((b + 253)), .null, .null, .int 0, .int 0, .int 0, .int 0, .int 0, .int 0]) dX9_init_78 rfl pX9_45 kh223 (by decide) rfl rfl (Nat.le_of_ble_eq_true rfl) rfl ?_
  refine zr_sig (fun ks238 e_ks238 => ?_)
  have kh239 : ks238.1 b = .inr (7, [.ref ((b + 1)), .ref ((b + 2)), .ref ((b + 24)), .ref ((b + 31)), .ref ((b + 53)), .ref ((b + 75)), .ref ((b + 253)), .null, .null, .int 0, .int 0, .int 0, .int 0, .int 0, .int 0]) := by rw [e_ks238]; exact zup_at _ _ _
  have kh240 : ks238.1 (b + 1) = .inr (3, [.ref ((b + 2)), .ref ((b + 24)), .ref ((b + 27)), .ref ((b + 29))]) := by rw [e_ks238, zup_ne _ _ (by omega)]; exact kh224
  have kh241 : ks238.1 (b + 24) = .inr (4, [.ref ((b + 25)), .ref ((b + 26)), .int 0, .int 0, .int 0, .int 0]) := by rw [e_ks238, zup_ne _ _ (by omega)]; exact kh225
  have kh242 : ks238.1 (b + 25) = .inl (0, 400, .inl (fun _ => 0)) := by rw [e_ks238, zup_ne _ _ (by omega)]; exact kh226
  have kh243 : ks238.1 (b + 26) = .inl (0, 400, .inl (fun _ => 0)) := by rw [e_ks238, zup_ne _ _ (by omega)]; exact kh227
  have kh244 : ks238.1 (b + 27) = .inr (0, [.ref ((b + 28))]) := by rw [e_ks238, zup_ne _ _ (by omega)]; exact kh228
  have kh245 : ks238.1 (b + 28) = .inl (3, 10, .inr (.inl (z64 (fun _ => 0)))) := by rw [e_ks238, zup_ne _ _ (by omega)]; exact kh229
  have kh246 : ks238.1 (b + 29) = .inr (0, [.ref ((b + 30))]) := by rw [e_ks238, zup_ne _ _ (by omega)]; exact kh230
  have kh247 : ks238.1 (b + 30) = .inl (3, 10, .inr (.inl (z64 (fun _ => 0)))) := by rw [e_ks238, zup_ne _ _ (by omega)]; exact kh231
  have kh248 : ks238.1 (b + 253) = .inr (0, [.ref ((b + 254))]) := by rw [e_ks238, zup_ne _ _ (by omega)]; exact kh219
  have kh249 : ks238.1 (b + 254) = .inl (3, 10, .inr (.inl (z64 (fun _ => 0)))) := by rw [e_ks238, zup_ne _ _ (by omega)]; exact kh220
  have kR250 : zDA (b + 2) zE0 ks238 := zDA.fr kR232 (zFr.put (P := fun q => q = b) zFr.rf e_ks238 rfl) (by intro q h1 h2 h3; (try simp only [zIn, zJf] at h3); omega)
  have kR251 : zDA (b + 31) zE0 ks238 := zDA.fr kR233 (zFr.put (P := fun q => q = b) zFr.rf e_ks238 rfl) (by intro q h1 h2 h3; (try simp only [zIn, zJf] at h3); omega)
  have kR252 : zDA (b + 53) zE0 ks238 := zDA.fr kR234 (zFr.put (P := fun q => q = b) zFr.rf e_ks238 rfl) (by intro q h1 h2 h3; (try simp only [zIn, zJf] at h3); omega)
  have kR253 : zHi0 (b + 75) ks238 := zHi0.fr kR235 (zFr.put (P := fun q => q = b) zFr.rf e_ks238 rfl) (by intro q h1 h2 h3; (try simp only [zIn, zJf] at h3); omega)
  have kH254 : ks238.2 = some (b + 255) := by rw [e_ks238]; exact kH236
  have kB255 : ∀ q, q < b → ks238.1 q = σ.1 q := fun q hq => by rw [e_ks238]; exact (zup_ne _ _ (by omega)).trans (kB237 q hq)
  refine zr_aload_n dX9_init_81 rfl ?_
  refine zr_new dX9_init_82 nX9_49 kH254 (by omega) (by omega) ?_
  refine zr_sig (fun ks256 e_ks256 => ?_)
  have kh257 : ks256.1 b = .inr (7, [.ref ((b + 1)), .ref ((b + 2)), .ref ((b + 24)), .ref ((b + 31)), .ref ((b + 53)), .ref ((b + 75)), .ref ((b + 253)), .null, .null, .int 0, .int 0, .int 0, .int 0, .int 0, .int 0]) := by rw [e_ks256, zup_ne _ _ (by omega)]; exact kh239
  have kh258 : ks256.1 (b + 1) = .inr (3, [.ref ((b + 2)), .ref ((b + 24)), .ref ((b + 27)), .ref ((b + 29))]) := by rw [e_ks256, zup_ne _ _ (by omega)]; exact kh240
  have kh259 : ks256.1 (b + 24) = .inr (4, [.ref ((b + 25)), .ref ((b + 26)), .int 0, .int 0, .int 0, .int 0]) := by rw [e_ks256, zup_ne _ _ (by omega)]; exact kh241
  have kh260 : ks256.1 (b + 25) = .inl (0, 400, .inl (fun _ => 0)) := by rw [e_ks256, zup_ne _ _ (by omega)]; exact kh242
  have kh261 : ks256.1 (b + 26) = .inl (0, 400, .inl (fun _ => 0)) := by rw [e_ks256, zup_ne _ _ (by omega)]; exact kh243
  have kh262 : ks256.1 (b + 27) = .inr (0, [.ref ((b + 28))]) := by rw [e_ks256, zup_ne _ _ (by omega)]; exact kh244
  have kh263 : ks256.1 (b + 28) = .inl (3, 10, .inr (.inl (z64 (fun _ => 0)))) := by rw [e_ks256, zup_ne _ _ (by omega)]; exact kh245
  have kh264 : ks256.1 (b + 29) = .inr (0, [.ref ((b + 30))]) := by rw [e_ks256, zup_ne _ _ (by omega)]; exact kh246
  have kh265 : ks256.1 (b + 30) = .inl (3, 10, .inr (.inl (z64 (fun _ => 0)))) := by rw [e_ks256, zup_ne _ _ (by omega)]; exact kh247
  have kh266 : ks256.1 (b + 253) = .inr (0, [.ref ((b + 254))]) := by rw [e_ks256, zup_ne _ _ (by omega)]; exact kh248
  have kh267 : ks256.1 (b + 254) = .inl (3, 10, .inr (.inl (z64 (fun _ => 0)))) := by rw [e_ks256, zup_ne _ _ (by omega)]; exact kh249
  have kh268 : ks256.1 (b + 255) = .inr (5, [.null, .int 0, .null, .null, .null, .int 0, .int 0]) := by rw [e_ks256]; exact zup_at _ _ _
  have kR269 : zDA (b + 2) zE0 ks256 := zDA.fr (σ := (ks238.1, none)) (s := (ks256.1, none)) (P := fun q => q = b + 255) kR250 ⟨rfl, fun q hq => by show ks256.1 q = ks238.1 q; rw [e_ks256, zup_ne _ _ hq]⟩ (by intro q h1 h2 h3; omega)
  have kR270 : zDA (b + 31) zE0 ks256 := zDA.fr (σ := (ks238.1, none)) (s := (ks256.1, none)) (P := fun q => q = b + 255) kR251 ⟨rfl, fun q hq => by show ks256.1 q = ks238.1 q; rw [e_ks256, zup_ne _ _ hq]⟩ (by intro q h1 h2 h3; omega)
  have kR271 : zDA (b + 53) zE0 ks256 := zDA.fr (σ := (ks238.1, none)) (s := (ks256.1, none)) (P := fun q => q = b + 255) kR252 ⟨rfl, fun q hq => by show ks256.1 q = ks238.1 q; rw [e_ks256, zup_ne _ _ hq]⟩ (by intro q h1 h2 h3; omega)
  have kR272 : zHi0 (b + 75) ks256 := zHi0.fr (σ := (ks238.1, none)) (s := (ks256.1, none)) (P := fun q => q = b + 255) kR253 ⟨rfl, fun q hq => by show ks256.1 q = ks238.1 q; rw [e_ks256, zup_ne _ _ hq]⟩ (by intro q h1 h2 h3; omega)
  have kH273 : ks256.2 = some (b + 256) := by rw [e_ks256]; rfl
  have kB274 : ∀ q, q < b → ks256.1 q = σ.1 q := fun q hq => by rw [e_ks256]; exact (zup_ne _ _ (by omega)).trans (kB255 q hq)
  refine zr_dup dX9_init_85 rfl ?_
  refine zr_callIv [.ref ((b + 255)), .ref b] dX9_init_86 vX9_51 (qC7_init hX  kh268 kH273) (by decide) (by omega) (by omega) rfl rfl (Nat.le_of_ble_eq_true rfl) rfl (fun s_274 h_ => ?_)
  obtain ⟨⟨kH277, kB278⟩, kR276⟩ := h_
  have kh279 : s_274.1 b = .inr (7, [.ref ((b + 1)), .ref ((b + 2)), .ref ((b + 24)), .ref ((b + 31)), .ref ((b + 53)), .ref ((b + 75)), .ref ((b + 253)), .null, .null, .int 0, .int 0, .int 0, .int 0, .int 0, .int 0]) := (kB278 _ (by omega)).trans kh257
  have kh280 : s_274.1 (b + 1) = .inr (3, [.ref ((b + 2)), .ref ((b + 24)), .ref ((b + 27)), .ref ((b + 29))]) := (kB278 _ (by omega)).trans kh258
  have kh281 : s_274.1 (b + 24) = .inr (4, [.ref ((b + 25)), .ref ((b + 26)), .int 0, .int 0, .int 0, .int 0]) := (kB278 _ (by omega)).trans kh259
  have kh282 : s_274.1 (b + 25) = .inl (0, 400, .inl (fun _ => 0)) := (kB278 _ (by omega)).trans kh260
  have kh283 : s_274.1 (b + 26) = .inl (0, 400, .inl (fun _ => 0)) := (kB278 _ (by omega)).trans kh261
  have kh284 : s_274.1 (b + 27) = .inr (0, [.ref ((b + 28))]) := (kB278 _ (by omega)).trans kh262
  have kh285 : s_274.1 (b + 28) = .inl (3, 10, .inr (.inl (z64 (fun _ => 0)))) := (kB278 _ (by omega)).trans kh263
  have kh286 : s_274.1 (b + 29) = .inr (0, [.ref ((b + 30))]) := (kB278 _ (by omega)).trans kh264
  have kh287 : s_274.1 (b + 30) = .inl (3, 10, .inr (.inl (z64 (fun _ => 0)))) := (kB278 _ (by omega)).trans kh265
  have kh288 : s_274.1 (b + 253) = .inr (0, [.ref ((b + 254))]) := (kB278 _ (by omega)).trans kh266
  have kh289 : s_274.1 (b + 254) = .inl (3, 10, .inr (.inl (z64 (fun _ => 0)))) := (kB278 _ (by omega)).trans kh267
  have kR290 : zDA (b + 2) zE0 s_274 := zDA.fr (σ := (ks256.1, none)) (s := (s_274.1, none)) (P := fun q => b + 255 ≤ q) kR269 ⟨rfl, fun q hq => kB278 q (Nat.not_le.mp hq)⟩ (by intro q h1 h2 (h3 : b + 255 ≤ q); omega)
  have kR291 : zDA (b + 31) zE0 s_274 := zDA.fr (σ := (ks256.1, none)) (s := (s_274.1, none)) (P := fun q => b + 255 ≤ q) kR270 ⟨rfl, fun q hq => kB278 q (Nat.not_le.mp hq)⟩ (by intro q h1 h2 (h3 : b + 255 ≤ q); omega)
  have kR292 : zDA (b + 53) zE0 s_274 := zDA.fr (σ := (ks256.1, none)) (s := (s_274.1, none)) (P := fun q => b + 255 ≤ q) kR271 ⟨rfl, fun q hq => kB278 q (Nat.not_le.mp hq)⟩ (by intro q h1 h2 (h3 : b + 255 ≤ q); omega)
  have kR293 : zHi0 (b + 75) s_274 := zHi0.fr (σ := (ks256.1, none)) (s := (s_274.1, none)) (P := fun q => b + 255 ≤ q) kR272 ⟨rfl, fun q hq => kB278 q (Nat.not_le.mp hq)⟩ (by intro q h1 h2 (h3 : b + 255 ≤ q); omega)
  have kH294 : s_274.2 = some (b + 260) := by rw [kH277]
  have kB295 : ∀ q, q < b → s_274.1 q = σ.1 q := fun q hq => (kB278 q (by omega)).trans (kB274 q hq)
  refine zr_putfinal (fs' := [.ref ((b + 1)), .ref ((b + 2)), .ref ((b + 24)), .ref ((b + 31)), .ref ((b + 53)), .ref ((b + 75)), .ref ((b + 253)), .ref ((b + 255)), .null, .int 0, .int 0, .int 0, .int 0, .int 0, .int 0]) dX9_init_89 rfl pX9_52 kh279 (by decide) rfl rfl (Nat.le_of_ble_eq_true rfl) rfl ?_
  refine zr_sig (fun ks296 e_ks296 => ?_)
  have kh297 : ks296.1 b = .inr (7, [.ref ((b + 1)), .ref ((b + 2)), .ref ((b + 24)), .ref ((b + 31)), .ref ((b + 53)), .ref ((b + 75)), .ref ((b + 253)), .ref ((b + 255)), .null, .int 0, .int 0, .int 0, .int 0, .int 0, .int 0]) := by rw [e_ks296]; exact zup_at _ _ _
  have kh298 : ks296.1 (b + 1) = .inr (3, [.ref ((b + 2)), .ref ((b + 24)), .ref ((b + 27)), .ref ((b + 29))]) := by rw [e_ks296, zup_ne _ _ (by omega)]; exact kh280
  have kh299 : ks296.1 (b + 24) = .inr (4, [.ref ((b + 25)), .ref ((b + 26)), .int 0, .int 0, .int 0, .int 0]) := by rw [e_ks296, zup_ne _ _ (by omega)]; exact kh281
  have kh300 : ks296.1 (b + 25) = .inl (0, 400, .inl (fun _ => 0)) := by rw [e_ks296, zup_ne _ _ (by omega)]; exact kh282
  have kh301 : ks296.1 (b + 26) = .inl (0, 400, .inl (fun _ => 0)) := by rw [e_ks296, zup_ne _ _ (by omega)]; exact kh283
  have kh302 : ks296.1 (b + 27) = .inr (0, [.ref ((b + 28))]) := by rw [e_ks296, zup_ne _ _ (by omega)]; exact kh284
  have kh303 : ks296.1 (b + 28) = .inl (3, 10, .inr (.inl (z64 (fun _ => 0)))) := by rw [e_ks296, zup_ne _ _ (by omega)]; exact kh285
  have kh304 : ks296.1 (b + 29) = .inr (0, [.ref ((b + 30))]) := by rw [e_ks296, zup_ne _ _ (by omega)]; exact kh286
  have kh305 : ks296.1 (b + 30) = .inl (3, 10, .inr (.inl (z64 (fun _ => 0)))) := by rw [e_ks296, zup_ne _ _ (by omega)]; exact kh287
  have kh306 : ks296.1 (b + 253) = .inr (0, [.ref ((b + 254))]) := by rw [e_ks296, zup_ne _ _ (by omega)]; exact kh288
  have kh307 : ks296.1 (b + 254) = .inl (3, 10, .inr (.inl (z64 (fun _ => 0)))) := by rw [e_ks296, zup_ne _ _ (by omega)]; exact kh289
  have kR308 : zDA (b + 2) zE0 ks296 := zDA.fr kR290 (zFr.put (P := fun q => q = b) zFr.rf e_ks296 rfl) (by intro q h1 h2 h3; (try simp only [zIn, zJf] at h3); omega)
  have kR309 : zDA (b + 31) zE0 ks296 := zDA.fr kR291 (zFr.put (P := fun q => q = b) zFr.rf e_ks296 rfl) (by intro q h1 h2 h3; (try simp only [zIn, zJf] at h3); omega)
  have kR310 : zDA (b + 53) zE0 ks296 := zDA.fr kR292 (zFr.put (P := fun q => q = b) zFr.rf e_ks296 rfl) (by intro q h1 h2 h3; (try simp only [zIn, zJf] at h3); omega)
  have kR311 : zHi0 (b + 75) ks296 := zHi0.fr kR293 (zFr.put (P := fun q => q = b) zFr.rf e_ks296 rfl) (by intro q h1 h2 h3; (try simp only [zIn, zJf] at h3); omega)
  have kR312 : zSk0 (b + 255) ks296 := zSk0.fr kR276 (zFr.put (P := fun q => q = b) zFr.rf e_ks296 rfl) (by intro q h1 h2 h3; (try simp only [zIn, zJf] at h3); omega)
  have kH313 : ks296.2 = some (b + 260) := by rw [e_ks296]; exact kH294
  have kB314 : ∀ q, q < b → ks296.1 q = σ.1 q := fun q hq => by rw [e_ks296]; exact (zup_ne _ _ (by omega)).trans (kB295 q hq)
  refine zr_aload_n dX9_init_92 rfl ?_
  refine zr_sipush (v := 400) dX9_init_93 (by decide) ?_
  refine zr_newarray (t := 1) (N := 400) (x := (400, .inl (fun _ => 0))) dX9_init_96 ac_char rfl rfl (fun C q => by cases q) (fun _ => rfl) (by decide) (by decide) (by decide) kH313 (by omega) (by omega) ?_
  refine zr_sig (fun ks315 e_ks315 => ?_)
  have kh316 : ks315.1 b = .inr (7, [.ref ((b + 1)), .ref ((b + 2)), .ref ((b + 24)), .ref ((b + 31)), .ref ((b + 53)), .ref ((b + 75)), .ref ((b + 253)), .ref ((b + 255)), .null, .int 0, .int 0, .int 0, .int 0, .int 0, .int 0]) := by rw [e_ks315, zup_ne _ _ (by omega)]; exact kh297
  have kh317 : ks315.1 (b + 1) = .inr (3, [.ref ((b + 2)), .ref ((b + 24)), .ref ((b + 27)), .ref ((b + 29))]) := by rw [e_ks315, zup_ne _ _ (by omega)]; exact kh298
  have kh318 : ks315.1 (b + 24) = .inr (4, [.ref ((b + 25)), .ref ((b + 26)), .int 0, .int 0, .int 0, .int 0]) := by rw [e_ks315, zup_ne _ _ (by omega)]; exact kh299
  have kh319 : ks315.1 (b + 25) = .inl (0, 400, .inl (fun _ => 0)) := by rw [e_ks315, zup_ne _ _ (by omega)]; exact kh300
  have kh320 : ks315.1 (b + 26) = .inl (0, 400, .inl (fun _ => 0)) := by rw [e_ks315, zup_ne _ _ (by omega)]; exact kh301
  have kh321 : ks315.1 (b + 27) = .inr (0, [.ref ((b + 28))]) := by rw [e_ks315, zup_ne _ _ (by omega)]; exact kh302
  have kh322 : ks315.1 (b + 28) = .inl (3, 10, .inr (.inl (z64 (fun _ => 0)))) := by rw [e_ks315, zup_ne _ _ (by omega)]; exact kh303
  have kh323 : ks315.1 (b + 29) = .inr (0, [.ref ((b + 30))]) := by rw [e_ks315, zup_ne _ _ (by omega)]; exact kh304
  have kh324 : ks315.1 (b + 30) = .inl (3, 10, .inr (.inl (z64 (fun _ => 0)))) := by rw [e_ks315, zup_ne _ _ (by omega)]; exact kh305
  have kh325 : ks315.1 (b + 253) = .inr (0, [.ref ((b + 254))]) := by rw [e_ks315, zup_ne _ _ (by omega)]; exact kh306
  have kh326 : ks315.1 (b + 254) = .inl (3, 10, .inr (.inl (z64 (fun _ => 0)))) := by rw [e_ks315, zup_ne _ _ (by omega)]; exact kh307
  have kh327 : ks315.1 (b + 260) = .inl (1, 400, .inl (fun _ => 0)) := by rw [e_ks315]; exact zup_at _ _ _
  have kR328 : zDA (b + 2) zE0 ks315 := zDA.fr (σ := (ks296.1, none)) (s := (ks315.1, none)) (P := fun q => q = b + 260) kR308 ⟨rfl, fun q hq => by show ks315.1 q = ks296.1 q; rw [e_ks315, zup_ne _ _ hq]⟩ (by intro q h1 h2 h3; omega)
  have kR329 : zDA (b + 31) zE0 ks315 := zDA.fr (σ := (ks296.1, none)) (s := (ks315.1, none)) (P := fun q => q = b + 260) kR309 ⟨rfl, fun q hq => by show ks315.1 q = ks296.1 q; rw [e_ks315, zup_ne _ _ hq]⟩ (by intro q h1 h2 h3; omega)
  have kR330 : zDA (b + 53) zE0 ks315 := zDA.fr (σ := (ks296.1, none)) (s := (ks315.1, none)) (P := fun q => q = b + 260) kR310 ⟨rfl, fun q hq => by show ks315.1 q = ks296.1 q; rw [e_ks315, zup_ne _ _ hq]⟩ (by intro q h1 h2 h3; omega)
  have kR331 : zHi0 (b + 75) ks315 := zHi0.fr (σ := (ks296.1, none)) (s := (ks315.1, none)) (P := fun q => q = b + 260) kR311 ⟨rfl, fun q hq => by show ks315.1 q = ks296.1 q; rw [e_ks315, zup_ne _ _ hq]⟩ (by intro q h1 h2 h3; omega)
  have kR332 : zSk0 (b + 255) ks315 := zSk0.fr (σ := (ks296.1, none)) (s := (ks315.1, none)) (P := fun q => q = b + 260) kR312 ⟨rfl, fun q hq => by show ks315.1 q = ks296.1 q; rw [e_ks315, zup_ne _ _ hq]⟩ (by intro q h1 h2 h3; omega)
  have kH333 : ks315.2 = some (b + 261) := by rw [e_ks315]; rfl
  have kB334 : ∀ q, q < b → ks315.1 q = σ.1 q := fun q hq => by rw [e_ks315]; exact (zup_ne _ _ (by omega)).trans (kB314 q hq)
  refine zr_putfinal (fs' := [.ref ((b + 1)), .ref ((b + 2)), .ref ((b + 24)), .ref ((b + 31)), .ref ((b + 53)), .ref ((b + 75)), .ref ((b + 253)), .ref ((b + 255)), .ref ((b + 260)), .int 0, .int 0, .int 0, .int 0, .int 0, .int 0]) dX9_init_98 rfl pX9_56 kh316 (by decide) rfl rfl (Nat.le_of_ble_eq_true rfl) rfl ?_
  refine zr_sig (fun ks335 e_ks335 => ?_)
  have kh336 : ks335.1 b = .inr (7, [.ref ((b + 1)), .ref ((b + 2)), .ref ((b + 24)), .ref ((b + 31)), .ref ((b + 53)), .ref ((b + 75)), .ref ((b + 253)), .ref ((b + 255)), .ref ((b + 260)), .int 0, .int 0, .int 0, .int 0, .int 0, .int 0]) := by rw [e_ks335]; exact zup_at _ _ _
  have kh337 : ks335.1 (b + 1) = .inr (3, [.ref ((b + 2)), .ref ((b + 24)), .ref ((b + 27)), .ref ((b + 29))]) := by rw [e_ks335, zup_ne _ _ (by omega)]; exact kh317
  have kh338 : ks335.1 (b + 24) = .inr (4, [.ref ((b + 25)), .ref ((b + 26)), .int 0, .int 0, .int 0, .int 0]) := by rw [e_ks335, zup_ne _ _ (by omega)]; exact kh318
  have kh339 : ks335.1 (b + 25) = .inl (0, 400, .inl (fun _ => 0)) := by rw [e_ks335, zup_ne _ _ (by omega)]; exact kh319
  have kh340 : ks335.1 (b + 26) = .inl (0, 400, .inl (fun _ => 0)) := by rw [e_ks335, zup_ne _ _ (by omega)]; exact kh320
  have kh341 : ks335.1 (b + 27) = .inr (0, [.ref ((b + 28))]) := by rw [e_ks335, zup_ne _ _ (by omega)]; exact kh321
  have kh342 : ks335.1 (b + 28) = .inl (3, 10, .inr (.inl (z64 (fun _ => 0)))) := by rw [e_ks335, zup_ne _ _ (by omega)]; exact kh322
  have kh343 : ks335.1 (b + 29) = .inr (0, [.ref ((b + 30))]) := by rw [e_ks335, zup_ne _ _ (by omega)]; exact kh323
  have kh344 : ks335.1 (b + 30) = .inl (3, 10, .inr (.inl (z64 (fun _ => 0)))) := by rw [e_ks335, zup_ne _ _ (by omega)]; exact kh324
  have kh345 : ks335.1 (b + 253) = .inr (0, [.ref ((b + 254))]) := by rw [e_ks335, zup_ne _ _ (by omega)]; exact kh325
  have kh346 : ks335.1 (b + 254) = .inl (3, 10, .inr (.inl (z64 (fun _ => 0)))) := by rw [e_ks335, zup_ne _ _ (by omega)]; exact kh326
  have kh347 : ks335.1 (b + 260) = .inl (1, 400, .inl (fun _ => 0)) := by rw [e_ks335, zup_ne _ _ (by omega)]; exact kh327
  have kR348 : zDA (b + 2) zE0 ks335 := zDA.fr kR328 (zFr.put (P := fun q => q = b) zFr.rf e_ks335 rfl) (by intro q h1 h2 h3; (try simp only [zIn, zJf] at h3); omega)
  have kR349 : zDA (b + 31) zE0 ks335 := zDA.fr kR329 (zFr.put (P := fun q => q = b) zFr.rf e_ks335 rfl) (by intro q h1 h2 h3; (try simp only [zIn, zJf] at h3); omega)
  have kR350 : zDA (b + 53) zE0 ks335 := zDA.fr kR330 (zFr.put (P := fun q => q = b) zFr.rf e_ks335 rfl) (by intro q h1 h2 h3; (try simp only [zIn, zJf] at h3); omega)
  have kR351 : zHi0 (b + 75) ks335 := zHi0.fr kR331 (zFr.put (P := fun q => q = b) zFr.rf e_ks335 rfl) (by intro q h1 h2 h3; (try simp only [zIn, zJf] at h3); omega)
  have kR352 : zSk0 (b + 255) ks335 := zSk0.fr kR332 (zFr.put (P := fun q => q = b) zFr.rf e_ks335 rfl) (by intro q h1 h2 h3; (try simp only [zIn, zJf] at h3); omega)
  have kH353 : ks335.2 = some (b + 261) := by rw [e_ks335]; exact kH333
  have kB354 : ∀ q, q < b → ks335.1 q = σ.1 q := fun q hq => by rw [e_ks335]; exact (zup_ne _ _ (by omega)).trans (kB334 q hq)
  refine zr_aload_n dX9_init_101 rfl ?_
  refine zr_iconst (v := 0) dX9_init_102 (by decide) ?_
  refine zr_putfield (fs' := [.ref ((b + 1)), .ref ((b + 2)), .ref ((b + 24)), .ref ((b + 31)), .ref ((b + 53)), .ref ((b + 75)), .ref ((b + 253)), .ref ((b + 255)), .ref ((b + 260)), .int 0, .int 0, .int 0, .int 0, .int 0, .int 0]) dX9_init_103 pX9_60 kh336 (by decide) (rfl) (rfl) (Nat.le_of_ble_eq_true rfl) rfl ?_
  refine zr_sig (fun ks355 e_ks355 => ?_)
  have kh356 : ks355.1 b = .inr (7, [.ref ((b + 1)), .ref ((b + 2)), .ref ((b + 24)), .ref ((b + 31)), .ref ((b + 53)), .ref ((b + 75)), .ref ((b + 253)), .ref ((b + 255)), .ref ((b + 260)), .int 0, .int 0, .int 0, .int 0, .int 0, .int 0]) := by rw [e_ks355]; exact zup_at _ _ _
  have kh357 : ks355.1 (b + 1) = .inr (3, [.ref ((b + 2)), .ref ((b + 24)), .ref ((b + 27)), .ref ((b + 29))]) := by rw [e_ks355, zup_ne _ _ (by omega)]; exact kh337
  have kh358 : ks355.1 (b + 24) = .inr (4, [.ref ((b + 25)), .ref ((b + 26)), .int 0, .int 0, .int 0, .int 0]) := by rw [e_ks355, zup_ne _ _ (by omega)]; exact kh338
  have kh359 : ks355.1 (b + 25) = .inl (0, 400, .inl (fun _ => 0)) := by rw [e_ks355, zup_ne _ _ (by omega)]; exact kh339
  have kh360 : ks355.1 (b + 26) = .inl (0, 400, .inl (fun _ => 0)) := by rw [e_ks355, zup_ne _ _ (by omega)]; exact kh340
  have kh361 : ks355.1 (b + 27) = .inr (0, [.ref ((b + 28))]) := by rw [e_ks355, zup_ne _ _ (by omega)]; exact kh341
  have kh362 : ks355.1 (b + 28) = .inl (3, 10, .inr (.inl (z64 (fun _ => 0)))) := by rw [e_ks355, zup_ne _ _ (by omega)]; exact kh342
  have kh363 : ks355.1 (b + 29) = .inr (0, [.ref ((b + 30))]) := by rw [e_ks355, zup_ne _ _ (by omega)]; exact kh343
  have kh364 : ks355.1 (b + 30) = .inl (3, 10, .inr (.inl (z64 (fun _ => 0)))) := by rw [e_ks355, zup_ne _ _ (by omega)]; exact kh344
  have kh365 : ks355.1 (b + 253) = .inr (0, [.ref ((b + 254))]) := by rw [e_ks355, zup_ne _ _ (by omega)]; exact kh345
  have kh366 : ks355.1 (b + 254) = .inl (3, 10, .inr (.inl (z64 (fun _ => 0)))) := by rw [e_ks355, zup_ne _ _ (by omega)]; exact kh346
  have kh367 : ks355.1 (b + 260) = .inl (1, 400, .inl (fun _ => 0)) := by rw [e_ks355, zup_ne _ _ (by omega)]; exact kh347
  have kR368 : zDA (b + 2) zE0 ks355 := zDA.fr kR348 (zFr.put (P := fun q => q = b) zFr.rf e_ks355 rfl) (by intro q h1 h2 h3; (try simp only [zIn, zJf] at h3); omega)
  have kR369 : zDA (b + 31) zE0 ks355 := zDA.fr kR349 (zFr.put (P := fun q => q = b) zFr.rf e_ks355 rfl) (by intro q h1 h2 h3; (try simp only [zIn, zJf] at h3); omega)
  have kR370 : zDA (b + 53) zE0 ks355 := zDA.fr kR350 (zFr.put (P := fun q => q = b) zFr.rf e_ks355 rfl) (by intro q h1 h2 h3; (try simp only [zIn, zJf] at h3); omega)
  have kR371 : zHi0 (b + 75) ks355 := zHi0.fr kR351 (zFr.put (P := fun q => q = b) zFr.rf e_ks355 rfl) (by intro q h1 h2 h3; (try simp only [zIn, zJf] at h3); omega)
  have kR372 : zSk0 (b + 255) ks355 := zSk0.fr kR352 (zFr.put (P := fun q => q = b) zFr.rf e_ks355 rfl) (by intro q h1 h2 h3; (try simp only [zIn, zJf] at h3); omega)
  have kH373 : ks355.2 = some (b + 261) := by rw [e_ks355]; exact kH353
  have kB374 : ∀ q, q < b → ks355.1 q = σ.1 q := fun q hq => by rw [e_ks355]; exact (zup_ne _ _ (by omega)).trans (kB354 q hq)
  refine zr_aload_n dX9_init_106 rfl ?_
  refine zr_iconst (v := 0) dX9_init_107 (by decide) ?_
  refine zr_putfield (fs' := [.ref ((b + 1)), .ref ((b + 2)), .ref ((b + 24)), .ref ((b + 31)), .ref ((b + 53)), .ref ((b + 75)), .ref ((b + 253)), .ref ((b + 255)), .ref ((b + 260)), .int 0, .int 0, .int 0, .int 0, .int 0, .int 0]) dX9_init_108 pX9_64 kh356 (by decide) (rfl) (rfl) (Nat.le_of_ble_eq_true rfl) rfl ?_
  refine zr_sig (fun ks375 e_ks375 => ?_)
  have kh376 : ks375.1 b = .inr (7, [.ref ((b + 1)), .ref ((b + 2)), .ref ((b + 24)), .ref ((b + 31)), .ref ((b + 53)), .ref ((b + 75)), .ref ((b + 253)), .ref ((b + 255)), .ref ((b + 260)), .int 0, .int 0, .int 0, .int 0, .int 0, .int 0]) := by rw [e_ks375]; exact zup_at _ _ _
  have kh377 : ks375.1 (b + 1) = .inr (3, [.ref ((b + 2)), .ref ((b + 24)), .ref ((b + 27)), .ref ((b + 29))]) := by rw [e_ks375, zup_ne _ _ (by omega)]; exact kh357
  have kh378 : ks375.1 (b + 24) = .inr (4, [.ref ((b + 25)), .ref ((b + 26)), .int 0, .int 0, .int 0, .int 0]) := by rw [e_ks375, zup_ne _ _ (by omega)]; exact kh358
  have kh379 : ks375.1 (b + 25) = .inl (0, 400, .inl (fun _ => 0)) := by rw [e_ks375, zup_ne _ _ (by omega)]; exact kh359
  have kh380 : ks375.1 (b + 26) = .inl (0, 400, .inl (fun _ => 0)) := by rw [e_ks375, zup_ne _ _ (by omega)]; exact kh360
  have kh381 : ks375.1 (b + 27) = .inr (0, [.ref ((b + 28))]) := by rw [e_ks375, zup_ne _ _ (by omega)]; exact kh361
  have kh382 : ks375.1 (b + 28) = .inl (3, 10, .inr (.inl (z64 (fun _ => 0)))) := by rw [e_ks375, zup_ne _ _ (by omega)]; exact kh362
  have kh383 : ks375.1 (b + 29) = .inr (0, [.ref ((b + 30))]) := by rw [e_ks375, zup_ne _ _ (by omega)]; exact kh363
  have kh384 : ks375.1 (b + 30) = .inl (3, 10, .inr (.inl (z64 (fun _ => 0)))) := by rw [e_ks375, zup_ne _ _ (by omega)]; exact kh364
  have kh385 : ks375.1 (b + 253) = .inr (0, [.ref ((b + 254))]) := by rw [e_ks375, zup_ne _ _ (by omega)]; exact kh365
  have kh386 : ks375.1 (b + 254) = .inl (3, 10, .inr (.inl (z64 (fun _ => 0)))) := by rw [e_ks375, zup_ne _ _ (by omega)]; exact kh366
  have kh387 : ks375.1 (b + 260) = .inl (1, 400, .inl (fun _ => 0)) := by rw [e_ks375, zup_ne _ _ (by omega)]; exact kh367
  have kR388 : zDA (b + 2) zE0 ks375 := zDA.fr kR368 (zFr.put (P := fun q => q = b) zFr.rf e_ks375 rfl) (by intro q h1 h2 h3; (try simp only [zIn, zJf] at h3); omega)
  have kR389 : zDA (b + 31) zE0 ks375 := zDA.fr kR369 (zFr.put (P := fun q => q = b) zFr.rf e_ks375 rfl) (by intro q h1 h2 h3; (try simp only [zIn, zJf] at h3); omega)
  have kR390 : zDA (b + 53) zE0 ks375 := zDA.fr kR370 (zFr.put (P := fun q => q = b) zFr.rf e_ks375 rfl) (by intro q h1 h2 h3; (try simp only [zIn, zJf] at h3); omega)
  have kR391 : zHi0 (b + 75) ks375 := zHi0.fr kR371 (zFr.put (P := fun q => q = b) zFr.rf e_ks375 rfl) (by intro q h1 h2 h3; (try simp only [zIn, zJf] at h3); omega)
  have kR392 : zSk0 (b + 255) ks375 := zSk0.fr kR372 (zFr.put (P := fun q => q = b) zFr.rf e_ks375 rfl) (by intro q h1 h2 h3; (try simp only [zIn, zJf] at h3); omega)
  have kH393 : ks375.2 = some (b + 261) := by rw [e_ks375]; exact kH373
  have kB394 : ∀ q, q < b → ks375.1 q = σ.1 q := fun q hq => by rw [e_ks375]; exact (zup_ne _ _ (by omega)).trans (kB374 q hq)
  refine zr_aload_n dX9_init_111 rfl ?_
  refine zr_iconst (v := -1) dX9_init_112 (by decide) ?_
  refine zr_putfield (fs' := [.ref ((b + 1)), .ref ((b + 2)), .ref ((b + 24)), .ref ((b + 31)), .ref ((b + 53)), .ref ((b + 75)), .ref ((b + 253)), .ref ((b + 255)), .ref ((b + 260)), .int 0, .int 0, .int ((-1)), .int 0, .int 0, .int 0]) dX9_init_113 pX9_68 kh376 (by decide) (rfl) (rfl) (Nat.le_of_ble_eq_true rfl) rfl ?_
  refine zr_sig (fun ks395 e_ks395 => ?_)
  have kh396 : ks395.1 b = .inr (7, [.ref ((b + 1)), .ref ((b + 2)), .ref ((b + 24)), .ref ((b + 31)), .ref ((b + 53)), .ref ((b + 75)), .ref ((b + 253)), .ref ((b + 255)), .ref ((b + 260)), .int 0, .int 0, .int ((-1)), .int 0, .int 0, .int 0]) := by rw [e_ks395]; exact zup_at _ _ _
  have kh397 : ks395.1 (b + 1) = .inr (3, [.ref ((b + 2)), .ref ((b + 24)), .ref ((b + 27)), .ref ((b + 29))]) := by rw [e_ks395, zup_ne _ _ (by omega)]; exact kh377
  have kh398 : ks395.1 (b + 24) = .inr (4, [.ref ((b + 25)), .ref ((b + 26)), .int 0, .int 0, .int 0, .int 0]) := by rw [e_ks395, zup_ne _ _ (by omega)]; exact kh378
  have kh399 : ks395.1 (b + 25) = .inl (0, 400, .inl (fun _ => 0)) := by rw [e_ks395, zup_ne _ _ (by omega)]; exact kh379
  have kh400 : ks395.1 (b + 26) = .inl (0, 400, .inl (fun _ => 0)) := by rw [e_ks395, zup_ne _ _ (by omega)]; exact kh380
  have kh401 : ks395.1 (b + 27) = .inr (0, [.ref ((b + 28))]) := by rw [e_ks395, zup_ne _ _ (by omega)]; exact kh381
  have kh402 : ks395.1 (b + 28) = .inl (3, 10, .inr (.inl (z64 (fun _ => 0)))) := by rw [e_ks395, zup_ne _ _ (by omega)]; exact kh382
  have kh403 : ks395.1 (b + 29) = .inr (0, [.ref ((b + 30))]) := by rw [e_ks395, zup_ne _ _ (by omega)]; exact kh383
  have kh404 : ks395.1 (b + 30) = .inl (3, 10, .inr (.inl (z64 (fun _ => 0)))) := by rw [e_ks395, zup_ne _ _ (by omega)]; exact kh384
  have kh405 : ks395.1 (b + 253) = .inr (0, [.ref ((b + 254))]) := by rw [e_ks395, zup_ne _ _ (by omega)]; exact kh385
  have kh406 : ks395.1 (b + 254) = .inl (3, 10, .inr (.inl (z64 (fun _ => 0)))) := by rw [e_ks395, zup_ne _ _ (by omega)]; exact kh386
  have kh407 : ks395.1 (b + 260) = .inl (1, 400, .inl (fun _ => 0)) := by rw [e_ks395, zup_ne _ _ (by omega)]; exact kh387
  have kR408 : zDA (b + 2) zE0 ks395 := zDA.fr kR388 (zFr.put (P := fun q => q = b) zFr.rf e_ks395 rfl) (by intro q h1 h2 h3; (try simp only [zIn, zJf] at h3); omega)
  have kR409 : zDA (b + 31) zE0 ks395 := zDA.fr kR389 (zFr.put (P := fun q => q = b) zFr.rf e_ks395 rfl) (by intro q h1 h2 h3; (try simp only [zIn, zJf] at h3); omega)
  have kR410 : zDA (b + 53) zE0 ks395 := zDA.fr kR390 (zFr.put (P := fun q => q = b) zFr.rf e_ks395 rfl) (by intro q h1 h2 h3; (try simp only [zIn, zJf] at h3); omega)
  have kR411 : zHi0 (b + 75) ks395 := zHi0.fr kR391 (zFr.put (P := fun q => q = b) zFr.rf e_ks395 rfl) (by intro q h1 h2 h3; (try simp only [zIn, zJf] at h3); omega)
  have kR412 : zSk0 (b + 255) ks395 := zSk0.fr kR392 (zFr.put (P := fun q => q = b) zFr.rf e_ks395 rfl) (by intro q h1 h2 h3; (try simp only [zIn, zJf] at h3); omega)
  have kH413 : ks395.2 = some (b + 261) := by rw [e_ks395]; exact kH393
  have kB414 : ∀ q, q < b → ks395.1 q = σ.1 q := fun q hq => by rw [e_ks395]; exact (zup_ne _ _ (by omega)).trans (kB394 q hq)
  refine zr_aload_n dX9_init_116 rfl ?_
  refine zr_iconst (v := 0) dX9_init_117 (by decide) ?_
  refine zr_putfield (fs' := [.ref ((b + 1)), .ref ((b + 2)), .ref ((b + 24)), .ref ((b + 31)), .ref ((b + 53)), .ref ((b + 75)), .ref ((b + 253)), .ref ((b + 255)), .ref ((b + 260)), .int 0, .int 0, .int ((-1)), .int 0, .int 0, .int 0]) dX9_init_118 pX9_71 kh396 (by decide) (rfl) (rfl) (Nat.le_of_ble_eq_true rfl) rfl ?_
  refine zr_sig (fun ks415 e_ks415 => ?_)
  have kh416 : ks415.1 b = .inr (7, [.ref ((b + 1)), .ref ((b + 2)), .ref ((b + 24)), .ref ((b + 31)), .ref ((b + 53)), .ref ((b + 75)), .ref ((b + 253)), .ref ((b + 255)), .ref ((b + 260)), .int 0, .int 0, .int ((-1)), .int 0, .int 0, .int 0]) := by rw [e_ks415]; exact zup_at _ _ _
  have kh417 : ks415.1 (b + 1) = .inr (3, [.ref ((b + 2)), .ref ((b + 24)), .ref ((b + 27)), .ref ((b + 29))]) := by rw [e_ks415, zup_ne _ _ (by omega)]; exact kh397
  have kh418 : ks415.1 (b + 24) = .inr (4, [.ref ((b + 25)), .ref ((b + 26)), .int 0, .int 0, .int 0, .int 0]) := by rw [e_ks415, zup_ne _ _ (by omega)]; exact kh398
  have kh419 : ks415.1 (b + 25) = .inl (0, 400, .inl (fun _ => 0)) := by rw [e_ks415, zup_ne _ _ (by omega)]; exact kh399
  have kh420 : ks415.1 (b + 26) = .inl (0, 400, .inl (fun _ => 0)) := by rw [e_ks415, zup_ne _ _ (by omega)]; exact kh400
  have kh421 : ks415.1 (b + 27) = .inr (0, [.ref ((b + 28))]) := by rw [e_ks415, zup_ne _ _ (by omega)]; exact kh401
  have kh422 : ks415.1 (b + 28) = .inl (3, 10, .inr (.inl (z64 (fun _ => 0)))) := by rw [e_ks415, zup_ne _ _ (by omega)]; exact kh402
  have kh423 : ks415.1 (b + 29) = .inr (0, [.ref ((b + 30))]) := by rw [e_ks415, zup_ne _ _ (by omega)]; exact kh403
  have kh424 : ks415.1 (b + 30) = .inl (3, 10, .inr (.inl (z64 (fun _ => 0)))) := by rw [e_ks415, zup_ne _ _ (by omega)]; exact kh404
  have kh425 : ks415.1 (b + 253) = .inr (0, [.ref ((b + 254))]) := by rw [e_ks415, zup_ne _ _ (by omega)]; exact kh405
  have kh426 : ks415.1 (b + 254) = .inl (3, 10, .inr (.inl (z64 (fun _ => 0)))) := by rw [e_ks415, zup_ne _ _ (by omega)]; exact kh406
  have kh427 : ks415.1 (b + 260) = .inl (1, 400, .inl (fun _ => 0)) := by rw [e_ks415, zup_ne _ _ (by omega)]; exact kh407
  have kR428 : zDA (b + 2) zE0 ks415 := zDA.fr kR408 (zFr.put (P := fun q => q = b) zFr.rf e_ks415 rfl) (by intro q h1 h2 h3; (try simp only [zIn, zJf] at h3); omega)
  have kR429 : zDA (b + 31) zE0 ks415 := zDA.fr kR409 (zFr.put (P := fun q => q = b) zFr.rf e_ks415 rfl) (by intro q h1 h2 h3; (try simp only [zIn, zJf] at h3); omega)
  have kR430 : zDA (b + 53) zE0 ks415 := zDA.fr kR410 (zFr.put (P := fun q => q = b) zFr.rf e_ks415 rfl) (by intro q h1 h2 h3; (try simp only [zIn, zJf] at h3); omega)
  have kR431 : zHi0 (b + 75) ks415 := zHi0.fr kR411 (zFr.put (P := fun q => q = b) zFr.rf e_ks415 rfl) (by intro q h1 h2 h3; (try simp only [zIn, zJf] at h3); omega)
  have kR432 : zSk0 (b + 255) ks415 := zSk0.fr kR412 (zFr.put (P := fun q => q = b) zFr.rf e_ks415 rfl) (by intro q h1 h2 h3; (try simp only [zIn, zJf] at h3); omega)
  have kH433 : ks415.2 = some (b + 261) := by rw [e_ks415]; exact kH413
  have kB434 : ∀ q, q < b → ks415.1 q = σ.1 q := fun q hq => by rw [e_ks415]; exact (zup_ne _ _ (by omega)).trans (kB414 q hq)
  refine zr_aload_n dX9_init_121 rfl ?_
  refine zr_iconst (v := 0) dX9_init_122 (by decide) ?_
  refine zr_putfield (fs' := [.ref ((b + 1)), .ref ((b + 2)), .ref ((b + 24)), .ref ((b + 31)), .ref ((b + 53)), .ref ((b + 75)), .ref ((b + 253)), .ref ((b + 255)), .ref ((b + 260)), .int 0, .int 0, .int ((-1)), .int 0, .int 0, .int 0]) dX9_init_123 pX9_74 kh416 (by decide) (rfl) (rfl) (Nat.le_of_ble_eq_true rfl) rfl ?_
  refine zr_sig (fun ks435 e_ks435 => ?_)
  have kh436 : ks435.1 b = .inr (7, [.ref ((b + 1)), .ref ((b + 2)), .ref ((b + 24)), .ref ((b + 31)), .ref ((b + 53)), .ref ((b + 75)), .ref ((b + 253)), .ref ((b + 255)), .ref ((b + 260)), .int 0, .int 0, .int ((-1)), .int 0, .int 0, .int 0]) := by rw [e_ks435]; exact zup_at _ _ _
  have kh437 : ks435.1 (b + 1) = .inr (3, [.ref ((b + 2)), .ref ((b + 24)), .ref ((b + 27)), .ref ((b + 29))]) := by rw [e_ks435, zup_ne _ _ (by omega)]; exact kh417
  have kh438 : ks435.1 (b + 24) = .inr (4, [.ref ((b + 25)), .ref ((b + 26)), .int 0, .int 0, .int 0, .int 0]) := by rw [e_ks435, zup_ne _ _ (by omega)]; exact kh418
  have kh439 : ks435.1 (b + 25) = .inl (0, 400, .inl (fun _ => 0)) := by rw [e_ks435, zup_ne _ _ (by omega)]; exact kh419
  have kh440 : ks435.1 (b + 26) = .inl (0, 400, .inl (fun _ => 0)) := by rw [e_ks435, zup_ne _ _ (by omega)]; exact kh420
  have kh441 : ks435.1 (b + 27) = .inr (0, [.ref ((b + 28))]) := by rw [e_ks435, zup_ne _ _ (by omega)]; exact kh421
  have kh442 : ks435.1 (b + 28) = .inl (3, 10, .inr (.inl (z64 (fun _ => 0)))) := by rw [e_ks435, zup_ne _ _ (by omega)]; exact kh422
  have kh443 : ks435.1 (b + 29) = .inr (0, [.ref ((b + 30))]) := by rw [e_ks435, zup_ne _ _ (by omega)]; exact kh423
  have kh444 : ks435.1 (b + 30) = .inl (3, 10, .inr (.inl (z64 (fun _ => 0)))) := by rw [e_ks435, zup_ne _ _ (by omega)]; exact kh424
  have kh445 : ks435.1 (b + 253) = .inr (0, [.ref ((b + 254))]) := by rw [e_ks435, zup_ne _ _ (by omega)]; exact kh425
  have kh446 : ks435.1 (b + 254) = .inl (3, 10, .inr (.inl (z64 (fun _ => 0)))) := by rw [e_ks435, zup_ne _ _ (by omega)]; exact kh426
  have kh447 : ks435.1 (b + 260) = .inl (1, 400, .inl (fun _ => 0)) := by rw [e_ks435, zup_ne _ _ (by omega)]; exact kh427
  have kR448 : zDA (b + 2) zE0 ks435 := zDA.fr kR428 (zFr.put (P := fun q => q = b) zFr.rf e_ks435 rfl) (by intro q h1 h2 h3; (try simp only [zIn, zJf] at h3); omega)
  have kR449 : zDA (b + 31) zE0 ks435 := zDA.fr kR429 (zFr.put (P := fun q => q = b) zFr.rf e_ks435 rfl) (by intro q h1 h2 h3; (try simp only [zIn, zJf] at h3); omega)
  have kR450 : zDA (b + 53) zE0 ks435 := zDA.fr kR430 (zFr.put (P := fun q => q = b) zFr.rf e_ks435 rfl) (by intro q h1 h2 h3; (try simp only [zIn, zJf] at h3); omega)
  have kR451 : zHi0 (b + 75) ks435 := zHi0.fr kR431 (zFr.put (P := fun q => q = b) zFr.rf e_ks435 rfl) (by intro q h1 h2 h3; (try simp only [zIn, zJf] at h3); omega)
  have kR452 : zSk0 (b + 255) ks435 := zSk0.fr kR432 (zFr.put (P := fun q => q = b) zFr.rf e_ks435 rfl) (by intro q h1 h2 h3; (try simp only [zIn, zJf] at h3); omega)
  have kH453 : ks435.2 = some (b + 261) := by rw [e_ks435]; exact kH433
  have kB454 : ∀ q, q < b → ks435.1 q = σ.1 q := fun q hq => by rw [e_ks435]; exact (zup_ne _ _ (by omega)).trans (kB434 q hq)
  refine zr_aload_n dX9_init_126 rfl ?_
  refine zr_iconst (v := 0) dX9_init_127 (by decide) ?_
  refine zr_putfield (fs' := [.ref ((b + 1)), .ref ((b + 2)), .ref ((b + 24)), .ref ((b + 31)), .ref ((b + 53)), .ref ((b + 75)), .ref ((b + 253)), .ref ((b + 255)), .ref ((b + 260)), .int 0, .int 0, .int ((-1)), .int 0, .int 0, .int 0]) dX9_init_128 pX9_77 kh436 (by decide) (rfl) (rfl) (Nat.le_of_ble_eq_true rfl) rfl ?_
  refine zr_sig (fun ks455 e_ks455 => ?_)
  have kh456 : ks455.1 b = .inr (7, [.ref ((b + 1)), .ref ((b + 2)), .ref ((b + 24)), .ref ((b + 31)), .ref ((b + 53)), .ref ((b + 75)), .ref ((b + 253)), .ref ((b + 255)), .ref ((b + 260)), .int 0, .int 0, .int ((-1)), .int 0, .int 0, .int 0]) := by rw [e_ks455]; exact zup_at _ _ _
  have kh457 : ks455.1 (b + 1) = .inr (3, [.ref ((b + 2)), .ref ((b + 24)), .ref ((b + 27)), .ref ((b + 29))]) := by rw [e_ks455, zup_ne _ _ (by omega)]; exact kh437
  have kh458 : ks455.1 (b + 24) = .inr (4, [.ref ((b + 25)), .ref ((b + 26)), .int 0, .int 0, .int 0, .int 0]) := by rw [e_ks455, zup_ne _ _ (by omega)]; exact kh438
  have kh459 : ks455.1 (b + 25) = .inl (0, 400, .inl (fun _ => 0)) := by rw [e_ks455, zup_ne _ _ (by omega)]; exact kh439
  have kh460 : ks455.1 (b + 26) = .inl (0, 400, .inl (fun _ => 0)) := by rw [e_ks455, zup_ne _ _ (by omega)]; exact kh440
  have kh461 : ks455.1 (b + 27) = .inr (0, [.ref ((b + 28))]) := by rw [e_ks455, zup_ne _ _ (by omega)]; exact kh441
  have kh462 : ks455.1 (b + 28) = .inl (3, 10, .inr (.inl (z64 (fun _ => 0)))) := by rw [e_ks455, zup_ne _ _ (by omega)]; exact kh442
  have kh463 : ks455.1 (b + 29) = .inr (0, [.ref ((b + 30))]) := by rw [e_ks455, zup_ne _ _ (by omega)]; exact kh443
  have kh464 : ks455.1 (b + 30) = .inl (3, 10, .inr (.inl (z64 (fun _ => 0)))) := by rw [e_ks455, zup_ne _ _ (by omega)]; exact kh444
  have kh465 : ks455.1 (b + 253) = .inr (0, [.ref ((b + 254))]) := by rw [e_ks455, zup_ne _ _ (by omega)]; exact kh445
  have kh466 : ks455.1 (b + 254) = .inl (3, 10, .inr (.inl (z64 (fun _ => 0)))) := by rw [e_ks455, zup_ne _ _ (by omega)]; exact kh446
  have kh467 : ks455.1 (b + 260) = .inl (1, 400, .inl (fun _ => 0)) := by rw [e_ks455, zup_ne _ _ (by omega)]; exact kh447
  have kR468 : zDA (b + 2) zE0 ks455 := zDA.fr kR448 (zFr.put (P := fun q => q = b) zFr.rf e_ks455 rfl) (by intro q h1 h2 h3; (try simp only [zIn, zJf] at h3); omega)
  have kR469 : zDA (b + 31) zE0 ks455 := zDA.fr kR449 (zFr.put (P := fun q => q = b) zFr.rf e_ks455 rfl) (by intro q h1 h2 h3; (try simp only [zIn, zJf] at h3); omega)
  have kR470 : zDA (b + 53) zE0 ks455 := zDA.fr kR450 (zFr.put (P := fun q => q = b) zFr.rf e_ks455 rfl) (by intro q h1 h2 h3; (try simp only [zIn, zJf] at h3); omega)
  have kR471 : zHi0 (b + 75) ks455 := zHi0.fr kR451 (zFr.put (P := fun q => q = b) zFr.rf e_ks455 rfl) (by intro q h1 h2 h3; (try simp only [zIn, zJf] at h3); omega)
  have kR472 : zSk0 (b + 255) ks455 := zSk0.fr kR452 (zFr.put (P := fun q => q = b) zFr.rf e_ks455 rfl) (by intro q h1 h2 h3; (try simp only [zIn, zJf] at h3); omega)
  have kH473 : ks455.2 = some (b + 261) := by rw [e_ks455]; exact kH453
  have kB474 : ∀ q, q < b → ks455.1 q = σ.1 q := fun q hq => by rw [e_ks455]; exact (zup_ne _ _ (by omega)).trans (kB454 q hq)
  exact zr_return dX9_init_131 rfl (⟨rfl, ⟨kH473, kB474⟩, fun U T ln => ⟨zE0, _, kh456, kR468, kR469, zE0_w, kR470, kR471 U, ⟨kh457, ⟨_, _, _, _, _, _, kh458, kh459, kh460⟩, ⟨_, kh465, kh466⟩, ⟨_, kh461, kh462⟩, ⟨_, kh463, kh464⟩⟩, kR472 T, kh467, fun k hk => absurd hk (Nat.not_lt_zero k)⟩⟩)

set_option maxHeartbeats 400000 in
set_option maxRecDepth 100000 in
theorem qX10_init {X : zX} (hX : X.1.stackTraces = false) {σ : zS} {b : Nat}  (h0 : σ.1 b = .inr (8, [.null, .null, .null, .null, .int 0, .int 0, .int 0, .int 0, .int 0, .int 0, .int 0, .int 0, .null, .int 0, .int 0, .null, .int 0, .null, .null, .int 0, .int 0, .int 0, .int 0, .null, .null, .int 0, .null, .int 0])) (hh : σ.2 = some (b + 1))  : zMet X mX10_init yX10_init 1 11 4075 [.ref b] σ (zV (fun s => zNw b σ s 12 ∧ ∀ U T ln, zMo b 0 0 0 0 zE0 zE0 zE0 0 U 0 T 0 ln 0 (-1) 0 0 0 s)) := by
  refine zMet_of (ls := [some (.ref b)]) rfl (by decide +kernel) rfl (fun _ => rfl) hX (Nat.le_of_ble_eq_true rfl) rfl ?_
  have hB : ∀ q, q < b → σ.1 q = σ.1 q := fun q _ => rfl
  refine zr_aload_n dX10_init_0 rfl ?_
  refine zr_objInit dX10_init_1 oX10_1 (by decide) (by decide) ?_
  refine zr_aload_n dX10_init_4 rfl ?_
  refine zr_bipush (v := 82) dX10_init_5 (by decide) ?_
  refine zr_newarray (t := 0) (N := 82) (x := (82, .inl (fun _ => 0))) dX10_init_7 ac_int rfl rfl (fun C q => by cases q) (fun _ => rfl) (by decide) (by decide) (by decide) hh (by omega) (by omega) ?_
  refine zr_sig (fun ks1 e_ks1 => ?_)
  have kh2 : ks1.1 b = .inr (8, [.null, .null, .null, .null, .int 0, .int 0, .int 0, .int 0, .int 0, .int 0, .int 0, .int 0, .null, .int 0, .int 0, .null, .int 0, .null, .null, .int 0, .int 0, .int 0, .int 0, .null, .null, .int 0, .null, .int 0]) := by rw [e_ks1, zup_ne _ _ (by omega)]; exact h0
  have kh3 : ks1.1 (b + 1) = .inl (0, 82, .inl (fun _ => 0)) := by rw [e_ks1]; exact zup_at _ _ _
  have kH4 : ks1.2 = some (b + 2) := by rw [e_ks1]; rfl
  have kB5 : ∀ q, q < b → ks1.1 q = σ.1 q := fun q hq => by rw [e_ks1]; exact (zup_ne _ _ (by omega)).trans (hB q hq)
  refine zr_putfinal (fs' := [.ref ((b + 1)), .null, .null, .null, .int 0, .int 0, .int 0, .int 0, .int 0, .int 0, .int 0, .int 0, .null, .int 0, .int 0, .null, .int 0, .null, .null, .int 0, .int 0, .int 0, .int 0, .null, .null, .int 0, .null, .int 0]) dX10_init_9 rfl pX10_7 kh2 (by decide) rfl rfl (Nat.le_of_ble_eq_true rfl) rfl ?_
  refine zr_sig (fun ks6 e_ks6 => ?_)
  have kh7 : ks6.1 b = .inr (8, [.ref ((b + 1)), .null, .null, .null, .int 0, .int 0, .int 0, .int 0, .int 0, .int 0, .int 0, .int 0, .null, .int 0, .int 0, .null, .int 0, .null, .null, .int 0, .int 0, .int 0, .int 0, .null, .null, .int 0, .null, .int 0]) := by rw [e_ks6]; exact zup_at _ _ _
  have kh8 : ks6.1 (b + 1) = .inl (0, 82, .inl (fun _ => 0)) := by rw [e_ks6, zup_ne _ _ (by omega)]; exact kh3
  have kH9 : ks6.2 = some (b + 2) := by rw [e_ks6]; exact kH4
  have kB10 : ∀ q, q < b → ks6.1 q = σ.1 q := fun q hq => by rw [e_ks6]; exact (zup_ne _ _ (by omega)).trans (kB5 q hq)
  refine zr_aload_n dX10_init_12 rfl ?_
  refine zr_sipush (v := 656) dX10_init_13 (by decide) ?_
  refine zr_newarray (t := 0) (N := 656) (x := (656, .inl (fun _ => 0))) dX10_init_16 ac_int rfl rfl (fun C q => by cases q) (fun _ => rfl) (by decide) (by decide) (by decide) kH9 (by omega) (by omega) ?_
  refine zr_sig (fun ks11 e_ks11 => ?_)
  have kh12 : ks11.1 b = .inr (8, [.ref ((b + 1)), .null, .null, .null, .int 0, .int 0, .int 0, .int 0, .int 0, .int 0, .int 0, .int 0, .null, .int 0, .int 0, .null, .int 0, .null, .null, .int 0, .int 0, .int 0, .int 0, .null, .null, .int 0, .null, .int 0]) := by rw [e_ks11, zup_ne _ _ (by omega)]; exact kh7
  have kh13 : ks11.1 (b + 1) = .inl (0, 82, .inl (fun _ => 0)) := by rw [e_ks11, zup_ne _ _ (by omega)]; exact kh8
  have kh14 : ks11.1 (b + 2) = .inl (0, 656, .inl (fun _ => 0)) := by rw [e_ks11]; exact zup_at _ _ _
  have kH15 : ks11.2 = some (b + 3) := by rw [e_ks11]; rfl
  have kB16 : ∀ q, q < b → ks11.1 q = σ.1 q := fun q hq => by rw [e_ks11]; exact (zup_ne _ _ (by omega)).trans (kB10 q hq)
  refine zr_putfinal (fs' := [.ref ((b + 1)), .ref ((b + 2)), .null, .null, .int 0, .int 0, .int 0, .int 0, .int 0, .int 0, .int 0, .int 0, .null, .int 0, .int 0, .null, .int 0, .null, .null, .int 0, .int 0, .int 0, .int 0, .null, .null, .int 0, .null, .int 0]) dX10_init_18 rfl pX10_13 kh12 (by decide) rfl rfl (Nat.le_of_ble_eq_true rfl) rfl ?_
  refine zr_sig (fun ks17 e_ks17 => ?_)
  have kh18 : ks17.1 b = .inr (8, [.ref ((b + 1)), .ref ((b + 2)), .null, .null, .int 0, .int 0, .int 0, .int 0, .int 0, .int 0, .int 0, .int 0, .null, .int 0, .int 0, .null, .int 0, .null, .null, .int 0, .int 0, .int 0, .int 0, .null, .null, .int 0, .null, .int 0]) := by rw [e_ks17]; exact zup_at _ _ _
  have kh19 : ks17.1 (b + 1) = .inl (0, 82, .inl (fun _ => 0)) := by rw [e_ks17, zup_ne _ _ (by omega)]; exact kh13
  have kh20 : ks17.1 (b + 2) = .inl (0, 656, .inl (fun _ => 0)) := by rw [e_ks17, zup_ne _ _ (by omega)]; exact kh14
  have kH21 : ks17.2 = some (b + 3) := by rw [e_ks17]; exact kH15
  have kB22 : ∀ q, q < b → ks17.1 q = σ.1 q := fun q hq => by rw [e_ks17]; exact (zup_ne _ _ (by omega)).trans (kB16 q hq)
  refine zr_aload_n dX10_init_21 rfl ?_
  refine zr_bipush (v := 82) dX10_init_22 (by decide) ?_
  refine zr_newarray (t := 0) (N := 82) (x := (82, .inl (fun _ => 0))) dX10_init_24 ac_int rfl rfl (fun C q => by cases q) (fun _ => rfl) (by decide) (by decide) (by decide) kH21 (by omega) (by omega) ?_
  refine zr_sig (fun ks23 e_ks23 => ?_)
  have kh24 : ks23.1 b = .inr (8, [.ref ((b + 1)), .ref ((b + 2)), .null, .null, .int 0, .int 0, .int 0, .int 0, .int 0, .int 0, .int 0, .int 0, .null, .int 0, .int 0, .null, .int 0, .null, .null, .int 0, .int 0, .int 0, .int 0, .null, .null, .int 0, .null, .int 0]) := by rw [e_ks23, zup_ne _ _ (by omega)]; exact kh18
  have kh25 : ks23.1 (b + 1) = .inl (0, 82, .inl (fun _ => 0)) := by rw [e_ks23, zup_ne _ _ (by omega)]; exact kh19
  have kh26 : ks23.1 (b + 2) = .inl (0, 656, .inl (fun _ => 0)) := by rw [e_ks23, zup_ne _ _ (by omega)]; exact kh20
  have kh27 : ks23.1 (b + 3) = .inl (0, 82, .inl (fun _ => 0)) := by rw [e_ks23]; exact zup_at _ _ _
  have kH28 : ks23.2 = some (b + 4) := by rw [e_ks23]; rfl
  have kB29 : ∀ q, q < b → ks23.1 q = σ.1 q := fun q hq => by rw [e_ks23]; exact (zup_ne _ _ (by omega)).trans (kB22 q hq)
  refine zr_putfinal (fs' := [.ref ((b + 1)), .ref ((b + 2)), .ref ((b + 3)), .null, .int 0, .int 0, .int 0, .int 0, .int 0, .int 0, .int 0, .int 0, .null, .int 0, .int 0, .null, .int 0, .null, .null, .int 0, .int 0, .int 0, .int 0, .null, .null, .int 0, .null, .int 0]) dX10_init_26 rfl pX10_16 kh24 (by decide) rfl rfl (Nat.le_of_ble_eq_true rfl) rfl ?_
  refine zr_sig (fun ks30 e_ks30 => ?_)
  have kh31 : ks30.1 b = .inr (8, [.ref ((b + 1)), .ref ((b + 2)), .ref ((b + 3)), .null, .int 0, .int 0, .int 0, .int 0, .int 0, .int 0, .int 0, .int 0, .null, .int 0, .int 0, .null, .int 0, .null, .null, .int 0, .int 0, .int 0, .int 0, .null, .null, .int 0, .null, .int 0]) := by rw [e_ks30]; exact zup_at _ _ _
  have kh32 : ks30.1 (b + 1) = .inl (0, 82, .inl (fun _ => 0)) := by rw [e_ks30, zup_ne _ _ (by omega)]; exact kh25
  have kh33 : ks30.1 (b + 2) = .inl (0, 656, .inl (fun _ => 0)) := by rw [e_ks30, zup_ne _ _ (by omega)]; exact kh26
  have kh34 : ks30.1 (b + 3) = .inl (0, 82, .inl (fun _ => 0)) := by rw [e_ks30, zup_ne _ _ (by omega)]; exact kh27
  have kH35 : ks30.2 = some (b + 4) := by rw [e_ks30]; exact kH28
  have kB36 : ∀ q, q < b → ks30.1 q = σ.1 q := fun q hq => by rw [e_ks30]; exact (zup_ne _ _ (by omega)).trans (kB29 q hq)
  refine zr_aload_n dX10_init_29 rfl ?_
  refine zr_bipush (v := 82) dX10_init_30 (by decide) ?_
  refine zr_newarray (t := 0) (N := 82) (x := (82, .inl (fun _ => 0))) dX10_init_32 ac_int rfl rfl (fun C q => by cases q) (fun _ => rfl) (by decide) (by decide) (by decide) kH35 (by omega) (by omega) ?_
  refine zr_sig (fun ks37 e_ks37 => ?_)
  have kh38 : ks37.1 b = .inr (8, [.ref ((b + 1)), .ref ((b + 2)), .ref ((b + 3)), .null, .int 0, .int 0, .int 0, .int 0, .int 0, .int 0, .int 0, .int 0, .null, .int 0, .int 0, .null, .int 0, .null, .null, .int 0, .int 0, .int 0, .int 0, .null, .null, .int 0, .null, .int 0]) := by rw [e_ks37, zup_ne _ _ (by omega)]; exact kh31
  have kh39 : ks37.1 (b + 1) = .inl (0, 82, .inl (fun _ => 0)) := by rw [e_ks37, zup_ne _ _ (by omega)]; exact kh32
  have kh40 : ks37.1 (b + 2) = .inl (0, 656, .inl (fun _ => 0)) := by rw [e_ks37, zup_ne _ _ (by omega)]; exact kh33
  have kh41 : ks37.1 (b + 3) = .inl (0, 82, .inl (fun _ => 0)) := by rw [e_ks37, zup_ne _ _ (by omega)]; exact kh34
  have kh42 : ks37.1 (b + 4) = .inl (0, 82, .inl (fun _ => 0)) := by rw [e_ks37]; exact zup_at _ _ _
  have kH43 : ks37.2 = some (b + 5) := by rw [e_ks37]; rfl
  have kB44 : ∀ q, q < b → ks37.1 q = σ.1 q := fun q hq => by rw [e_ks37]; exact (zup_ne _ _ (by omega)).trans (kB36 q hq)
  refine zr_putfinal (fs' := [.ref ((b + 1)), .ref ((b + 2)), .ref ((b + 3)), .ref ((b + 4)), .int 0, .int 0, .int 0, .int 0, .int 0, .int 0, .int 0, .int 0, .null, .int 0, .int 0, .null, .int 0, .null, .null, .int 0, .int 0, .int 0, .int 0, .null, .null, .int 0, .null, .int 0]) dX10_init_34 rfl pX10_19 kh38 (by decide) rfl rfl (Nat.le_of_ble_eq_true rfl) rfl ?_
  refine zr_sig (fun ks45 e_ks45 => ?_)
  have kh46 : ks45.1 b = .inr (8, [.ref ((b + 1)), .ref ((b + 2)), .ref ((b + 3)), .ref ((b + 4)), .int 0, .int 0, .int 0, .int 0, .int 0, .int 0, .int 0, .int 0, .null, .int 0, .int 0, .null, .int 0, .null, .null, .int 0, .int 0, .int 0, .int 0, .null, .null, .int 0, .null, .int 0]) := by rw [e_ks45]; exact zup_at _ _ _
  have kh47 : ks45.1 (b + 1) = .inl (0, 82, .inl (fun _ => 0)) := by rw [e_ks45, zup_ne _ _ (by omega)]; exact kh39
  have kh48 : ks45.1 (b + 2) = .inl (0, 656, .inl (fun _ => 0)) := by rw [e_ks45, zup_ne _ _ (by omega)]; exact kh40
  have kh49 : ks45.1 (b + 3) = .inl (0, 82, .inl (fun _ => 0)) := by rw [e_ks45, zup_ne _ _ (by omega)]; exact kh41
  have kh50 : ks45.1 (b + 4) = .inl (0, 82, .inl (fun _ => 0)) := by rw [e_ks45, zup_ne _ _ (by omega)]; exact kh42
  have kH51 : ks45.2 = some (b + 5) := by rw [e_ks45]; exact kH43
  have kB52 : ∀ q, q < b → ks45.1 q = σ.1 q := fun q hq => by rw [e_ks45]; exact (zup_ne _ _ (by omega)).trans (kB44 q hq)
  refine zr_aload_n dX10_init_37 rfl ?_
  refine zr_bipush (v := 60) dX10_init_38 (by decide) ?_
  refine zr_newarray (t := 0) (N := 60) (x := (60, .inl (fun _ => 0))) dX10_init_40 ac_int rfl rfl (fun C q => by cases q) (fun _ => rfl) (by decide) (by decide) (by decide) kH51 (by omega) (by omega) ?_
  refine zr_sig (fun ks53 e_ks53 => ?_)
  have kh54 : ks53.1 b = .inr (8, [.ref ((b + 1)), .ref ((b + 2)), .ref ((b + 3)), .ref ((b + 4)), .int 0, .int 0, .int 0, .int 0, .int 0, .int 0, .int 0, .int 0, .null, .int 0, .int 0, .null, .int 0, .null, .null, .int 0, .int 0, .int 0, .int 0, .null, .null, .int 0, .null, .int 0]) := by rw [e_ks53, zup_ne _ _ (by omega)]; exact kh46
  have kh55 : ks53.1 (b + 1) = .inl (0, 82, .inl (fun _ => 0)) := by rw [e_ks53, zup_ne _ _ (by omega)]; exact kh47
  have kh56 : ks53.1 (b + 2) = .inl (0, 656, .inl (fun _ => 0)) := by rw [e_ks53, zup_ne _ _ (by omega)]; exact kh48
  have kh57 : ks53.1 (b + 3) = .inl (0, 82, .inl (fun _ => 0)) := by rw [e_ks53, zup_ne _ _ (by omega)]; exact kh49
  have kh58 : ks53.1 (b + 4) = .inl (0, 82, .inl (fun _ => 0)) := by rw [e_ks53, zup_ne _ _ (by omega)]; exact kh50
  have kh59 : ks53.1 (b + 5) = .inl (0, 60, .inl (fun _ => 0)) := by rw [e_ks53]; exact zup_at _ _ _
  have kH60 : ks53.2 = some (b + 6) := by rw [e_ks53]; rfl
  have kB61 : ∀ q, q < b → ks53.1 q = σ.1 q := fun q hq => by rw [e_ks53]; exact (zup_ne _ _ (by omega)).trans (kB52 q hq)
  refine zr_putfinal (fs' := [.ref ((b + 1)), .ref ((b + 2)), .ref ((b + 3)), .ref ((b + 4)), .int 0, .int 0, .int 0, .int 0, .int 0, .int 0, .int 0, .int 0, .ref ((b + 5)), .int 0, .int 0, .null, .int 0, .null, .null, .int 0, .int 0, .int 0, .int 0, .null, .null, .int 0, .null, .int 0]) dX10_init_42 rfl pX10_22 kh54 (by decide) rfl rfl (Nat.le_of_ble_eq_true rfl) rfl ?_
  refine zr_sig (fun ks62 e_ks62 => ?_)
  have kh63 : ks62.1 b = .inr (8, [.ref ((b + 1)), .ref ((b + 2)), .ref ((b + 3)), .ref ((b + 4)), .int 0, .int 0, .int 0, .int 0, .int 0, .int 0, .int 0, .int 0, .ref ((b + 5)), .int 0, .int 0, .null, .int 0, .null, .null, .int 0, .int 0, .int 0, .int 0, .null, .null, .int 0, .null, .int 0]) := by rw [e_ks62]; exact zup_at _ _ _
  have kh64 : ks62.1 (b + 1) = .inl (0, 82, .inl (fun _ => 0)) := by rw [e_ks62, zup_ne _ _ (by omega)]; exact kh55
  have kh65 : ks62.1 (b + 2) = .inl (0, 656, .inl (fun _ => 0)) := by rw [e_ks62, zup_ne _ _ (by omega)]; exact kh56
  have kh66 : ks62.1 (b + 3) = .inl (0, 82, .inl (fun _ => 0)) := by rw [e_ks62, zup_ne _ _ (by omega)]; exact kh57
  have kh67 : ks62.1 (b + 4) = .inl (0, 82, .inl (fun _ => 0)) := by rw [e_ks62, zup_ne _ _ (by omega)]; exact kh58
  have kh68 : ks62.1 (b + 5) = .inl (0, 60, .inl (fun _ => 0)) := by rw [e_ks62, zup_ne _ _ (by omega)]; exact kh59
  have kH69 : ks62.2 = some (b + 6) := by rw [e_ks62]; exact kH60
  have kB70 : ∀ q, q < b → ks62.1 q = σ.1 q := fun q hq => by rw [e_ks62]; exact (zup_ne _ _ (by omega)).trans (kB61 q hq)
  refine zr_aload_n dX10_init_45 rfl ?_
  refine zr_iconst (v := -1) dX10_init_46 (by decide) ?_
  refine zr_putfield (fs' := [.ref ((b + 1)), .ref ((b + 2)), .ref ((b + 3)), .ref ((b + 4)), .int 0, .int 0, .int 0, .int 0, .int 0, .int 0, .int 0, .int 0, .ref ((b + 5)), .int 0, .int ((-1)), .null, .int 0, .null, .null, .int 0, .int 0, .int 0, .int 0, .null, .null, .int 0, .null, .int 0]) dX10_init_47 pX10_25 kh63 (by decide) (rfl) (rfl) (Nat.le_of_ble_eq_true rfl) rfl ?_
  refine zr_sig (fun ks71 e_ks71 => ?_)
  have kh72 : ks71.1 b = .inr (8, [.ref ((b + 1)), .ref ((b + 2)), .ref ((b + 3)), .ref ((b + 4)), .int 0, .int 0, .int 0, .int 0, .int 0, .int 0, .int 0, .int 0, .ref ((b + 5)), .int 0, .int ((-1)), .null, .int 0, .null, .null, .int 0, .int 0, .int 0, .int 0, .null, .null, .int 0, .null, .int 0]) := by rw [e_ks71]; exact zup_at _ _ _
  have kh73 : ks71.1 (b + 1) = .inl (0, 82, .inl (fun _ => 0)) := by rw [e_ks71, zup_ne _ _ (by omega)]; exact kh64
  have kh74 : ks71.1 (b + 2) = .inl (0, 656, .inl (fun _ => 0)) := by rw [e_ks71, zup_ne _ _ (by omega)]; exact kh65
  have kh75 : ks71.1 (b + 3) = .inl (0, 82, .inl (fun _ => 0)) := by rw [e_ks71, zup_ne _ _ (by omega)]; exact kh66
  have kh76 : ks71.1 (b + 4) = .inl (0, 82, .inl (fun _ => 0)) := by rw [e_ks71, zup_ne _ _ (by omega)]; exact kh67
  have kh77 : ks71.1 (b + 5) = .inl (0, 60, .inl (fun _ => 0)) := by rw [e_ks71, zup_ne _ _ (by omega)]; exact kh68
  have kH78 : ks71.2 = some (b + 6) := by rw [e_ks71]; exact kH69
  have kB79 : ∀ q, q < b → ks71.1 q = σ.1 q := fun q hq => by rw [e_ks71]; exact (zup_ne _ _ (by omega)).trans (kB70 q hq)
  refine zr_aload_n dX10_init_50 rfl ?_
  refine zr_sipush (v := 400) dX10_init_51 (by decide) ?_
  refine zr_newarray (t := 1) (N := 400) (x := (400, .inl (fun _ => 0))) dX10_init_54 ac_char rfl rfl (fun C q => by cases q) (fun _ => rfl) (by decide) (by decide) (by decide) kH78 (by omega) (by omega) ?_
  refine zr_sig (fun ks80 e_ks80 => ?_)
  have kh81 : ks80.1 b = .inr (8, [.ref ((b + 1)), .ref ((b + 2)), .ref ((b + 3)), .ref ((b + 4)), .int 0, .int 0, .int 0, .int 0, .int 0, .int 0, .int 0, .int 0, .ref ((b + 5)), .int 0, .int ((-1)), .null, .int 0, .null, .null, .int 0, .int 0, .int 0, .int 0, .null, .null, .int 0, .null, .int 0]) := by rw [e_ks80, zup_ne _ _ (by omega)]; exact kh72
  have kh82 : ks80.1 (b + 1) = .inl (0, 82, .inl (fun _ => 0)) := by rw [e_ks80, zup_ne _ _ (by omega)]; exact kh73
  have kh83 : ks80.1 (b + 2) = .inl (0, 656, .inl (fun _ => 0)) := by rw [e_ks80, zup_ne _ _ (by omega)]; exact kh74
  have kh84 : ks80.1 (b + 3) = .inl (0, 82, .inl (fun _ => 0)) := by rw [e_ks80, zup_ne _ _ (by omega)]; exact kh75
  have kh85 : ks80.1 (b + 4) = .inl (0, 82, .inl (fun _ => 0)) := by rw [e_ks80, zup_ne _ _ (by omega)]; exact kh76
  have kh86 : ks80.1 (b + 5) = .inl (0, 60, .inl (fun _ => 0)) := by rw [e_ks80, zup_ne _ _ (by omega)]; exact kh77
  have kh87 : ks80.1 (b + 6) = .inl (1, 400, .inl (fun _ => 0)) := by rw [e_ks80]; exact zup_at _ _ _
  have kH88 : ks80.2 = some (b + 7) := by rw [e_ks80]; rfl
  have kB89 : ∀ q, q < b → ks80.1 q = σ.1 q := fun q hq => by rw [e_ks80]; exact (zup_ne _ _ (by omega)).trans (kB79 q hq)
  refine zr_putfinal (fs' := [.ref ((b + 1)), .ref ((b + 2)), .ref ((b + 3)), .ref ((b + 4)), .int 0, .int 0, .int 0, .int 0, .int 0, .int 0, .int 0, .int 0, .ref ((b + 5)), .int 0, .int ((-1)), .ref ((b + 6)), .int 0, .null, .null, .int 0, .int 0, .int 0, .int 0, .null, .null, .int 0, .null, .int 0]) dX10_init_56 rfl pX10_29 kh81 (by decide) rfl rfl (Nat.le_of_ble_eq_true rfl) rfl ?_
  refine zr_sig (fun ks90 e_ks90 => ?_)
  have kh91 : ks90.1 b = .inr (8, [.ref ((b + 1)), .ref ((b + 2)), .ref ((b + 3)), .ref ((b + 4)), .int 0, .int 0, .int 0, .int 0, .int 0, .int 0, .int 0, .int 0, .ref ((b + 5)), .int 0, .int ((-1)), .ref ((b + 6)), .int 0, .null, .null, .int 0, .int 0, .int 0, .int 0, .null, .null, .int 0, .null, .int 0]) := by rw [e_ks90]; exact zup_at _ _ _
  have kh92 : ks90.1 (b + 1) = .inl (0, 82, .inl (fun _ => 0)) := by rw [e_ks90, zup_ne _ _ (by omega)]; exact kh82
  have kh93 : ks90.1 (b + 2) = .inl (0, 656, .inl (fun _ => 0)) := by rw [e_ks90, zup_ne _ _ (by omega)]; exact kh83
  have kh94 : ks90.1 (b + 3) = .inl (0, 82, .inl (fun _ => 0)) := by rw [e_ks90, zup_ne _ _ (by omega)]; exact kh84
  have kh95 : ks90.1 (b + 4) = .inl (0, 82, .inl (fun _ => 0)) := by rw [e_ks90, zup_ne _ _ (by omega)]; exact kh85
  have kh96 : ks90.1 (b + 5) = .inl (0, 60, .inl (fun _ => 0)) := by rw [e_ks90, zup_ne _ _ (by omega)]; exact kh86
  have kh97 : ks90.1 (b + 6) = .inl (1, 400, .inl (fun _ => 0)) := by rw [e_ks90, zup_ne _ _ (by omega)]; exact kh87
  have kH98 : ks90.2 = some (b + 7) := by rw [e_ks90]; exact kH88
  have kB99 : ∀ q, q < b → ks90.1 q = σ.1 q := fun q hq => by rw [e_ks90]; exact (zup_ne _ _ (by omega)).trans (kB89 q hq)
  refine zr_aload_n dX10_init_59 rfl ?_
  refine zr_sipush (v := 1300) dX10_init_60 (by decide) ?_
  refine zr_newarray (t := 0) (N := 1300) (x := (1300, .inl (fun _ => 0))) dX10_init_63 ac_int rfl rfl (fun C q => by cases q) (fun _ => rfl) (by decide) (by decide) (by decide) kH98 (by omega) (by omega) ?_
  refine zr_sig (fun ks100 e_ks100 => ?_)
  have kh101 : ks100.1 b = .inr (8, [.ref ((b + 1)), .ref ((b + 2)), .ref ((b + 3)), .ref ((b + 4)), .int 0, .int 0, .int 0, .int 0, .int 0, .int 0, .int 0, .int 0, .ref ((b + 5)), .int 0, .int ((-1)), .ref ((b + 6)), .int 0, .null, .null, .int 0, .int 0, .int 0, .int 0, .null, .null, .int 0, .null, .int 0]) := by rw [e_ks100, zup_ne _ _ (by omega)]; exact kh91
  have kh102 : ks100.1 (b + 1) = .inl (0, 82, .inl (fun _ => 0)) := by rw [e_ks100, zup_ne _ _ (by omega)]; exact kh92
  have kh103 : ks100.1 (b + 2) = .inl (0, 656, .inl (fun _ => 0)) := by rw [e_ks100, zup_ne _ _ (by omega)]; exact kh93
  have kh104 : ks100.1 (b + 3) = .inl (0, 82, .inl (fun _ => 0)) := by rw [e_ks100, zup_ne _ _ (by omega)]; exact kh94
  have kh105 : ks100.1 (b + 4) = .inl (0, 82, .inl (fun _ => 0)) := by rw [e_ks100, zup_ne _ _ (by omega)]; exact kh95
  have kh106 : ks100.1 (b + 5) = .inl (0, 60, .inl (fun _ => 0)) := by rw [e_ks100, zup_ne _ _ (by omega)]; exact kh96
  have kh107 : ks100.1 (b + 6) = .inl (1, 400, .inl (fun _ => 0)) := by rw [e_ks100, zup_ne _ _ (by omega)]; exact kh97
  have kh108 : ks100.1 (b + 7) = .inl (0, 1300, .inl (fun _ => 0)) := by rw [e_ks100]; exact zup_at _ _ _
  have kH109 : ks100.2 = some (b + 8) := by rw [e_ks100]; rfl
  have kB110 : ∀ q, q < b → ks100.1 q = σ.1 q := fun q hq => by rw [e_ks100]; exact (zup_ne _ _ (by omega)).trans (kB99 q hq)
  refine zr_putfinal (fs' := [.ref ((b + 1)), .ref ((b + 2)), .ref ((b + 3)), .ref ((b + 4)), .int 0, .int 0, .int 0, .int 0, .int 0, .int 0, .int 0, .int 0, .ref ((b + 5)), .int 0, .int ((-1)), .ref ((b + 6)), .int 0, .ref ((b + 7)), .null, .int 0, .int 0, .int 0, .int 0, .null, .null, .int 0, .null, .int 0]) dX10_init_65 rfl pX10_33 kh101 (by decide) rfl rfl (Nat.le_of_ble_eq_true rfl) rfl ?_
  refine zr_sig (fun ks111 e_ks111 => ?_)
  have kh112 : ks111.1 b = .inr (8, [.ref ((b + 1)), .ref ((b + 2)), .ref ((b + 3)), .ref ((b + 4)), .int 0, .int 0, .int 0, .int 0, .int 0, .int 0, .int 0, .int 0, .ref ((b + 5)), .int 0, .int ((-1)), .ref ((b + 6)), .int 0, .ref ((b + 7)), .null, .int 0, .int 0, .int 0, .int 0, .null, .null, .int 0, .null, .int 0]) := by rw [e_ks111]; exact zup_at _ _ _
  have kh113 : ks111.1 (b + 1) = .inl (0, 82, .inl (fun _ => 0)) := by rw [e_ks111, zup_ne _ _ (by omega)]; exact kh102
  have kh114 : ks111.1 (b + 2) = .inl (0, 656, .inl (fun _ => 0)) := by rw [e_ks111, zup_ne _ _ (by omega)]; exact kh103
  have kh115 : ks111.1 (b + 3) = .inl (0, 82, .inl (fun _ => 0)) := by rw [e_ks111, zup_ne _ _ (by omega)]; exact kh104
  have kh116 : ks111.1 (b + 4) = .inl (0, 82, .inl (fun _ => 0)) := by rw [e_ks111, zup_ne _ _ (by omega)]; exact kh105
  have kh117 : ks111.1 (b + 5) = .inl (0, 60, .inl (fun _ => 0)) := by rw [e_ks111, zup_ne _ _ (by omega)]; exact kh106
  have kh118 : ks111.1 (b + 6) = .inl (1, 400, .inl (fun _ => 0)) := by rw [e_ks111, zup_ne _ _ (by omega)]; exact kh107
  have kh119 : ks111.1 (b + 7) = .inl (0, 1300, .inl (fun _ => 0)) := by rw [e_ks111, zup_ne _ _ (by omega)]; exact kh108
  have kH120 : ks111.2 = some (b + 8) := by rw [e_ks111]; exact kH109
  have kB121 : ∀ q, q < b → ks111.1 q = σ.1 q := fun q hq => by rw [e_ks111]; exact (zup_ne _ _ (by omega)).trans (kB110 q hq)
  refine zr_aload_n dX10_init_68 rfl ?_
  refine zr_sipush (v := 1300) dX10_init_69 (by decide) ?_
  refine zr_newarray (t := 0) (N := 1300) (x := (1300, .inl (fun _ => 0))) dX10_init_72 ac_int rfl rfl (fun C q => by cases q) (fun _ => rfl) (by decide) (by decide) (by decide) kH120 (by omega) (by omega) ?_
  refine zr_sig (fun ks122 e_ks122 => ?_)
  have kh123 : ks122.1 b = .inr (8, [.ref ((b + 1)), .ref ((b + 2)), .ref ((b + 3)), .ref ((b + 4)), .int 0, .int 0, .int 0, .int 0, .int 0, .int 0, .int 0, .int 0, .ref ((b + 5)), .int 0, .int ((-1)), .ref ((b + 6)), .int 0, .ref ((b + 7)), .null, .int 0, .int 0, .int 0, .int 0, .null, .null, .int 0, .null, .int 0]) := by rw [e_ks122, zup_ne _ _ (by omega)]; exact kh112
  have kh124 : ks122.1 (b + 1) = .inl (0, 82, .inl (fun _ => 0)) := by rw [e_ks122, zup_ne _ _ (by omega)]; exact kh113
  have kh125 : ks122.1 (b + 2) = .inl (0, 656, .inl (fun _ => 0)) := by rw [e_ks122, zup_ne _ _ (by omega)]; exact kh114
  have kh126 : ks122.1 (b + 3) = .inl (0, 82, .inl (fun _ => 0)) := by rw [e_ks122, zup_ne _ _ (by omega)]; exact kh115
  have kh127 : ks122.1 (b + 4) = .inl (0, 82, .inl (fun _ => 0)) := by rw [e_ks122, zup_ne _ _ (by omega)]; exact kh116
  have kh128 : ks122.1 (b + 5) = .inl (0, 60, .inl (fun _ => 0)) := by rw [e_ks122, zup_ne _ _ (by omega)]; exact kh117
  have kh129 : ks122.1 (b + 6) = .inl (1, 400, .inl (fun _ => 0)) := by rw [e_ks122, zup_ne _ _ (by omega)]; exact kh118
  have kh130 : ks122.1 (b + 7) = .inl (0, 1300, .inl (fun _ => 0)) := by rw [e_ks122, zup_ne _ _ (by omega)]; exact kh119
  have kh131 : ks122.1 (b + 8) = .inl (0, 1300, .inl (fun _ => 0)) := by rw [e_ks122]; exact zup_at _ _ _
  have kH132 : ks122.2 = some (b + 9) := by rw [e_ks122]; rfl
  have kB133 : ∀ q, q < b → ks122.1 q = σ.1 q := fun q hq => by rw [e_ks122]; exact (zup_ne _ _ (by omega)).trans (kB121 q hq)
  refine zr_putfinal (fs' := [.ref ((b + 1)), .ref ((b + 2)), .ref ((b + 3)), .ref ((b + 4)), .int 0, .int 0, .int 0, .int 0, .int 0, .int 0, .int 0, .int 0, .ref ((b + 5)), .int 0, .int ((-1)), .ref ((b + 6)), .int 0, .ref ((b + 7)), .ref ((b + 8)), .int 0, .int 0, .int 0, .int 0, .null, .null, .int 0, .null, .int 0]) dX10_init_74 rfl pX10_36 kh123 (by decide) rfl rfl (Nat.le_of_ble_eq_true rfl) rfl ?_
  refine zr_sig (fun ks134 e_ks134 => ?_)
  have kh135 : ks134.1 b = .inr (8, [.ref ((b + 1)), .ref ((b + 2)), .ref ((b + 3)), .ref ((b + 4)), .int 0, .int 0, .int 0, .int 0, .int 0, .int 0, .int 0, .int 0, .ref ((b + 5)), .int 0, .int ((-1)), .ref ((b + 6)), .int 0, .ref ((b + 7)), .ref ((b + 8)), .int 0, .int 0, .int 0, .int 0, .null, .null, .int 0, .null, .int 0]) := by rw [e_ks134]; exact zup_at _ _ _
  have kh136 : ks134.1 (b + 1) = .inl (0, 82, .inl (fun _ => 0)) := by rw [e_ks134, zup_ne _ _ (by omega)]; exact kh124
  have kh137 : ks134.1 (b + 2) = .inl (0, 656, .inl (fun _ => 0)) := by rw [e_ks134, zup_ne _ _ (by omega)]; exact kh125
  have kh138 : ks134.1 (b + 3) = .inl (0, 82, .inl (fun _ => 0)) := by rw [e_ks134, zup_ne _ _ (by omega)]; exact kh126
  have kh139 : ks134.1 (b + 4) = .inl (0, 82, .inl (fun _ => 0)) := by rw [e_ks134, zup_ne _ _ (by omega)]; exact kh127
  have kh140 : ks134.1 (b + 5) = .inl (0, 60, .inl (fun _ => 0)) := by rw [e_ks134, zup_ne _ _ (by omega)]; exact kh128
  have kh141 : ks134.1 (b + 6) = .inl (1, 400, .inl (fun _ => 0)) := by rw [e_ks134, zup_ne _ _ (by omega)]; exact kh129
  have kh142 : ks134.1 (b + 7) = .inl (0, 1300, .inl (fun _ => 0)) := by rw [e_ks134, zup_ne _ _ (by omega)]; exact kh130
  have kh143 : ks134.1 (b + 8) = .inl (0, 1300, .inl (fun _ => 0)) := by rw [e_ks134, zup_ne _ _ (by omega)]; exact kh131
  have kH144 : ks134.2 = some (b + 9) := by rw [e_ks134]; exact kH132
  have kB145 : ∀ q, q < b → ks134.1 q = σ.1 q := fun q hq => by rw [e_ks134]; exact (zup_ne _ _ (by omega)).trans (kB133 q hq)
  refine zr_aload_n dX10_init_77 rfl ?_
  refine zr_bipush (v := 10) dX10_init_78 (by decide) ?_
  refine zr_newarray (t := 3) (N := 10) (x := (10, .inr (.inl (z64 (fun _ => 0))))) dX10_init_80 ac_long rfl rfl (fun C q => by cases q) (fun _ => rfl) (by decide) (by decide) (by decide) kH144 (by omega) (by omega) ?_
  refine zr_sig (fun ks146 e_ks146 => ?_)
  have kh147 : ks146.1 b = .inr (8, [.ref ((b + 1)), .ref ((b + 2)), .ref ((b + 3)), .ref ((b + 4)), .int 0, .int 0, .int 0, .int 0, .int 0, .int 0, .int 0, .int 0, .ref ((b + 5)), .int 0, .int ((-1)), .ref ((b + 6)), .int 0, .ref ((b + 7)), .ref ((b + 8)), .int 0, .int 0, .int 0, .int 0, .null, .null, .int 0, .null, .int 0]) := by rw [e_ks146, zup_ne _ _ (by omega)]; exact kh135
  have kh148 : ks146.1 (b + 1) = .inl (0, 82, .inl (fun _ => 0)) := by rw [e_ks146, zup_ne _ _ (by omega)]; exact kh136
  have kh149 : ks146.1 (b + 2) = .inl (0, 656, .inl (fun _ => 0)) := by rw [e_ks146, zup_ne _ _ (by omega)]; exact kh137
  have kh150 : ks146.1 (b + 3) = .inl (0, 82, .inl (fun _ => 0)) := by rw [e_ks146, zup_ne _ _ (by omega)]; exact kh138
  have kh151 : ks146.1 (b + 4) = .inl (0, 82, .inl (fun _ => 0)) := by rw [e_ks146, zup_ne _ _ (by omega)]; exact kh139
  have kh152 : ks146.1 (b + 5) = .inl (0, 60, .inl (fun _ => 0)) := by rw [e_ks146, zup_ne _ _ (by omega)]; exact kh140
  have kh153 : ks146.1 (b + 6) = .inl (1, 400, .inl (fun _ => 0)) := by rw [e_ks146, zup_ne _ _ (by omega)]; exact kh141
  have kh154 : ks146.1 (b + 7) = .inl (0, 1300, .inl (fun _ => 0)) := by rw [e_ks146, zup_ne _ _ (by omega)]; exact kh142
  have kh155 : ks146.1 (b + 8) = .inl (0, 1300, .inl (fun _ => 0)) := by rw [e_ks146, zup_ne _ _ (by omega)]; exact kh143
  have kh156 : ks146.1 (b + 9) = .inl (3, 10, .inr (.inl (z64 (fun _ => 0)))) := by rw [e_ks146]; exact zup_at _ _ _
  have kH157 : ks146.2 = some (b + 10) := by rw [e_ks146]; rfl
  have kB158 : ∀ q, q < b → ks146.1 q = σ.1 q := fun q hq => by rw [e_ks146]; exact (zup_ne _ _ (by omega)).trans (kB145 q hq)
  refine zr_putfinal (fs' := [.ref ((b + 1)), .ref ((b + 2)), .ref ((b + 3)), .ref ((b + 4)), .int 0, .int 0, .int 0, .int 0, .int 0, .int 0, .int 0, .int 0, .ref ((b + 5)), .int 0, .int ((-1)), .ref ((b + 6)), .int 0, .ref ((b + 7)), .ref ((b + 8)), .int 0, .int 0, .int 0, .int 0, .ref ((b + 9)), .null, .int 0, .null, .int 0]) dX10_init_82 rfl pX10_39 kh147 (by decide) rfl rfl (Nat.le_of_ble_eq_true rfl) rfl ?_
  refine zr_sig (fun ks159 e_ks159 => ?_)
  have kh160 : ks159.1 b = .inr (8, [.ref ((b + 1)), .ref ((b + 2)), .ref ((b + 3)), .ref ((b + 4)), .int 0, .int 0, .int 0, .int 0, .int 0, .int 0, .int 0, .int 0, .ref ((b + 5)), .int 0, .int ((-1)), .ref ((b + 6)), .int 0, .ref ((b + 7)), .ref ((b + 8)), .int 0, .int 0, .int 0, .int 0, .ref ((b + 9)), .null, .int 0, .null, .int 0]) := by rw [e_ks159]; exact zup_at _ _ _
  have kh161 : ks159.1 (b + 1) = .inl (0, 82, .inl (fun _ => 0)) := by rw [e_ks159, zup_ne _ _ (by omega)]; exact kh148
  have kh162 : ks159.1 (b + 2) = .inl (0, 656, .inl (fun _ => 0)) := by rw [e_ks159, zup_ne _ _ (by omega)]; exact kh149
  have kh163 : ks159.1 (b + 3) = .inl (0, 82, .inl (fun _ => 0)) := by rw [e_ks159, zup_ne _ _ (by omega)]; exact kh150
  have kh164 : ks159.1 (b + 4) = .inl (0, 82, .inl (fun _ => 0)) := by rw [e_ks159, zup_ne _ _ (by omega)]; exact kh151
  have kh165 : ks159.1 (b + 5) = .inl (0, 60, .inl (fun _ => 0)) := by rw [e_ks159, zup_ne _ _ (by omega)]; exact kh152
  have kh166 : ks159.1 (b + 6) = .inl (1, 400, .inl (fun _ => 0)) := by rw [e_ks159, zup_ne _ _ (by omega)]; exact kh153
  have kh167 : ks159.1 (b + 7) = .inl (0, 1300, .inl (fun _ => 0)) := by rw [e_ks159, zup_ne _ _ (by omega)]; exact kh154
  have kh168 : ks159.1 (b + 8) = .inl (0, 1300, .inl (fun _ => 0)) := by rw [e_ks159, zup_ne _ _ (by omega)]; exact kh155
  have kh169 : ks159.1 (b + 9) = .inl (3, 10, .inr (.inl (z64 (fun _ => 0)))) := by rw [e_ks159, zup_ne _ _ (by omega)]; exact kh156
  have kH170 : ks159.2 = some (b + 10) := by rw [e_ks159]; exact kH157
  have kB171 : ∀ q, q < b → ks159.1 q = σ.1 q := fun q hq => by rw [e_ks159]; exact (zup_ne _ _ (by omega)).trans (kB158 q hq)
  refine zr_aload_n dX10_init_85 rfl ?_
  refine zr_bipush (v := 10) dX10_init_86 (by decide) ?_
  refine zr_newarray (t := 3) (N := 10) (x := (10, .inr (.inl (z64 (fun _ => 0))))) dX10_init_88 ac_long rfl rfl (fun C q => by cases q) (fun _ => rfl) (by decide) (by decide) (by decide) kH170 (by omega) (by omega) ?_
  refine zr_sig (fun ks172 e_ks172 => ?_)
  have kh173 : ks172.1 b = .inr (8, [.ref ((b + 1)), .ref ((b + 2)), .ref ((b + 3)), .ref ((b + 4)), .int 0, .int 0, .int 0, .int 0, .int 0, .int 0, .int 0, .int 0, .ref ((b + 5)), .int 0, .int ((-1)), .ref ((b + 6)), .int 0, .ref ((b + 7)), .ref ((b + 8)), .int 0, .int 0, .int 0, .int 0, .ref ((b + 9)), .null, .int 0, .null, .int 0]) := by rw [e_ks172, zup_ne _ _ (by omega)]; exact kh160
  have kh174 : ks172.1 (b + 1) = .inl (0, 82, .inl (fun _ => 0)) := by rw [e_ks172, zup_ne _ _ (by omega)]; exact kh161
  have kh175 : ks172.1 (b + 2) = .inl (0, 656, .inl (fun _ => 0)) := by rw [e_ks172, zup_ne _ _ (by omega)]; exact kh162
  have kh176 : ks172.1 (b + 3) = .inl (0, 82, .inl (fun _ => 0)) := by rw [e_ks172, zup_ne _ _ (by omega)]; exact kh163
  have kh177 : ks172.1 (b + 4) = .inl (0, 82, .inl (fun _ => 0)) := by rw [e_ks172, zup_ne _ _ (by omega)]; exact kh164
  have kh178 : ks172.1 (b + 5) = .inl (0, 60, .inl (fun _ => 0)) := by rw [e_ks172, zup_ne _ _ (by omega)]; exact kh165
  have kh179 : ks172.1 (b + 6) = .inl (1, 400, .inl (fun _ => 0)) := by rw [e_ks172, zup_ne _ _ (by omega)]; exact kh166
  have kh180 : ks172.1 (b + 7) = .inl (0, 1300, .inl (fun _ => 0)) := by rw [e_ks172, zup_ne _ _ (by omega)]; exact kh167
  have kh181 : ks172.1 (b + 8) = .inl (0, 1300, .inl (fun _ => 0)) := by rw [e_ks172, zup_ne _ _ (by omega)]; exact kh168
  have kh182 : ks172.1 (b + 9) = .inl (3, 10, .inr (.inl (z64 (fun _ => 0)))) := by rw [e_ks172, zup_ne _ _ (by omega)]; exact kh169
  have kh183 : ks172.1 (b + 10) = .inl (3, 10, .inr (.inl (z64 (fun _ => 0)))) := by rw [e_ks172]; exact zup_at _ _ _
  have kH184 : ks172.2 = some (b + 11) := by rw [e_ks172]; rfl
  have kB185 : ∀ q, q < b → ks172.1 q = σ.1 q := fun q hq => by rw [e_ks172]; exact (zup_ne _ _ (by omega)).trans (kB171 q hq)
  refine zr_putfinal (fs' := [.ref ((b + 1)), .ref ((b + 2)), .ref ((b + 3)), .ref ((b + 4)), .int 0, .int 0, .int 0, .int 0, .int 0, .int 0, .int 0, .int 0, .ref ((b + 5)), .int 0, .int ((-1)), .ref ((b + 6)), .int 0, .ref ((b + 7)), .ref ((b + 8)), .int 0, .int 0, .int 0, .int 0, .ref ((b + 9)), .ref ((b + 10)), .int 0, .null, .int 0]) dX10_init_90 rfl pX10_43 kh173 (by decide) rfl rfl (Nat.le_of_ble_eq_true rfl) rfl ?_
  refine zr_sig (fun ks186 e_ks186 => ?_)
  have kh187 : ks186.1 b = .inr (8, [.ref ((b + 1)), .ref ((b + 2)), .ref ((b + 3)), .ref ((b + 4)), .int 0, .int 0, .int 0, .int 0, .int 0, .int 0, .int 0, .int 0, .ref ((b + 5)), .int 0, .int ((-1)), .ref ((b + 6)), .int 0, .ref ((b + 7)), .ref ((b + 8)), .int 0, .int 0, .int 0, .int 0, .ref ((b + 9)), .ref ((b + 10)), .int 0, .null, .int 0]) := by rw [e_ks186]; exact zup_at _ _ _
  have kh188 : ks186.1 (b + 1) = .inl (0, 82, .inl (fun _ => 0)) := by rw [e_ks186, zup_ne _ _ (by omega)]; exact kh174
  have kh189 : ks186.1 (b + 2) = .inl (0, 656, .inl (fun _ => 0)) := by rw [e_ks186, zup_ne _ _ (by omega)]; exact kh175
  have kh190 : ks186.1 (b + 3) = .inl (0, 82, .inl (fun _ => 0)) := by rw [e_ks186, zup_ne _ _ (by omega)]; exact kh176
  have kh191 : ks186.1 (b + 4) = .inl (0, 82, .inl (fun _ => 0)) := by rw [e_ks186, zup_ne _ _ (by omega)]; exact kh177
  have kh192 : ks186.1 (b + 5) = .inl (0, 60, .inl (fun _ => 0)) := by rw [e_ks186, zup_ne _ _ (by omega)]; exact kh178
  have kh193 : ks186.1 (b + 6) = .inl (1, 400, .inl (fun _ => 0)) := by rw [e_ks186, zup_ne _ _ (by omega)]; exact kh179
  have kh194 : ks186.1 (b + 7) = .inl (0, 1300, .inl (fun _ => 0)) := by rw [e_ks186, zup_ne _ _ (by omega)]; exact kh180
  have kh195 : ks186.1 (b + 8) = .inl (0, 1300, .inl (fun _ => 0)) := by rw [e_ks186, zup_ne _ _ (by omega)]; exact kh181
  have kh196 : ks186.1 (b + 9) = .inl (3, 10, .inr (.inl (z64 (fun _ => 0)))) := by rw [e_ks186, zup_ne _ _ (by omega)]; exact kh182
  have kh197 : ks186.1 (b + 10) = .inl (3, 10, .inr (.inl (z64 (fun _ => 0)))) := by rw [e_ks186, zup_ne _ _ (by omega)]; exact kh183
  have kH198 : ks186.2 = some (b + 11) := by rw [e_ks186]; exact kH184
  have kB199 : ∀ q, q < b → ks186.1 q = σ.1 q := fun q hq => by rw [e_ks186]; exact (zup_ne _ _ (by omega)).trans (kB185 q hq)
  refine zr_aload_n dX10_init_93 rfl ?_
  refine zr_bipush (v := 93) dX10_init_94 (by decide) ?_
  refine zr_newarray (t := 0) (N := 93) (x := (93, .inl (fun _ => 0))) dX10_init_96 ac_int rfl rfl (fun C q => by cases q) (fun _ => rfl) (by decide) (by decide) (by decide) kH198 (by omega) (by omega) ?_
  refine zr_sig (fun ks200 e_ks200 => ?_)
  have kh201 : ks200.1 b = .inr (8, [.ref ((b + 1)), .ref ((b + 2)), .ref ((b + 3)), .ref ((b + 4)), .int 0, .int 0, .int 0, .int 0, .int 0, .int 0, .int 0, .int 0, .ref ((b + 5)), .int 0, .int ((-1)), .ref ((b + 6)), .int 0, .ref ((b + 7)), .ref ((b + 8)), .int 0, .int 0, .int 0, .int 0, .ref ((b + 9)), .ref ((b + 10)), .int 0, .null, .int 0]) := by rw [e_ks200, zup_ne _ _ (by omega)]; exact kh187
  have kh202 : ks200.1 (b + 1) = .inl (0, 82, .inl (fun _ => 0)) := by rw [e_ks200, zup_ne _ _ (by omega)]; exact kh188
  have kh203 : ks200.1 (b + 2) = .inl (0, 656, .inl (fun _ => 0)) := by rw [e_ks200, zup_ne _ _ (by omega)]; exact kh189
  have kh204 : ks200.1 (b + 3) = .inl (0, 82, .inl (fun _ => 0)) := by rw [e_ks200, zup_ne _ _ (by omega)]; exact kh190
  have kh205 : ks200.1 (b + 4) = .inl (0, 82, .inl (fun _ => 0)) := by rw [e_ks200, zup_ne _ _ (by omega)]; exact kh191
  have kh206 : ks200.1 (b + 5) = .inl (0, 60, .inl (fun _ => 0)) := by rw [e_ks200, zup_ne _ _ (by omega)]; exact kh192
  have kh207 : ks200.1 (b + 6) = .inl (1, 400, .inl (fun _ => 0)) := by rw [e_ks200, zup_ne _ _ (by omega)]; exact kh193
  have kh208 : ks200.1 (b + 7) = .inl (0, 1300, .inl (fun _ => 0)) := by rw [e_ks200, zup_ne _ _ (by omega)]; exact kh194
  have kh209 : ks200.1 (b + 8) = .inl (0, 1300, .inl (fun _ => 0)) := by rw [e_ks200, zup_ne _ _ (by omega)]; exact kh195
  have kh210 : ks200.1 (b + 9) = .inl (3, 10, .inr (.inl (z64 (fun _ => 0)))) := by rw [e_ks200, zup_ne _ _ (by omega)]; exact kh196
  have kh211 : ks200.1 (b + 10) = .inl (3, 10, .inr (.inl (z64 (fun _ => 0)))) := by rw [e_ks200, zup_ne _ _ (by omega)]; exact kh197
  have kh212 : ks200.1 (b + 11) = .inl (0, 93, .inl (fun _ => 0)) := by rw [e_ks200]; exact zup_at _ _ _
  have kH213 : ks200.2 = some (b + 12) := by rw [e_ks200]; rfl
  have kB214 : ∀ q, q < b → ks200.1 q = σ.1 q := fun q hq => by rw [e_ks200]; exact (zup_ne _ _ (by omega)).trans (kB199 q hq)
  refine zr_putfinal (fs' := [.ref ((b + 1)), .ref ((b + 2)), .ref ((b + 3)), .ref ((b + 4)), .int 0, .int 0, .int 0, .int 0, .int 0, .int 0, .int 0, .int 0, .ref ((b + 5)), .int 0, .int ((-1)), .ref ((b + 6)), .int 0, .ref ((b + 7)), .ref ((b + 8)), .int 0, .int 0, .int 0, .int 0, .ref ((b + 9)), .ref ((b + 10)), .int 0, .ref ((b + 11)), .int 0]) dX10_init_98 rfl pX10_46 kh201 (by decide) rfl rfl (Nat.le_of_ble_eq_true rfl) rfl ?_
  refine zr_sig (fun ks215 e_ks215 => ?_)
  have kh216 : ks215.1 b = .inr (8, [.ref ((b + 1)), .ref ((b + 2)), .ref ((b + 3)), .ref ((b + 4)), .int 0, .int 0, .int 0, .int 0, .int 0, .int 0, .int 0, .int 0, .ref ((b + 5)), .int 0, .int ((-1)), .ref ((b + 6)), .int 0, .ref ((b + 7)), .ref ((b + 8)), .int 0, .int 0, .int 0, .int 0, .ref ((b + 9)), .ref ((b + 10)), .int 0, .ref ((b + 11)), .int 0]) := by rw [e_ks215]; exact zup_at _ _ _
  have kh217 : ks215.1 (b + 1) = .inl (0, 82, .inl (fun _ => 0)) := by rw [e_ks215, zup_ne _ _ (by omega)]; exact kh202
  have kh218 : ks215.1 (b + 2) = .inl (0, 656, .inl (fun _ => 0)) := by rw [e_ks215, zup_ne _ _ (by omega)]; exact kh203
  have kh219 : ks215.1 (b + 3) = .inl (0, 82, .inl (fun _ => 0)) := by rw [e_ks215, zup_ne _ _ (by omega)]; exact kh204
  have kh220 : ks215.1 (b + 4) = .inl (0, 82, .inl (fun _ => 0)) := by rw [e_ks215, zup_ne _ _ (by omega)]; exact kh205
  have kh221 : ks215.1 (b + 5) = .inl (0, 60, .inl (fun _ => 0)) := by rw [e_ks215, zup_ne _ _ (by omega)]; exact kh206
  have kh222 : ks215.1 (b + 6) = .inl (1, 400, .inl (fun _ => 0)) := by rw [e_ks215, zup_ne _ _ (by omega)]; exact kh207
  have kh223 : ks215.1 (b + 7) = .inl (0, 1300, .inl (fun _ => 0)) := by rw [e_ks215, zup_ne _ _ (by omega)]; exact kh208
  have kh224 : ks215.1 (b + 8) = .inl (0, 1300, .inl (fun _ => 0)) := by rw [e_ks215, zup_ne _ _ (by omega)]; exact kh209
  have kh225 : ks215.1 (b + 9) = .inl (3, 10, .inr (.inl (z64 (fun _ => 0)))) := by rw [e_ks215, zup_ne _ _ (by omega)]; exact kh210
  have kh226 : ks215.1 (b + 10) = .inl (3, 10, .inr (.inl (z64 (fun _ => 0)))) := by rw [e_ks215, zup_ne _ _ (by omega)]; exact kh211
  have kh227 : ks215.1 (b + 11) = .inl (0, 93, .inl (fun _ => 0)) := by rw [e_ks215, zup_ne _ _ (by omega)]; exact kh212
  have kH228 : ks215.2 = some (b + 12) := by rw [e_ks215]; exact kH213
  have kB229 : ∀ q, q < b → ks215.1 q = σ.1 q := fun q hq => by rw [e_ks215]; exact (zup_ne _ _ (by omega)).trans (kB214 q hq)
  exact zr_return dX10_init_101 rfl (⟨rfl, ⟨kH228, kB229⟩, fun U T ln => ⟨fun k => if k = 14 then -1 else 0, _, _, _, _, _, _, _, kh216, ⟨rfl, rfl, rfl, rfl, rfl, rfl, rfl, rfl, rfl, rfl, rfl, rfl⟩, kh217, kh218, kh219, kh220, kh221, kh222, kh227, ⟨[], _, kh223, rfl⟩, ⟨_, kh224⟩, ⟨_, kh225⟩, ⟨_, kh226⟩, ⟨rfl, rfl, fun i hi => absurd hi (Nat.not_lt_zero i), fun i hi => absurd hi (Nat.not_lt_zero i)⟩, ⟨rfl, rfl, fun i hi => absurd hi (Nat.not_lt_zero i), fun i hi => absurd hi (Nat.not_lt_zero i)⟩, ⟨rfl, rfl, fun i hi => absurd hi (Nat.not_lt_zero i), fun i hi => absurd hi (Nat.not_lt_zero i)⟩, Nat.zero_le _, fun i hi => absurd hi (Nat.not_lt_zero i), Nat.zero_le _, fun i hi => absurd hi (Nat.not_lt_zero i), Nat.zero_le _, fun i hi => absurd hi (Nat.not_lt_zero i)⟩⟩)

