theorem zDA.obj {b : Nat} {A : zDk} {σ : zS} (h : zDA b A σ) : σ.1 b = .inr (1, [.ref (b + 1), .ref (b + 2), .ref (b + 3), .ref (b + 4), .ref (b + 5), .int (nI (kC A)), .int (nI (kP A))]) := by
  obtain ⟨wr, r, m, t, a, f, c0, -⟩ := h
  exact c0
/-- the dockets before the latest changes: m of them, the latest first -/
def zHi (b : Nat) (m : Nat) (S : Nat → zDk) (σ : zS) : Prop := ∃ (nx : Nat) (K : Nat → zDk) (kr : Nat → Option Nat), nx < 8 ∧ m ≤ 8 ∧ σ.1 b = .inr (2, [.ref (b + 1), .int (nI nx), .int (nI m)]) ∧ σ.1 (b + 1) = .inl (5, 8, .inr (.inr (.inr (.inr kr)))) ∧ (∀ j, j < 8 → kr j = some (b + 2 + 22 * j) ∧ zDA (b + 2 + 22 * j) (K j) σ ∧ zDw (K j)) ∧ ∀ t, t < m → K ((nx + 7 - t) % 8) = S t
theorem zHi.fr {b m : Nat} {S : Nat → zDk} {σ s : zS} {P : Nat → Prop} (h : zHi b m S σ) (F : zFr σ s P) (hp : ∀ q, b ≤ q → q < b + 178 → ¬ P q) : zHi b m S s := by
  obtain ⟨nx, K, kr, h1, h2, h3, h4, h5, h6⟩ := h
  exact ⟨nx, K, kr, h1, h2, F.get (hp _ (by omega) (by omega)) h3, F.get (hp _ (by omega) (by omega)) h4, fun j hj => ⟨(h5 j hj).1, (h5 j hj).2.1.fr F (fun q q1 q2 => hp q (by omega) (by omega)), (h5 j hj).2.2⟩, h6⟩
def zPu (O : zDk) (S : Nat → zDk) : Nat → zDk
  | 0 => O
  | t + 1 => S t
theorem zHi.obj {b m : Nat} {S : Nat → zDk} {σ : zS} (h : zHi b m S σ) : ∃ nx, σ.1 b = .inr (2, [.ref (b + 1), .int (nI nx), .int (nI m)]) := by
  obtain ⟨nx, K, kr, h1, h2, h3, -⟩ := h
  exact ⟨nx, h3⟩
def zuK (K : Nat → zDk) (k : Nat) (x : zDk) : Nat → zDk := fun j => if j = k then x else K j
theorem zuK_at (f : Nat → zDk) (k : Nat) (x : zDk) : zuK f k x k = x := by simp [zuK]
theorem zuK_ne (f : Nat → zDk) {k j : Nat} (x : zDk) (h : j ≠ k) : zuK f k x j = f j := by simp [zuK, h]
set_option maxHeartbeats 400000 in
set_option maxRecDepth 100000 in
theorem qX4_keepA {X : zX} (hX : X.1.stackTraces = false) {σ : zS} {b m c : Nat} {S : Nat → zDk} {O : zDk} (hh : zHi b m S σ) (ho : zDA c O σ) (hO : zDw O) (hd : c + 22 ≤ b ∨ b + 178 ≤ c) (hm8 : m < 8) : zMet X mX4_keep yX4_keep 4 0 0 [.ref b, .ref c] σ (zV (fun s => zFr σ s (fun q => b ≤ q ∧ q < b + 178) ∧ zHi b (m + 1) (zPu O S) s)) := by
  refine zMet_of (ls := [some (.ref b), some (.ref c)]) rfl (by decide +kernel) rfl (fun h => by cases h) hX (Nat.le_of_ble_eq_true rfl) rfl ?_
  obtain ⟨nx, K, kr, hnx, hm, c0, c1, hK, hS⟩ := hh
  have hk := (hK nx hnx).2.1
  refine zr_aload_n dX4_keep_0 rfl ?_
  refine zr_getfield dX4_keep_1 fX4_11 c0 rfl (by decide) ?_
  refine zr_aload_n dX4_keep_4 rfl ?_
  refine zr_getfield dX4_keep_5 fX4_17 c0 rfl (by decide) ?_
  refine zr_aaload5 (b := (b + 2 + 22 * nx)) dX4_keep_8 c1 (vp_in_nI (n := nx) (by omega) (by omega)) (by rw [nI_clamp (by omega)]; exact (hK nx hnx).1) ?_
  refine zr_aload_n dX4_keep_9 rfl ?_
  refine zr_callVv [] dX4_keep_10 vX4_25 (qX3_copyFrom hX hk ho hO (by omega)) (zDA.obj hk) (by decide) (by decide) (by decide) rfl rfl (Nat.le_of_ble_eq_true rfl) (by decide) rfl (fun s_kr1 h_kr1 => ?_)
  obtain ⟨F_kr1, r0_kr1⟩ := h_kr1
  have kh2 : s_kr1.1 b = .inr (2, [.ref ((b + 1)), .int (nI nx), .int (nI m)]) := zFr.get F_kr1 (by (try simp only [zIn]); omega) c0
  have kh3 : s_kr1.1 (b + 1) = .inl (5, 8, .inr (.inr (.inr (.inr kr)))) := zFr.get F_kr1 (by (try simp only [zIn]); omega) c1
  have kR4 : zDA c O s_kr1 := zDA.fr ho F_kr1 (by intro q h1 h2 h3; (try simp only [zIn] at h3); omega)
  have kF5 := zFr.tr zFr.rf (P := fun q => b ≤ q ∧ q < b + 178) F_kr1 (by intro q hq; (try simp only [zIn] at hq); omega)
  have kF6 := zFr.tr zFr.rf (P := fun q => (b + 2 + 22 * nx ≤ q ∧ q < b + 2 + 22 * nx + 22) ∨ q = b) F_kr1 (by intro q hq; (try simp only [zIn] at hq); omega)
  refine zr_aload_n dX4_keep_13 rfl ?_
  refine zr_aload_n dX4_keep_14 rfl ?_
  refine zr_getfield dX4_keep_15 fX4_17 kh2 rfl (by decide) ?_
  refine zr_iconst (v := 1) dX4_keep_18 (by decide) ?_
  refine zr_iadd dX4_keep_19 ?_
  refine zr_eqi (x' := nI (nx + 1)) (nI_add nx 1) ?_
  refine zr_bipush (v := 8) dX4_keep_20 (by decide) ?_
  refine zr_irem dX4_keep_22 (by decide) ?_
  refine zr_eqi (x' := nI ((nx + 1) % 8)) (pk_rem (a := (nx + 1)) (d := 8) (by omega) (by omega) (by omega)) ?_
  refine zr_putfield (fs' := [.ref ((b + 1)), .int (nI ((nx + 1) % 8)), .int (nI m)]) dX4_keep_23 pX4_17 kh2 (by decide) (rfl) (rfl) (Nat.le_of_ble_eq_true rfl) rfl ?_
  refine zr_sig (fun ks7 e_ks7 => ?_)
  have kh8 : ks7.1 b = .inr (2, [.ref ((b + 1)), .int (nI ((nx + 1) % 8)), .int (nI m)]) := by rw [e_ks7]; exact zup_at _ _ _
  have kh9 : ks7.1 (b + 1) = .inl (5, 8, .inr (.inr (.inr (.inr kr)))) := by rw [e_ks7, zup_ne _ _ (by omega)]; exact kh3
  have kF10 := zFr.put kF5 e_ks7 (by first | omega | (dsimp only [zIn]; omega) | (unfold zIn; omega) | simp)
  have kR11 : zDA c O ks7 := zDA.fr kR4 (zFr.put (P := fun q => q = b) zFr.rf e_ks7 rfl) (by intro q h1 h2 h3; (try simp only [zIn] at h3); omega)
  have kR12 : zDA (b + 2 + 22 * nx) O ks7 := zDA.fr r0_kr1 (zFr.put (P := fun q => q = b) zFr.rf e_ks7 rfl) (by intro q h1 h2 h3; (try simp only [zIn] at h3); omega)
  have kF13 := zFr.put kF6 e_ks7 (by omega)
  refine zr_aload_n dX4_keep_26 rfl ?_
  refine zr_getfield dX4_keep_27 fX4_21 kh8 rfl (by decide) ?_
  refine zr_bipush (v := 8) dX4_keep_30 (by decide) ?_
  refine zr_icmp_ge (tgt := 45) dX4_keep_32 (by decide) (fun c_32 => absurd c_32 (fun h => absurd ((nI_leI (a := 8) (b := m) (by omega) (by omega)).mp h) (by omega))) (fun c_32 => ?_)
  refine zr_aload_n dX4_keep_35 rfl ?_
  refine zr_dup dX4_keep_36 rfl ?_
  refine zr_getfield dX4_keep_37 fX4_21 kh8 rfl (by decide) ?_
  refine zr_iconst (v := 1) dX4_keep_40 (by decide) ?_
  refine zr_iadd dX4_keep_41 ?_
  refine zr_eqi (x' := nI (m + 1)) (nI_add m 1) ?_
  refine zr_putfield (fs' := [.ref ((b + 1)), .int (nI ((nx + 1) % 8)), .int (nI (m + 1))]) dX4_keep_42 pX4_21 kh8 (by decide) (rfl) (rfl) (Nat.le_of_ble_eq_true rfl) rfl ?_
  refine zr_sig (fun ks14 e_ks14 => ?_)
  have kh15 : ks14.1 b = .inr (2, [.ref ((b + 1)), .int (nI ((nx + 1) % 8)), .int (nI (m + 1))]) := by rw [e_ks14]; exact zup_at _ _ _
  have kh16 : ks14.1 (b + 1) = .inl (5, 8, .inr (.inr (.inr (.inr kr)))) := by rw [e_ks14, zup_ne _ _ (by omega)]; exact kh9
  have kF17 := zFr.put kF10 e_ks14 (by first | omega | (dsimp only [zIn]; omega) | (unfold zIn; omega) | simp)
  have kR18 : zDA c O ks14 := zDA.fr kR11 (zFr.put (P := fun q => q = b) zFr.rf e_ks14 rfl) (by intro q h1 h2 h3; (try simp only [zIn] at h3); omega)
  have kR19 : zDA (b + 2 + 22 * nx) O ks14 := zDA.fr kR12 (zFr.put (P := fun q => q = b) zFr.rf e_ks14 rfl) (by intro q h1 h2 h3; (try simp only [zIn] at h3); omega)
  have kF20 := zFr.put kF13 e_ks14 (by omega)
  refine zr_return dX4_keep_45 rfl ?_
  refine ⟨rfl, kF17, ((nx + 1) % 8), zuK K nx O, kr, by omega, by omega, kh15, kh16, fun j hj => ?_, ?_⟩
  · by_cases e : j = nx
    · subst e; rw [zuK_at]; exact ⟨(hK j hj).1, kR19, hO⟩
    · rw [zuK_ne _ _ e]; exact ⟨(hK j hj).1, (hK j hj).2.1.fr kF20 (by intro q h1 h2 h3; omega), (hK j hj).2.2⟩
  · intro t ht
    cases t with
    | zero => rw [show (((nx + 1) % 8) + 7 - 0) % 8 = nx from by omega, zuK_at]; rfl
    | succ t => rw [show (((nx + 1) % 8) + 7 - (t + 1)) % 8 = (nx + 7 - t) % 8 from by omega, zuK_ne _ _ (by omega)]; exact hS t (by omega)

set_option maxHeartbeats 400000 in
set_option maxRecDepth 100000 in
theorem qX4_keepB {X : zX} (hX : X.1.stackTraces = false) {σ : zS} {b m c : Nat} {S : Nat → zDk} {O : zDk} (hh : zHi b m S σ) (ho : zDA c O σ) (hO : zDw O) (hd : c + 22 ≤ b ∨ b + 178 ≤ c) (hm8 : m = 8) : zMet X mX4_keep yX4_keep 4 0 0 [.ref b, .ref c] σ (zV (fun s => zFr σ s (fun q => b ≤ q ∧ q < b + 178) ∧ zHi b m (zPu O S) s)) := by
  refine zMet_of (ls := [some (.ref b), some (.ref c)]) rfl (by decide +kernel) rfl (fun h => by cases h) hX (Nat.le_of_ble_eq_true rfl) rfl ?_
  obtain ⟨nx, K, kr, hnx, hm, c0, c1, hK, hS⟩ := hh
  have hk := (hK nx hnx).2.1
  refine zr_aload_n dX4_keep_0 rfl ?_
  refine zr_getfield dX4_keep_1 fX4_11 c0 rfl (by decide) ?_
  refine zr_aload_n dX4_keep_4 rfl ?_
  refine zr_getfield dX4_keep_5 fX4_17 c0 rfl (by decide) ?_
  refine zr_aaload5 (b := (b + 2 + 22 * nx)) dX4_keep_8 c1 (vp_in_nI (n := nx) (by omega) (by omega)) (by rw [nI_clamp (by omega)]; exact (hK nx hnx).1) ?_
  refine zr_aload_n dX4_keep_9 rfl ?_
  refine zr_callVv [] dX4_keep_10 vX4_25 (qX3_copyFrom hX hk ho hO (by omega)) (zDA.obj hk) (by decide) (by decide) (by decide) rfl rfl (Nat.le_of_ble_eq_true rfl) (by decide) rfl (fun s_kr1 h_kr1 => ?_)
  obtain ⟨F_kr1, r0_kr1⟩ := h_kr1
  have kh2 : s_kr1.1 b = .inr (2, [.ref ((b + 1)), .int (nI nx), .int (nI m)]) := zFr.get F_kr1 (by (try simp only [zIn]); omega) c0
  have kh3 : s_kr1.1 (b + 1) = .inl (5, 8, .inr (.inr (.inr (.inr kr)))) := zFr.get F_kr1 (by (try simp only [zIn]); omega) c1
  have kR4 : zDA c O s_kr1 := zDA.fr ho F_kr1 (by intro q h1 h2 h3; (try simp only [zIn] at h3); omega)
  have kF5 := zFr.tr zFr.rf (P := fun q => b ≤ q ∧ q < b + 178) F_kr1 (by intro q hq; (try simp only [zIn] at hq); omega)
  have kF6 := zFr.tr zFr.rf (P := fun q => (b + 2 + 22 * nx ≤ q ∧ q < b + 2 + 22 * nx + 22) ∨ q = b) F_kr1 (by intro q hq; (try simp only [zIn] at hq); omega)
  refine zr_aload_n dX4_keep_13 rfl ?_
  refine zr_aload_n dX4_keep_14 rfl ?_
  refine zr_getfield dX4_keep_15 fX4_17 kh2 rfl (by decide) ?_
  refine zr_iconst (v := 1) dX4_keep_18 (by decide) ?_
  refine zr_iadd dX4_keep_19 ?_
  refine zr_eqi (x' := nI (nx + 1)) (nI_add nx 1) ?_
  refine zr_bipush (v := 8) dX4_keep_20 (by decide) ?_
  refine zr_irem dX4_keep_22 (by decide) ?_
  refine zr_eqi (x' := nI ((nx + 1) % 8)) (pk_rem (a := (nx + 1)) (d := 8) (by omega) (by omega) (by omega)) ?_
  refine zr_putfield (fs' := [.ref ((b + 1)), .int (nI ((nx + 1) % 8)), .int (nI m)]) dX4_keep_23 pX4_17 kh2 (by decide) (rfl) (rfl) (Nat.le_of_ble_eq_true rfl) rfl ?_
  refine zr_sig (fun ks7 e_ks7 => ?_)
  have kh8 : ks7.1 b = .inr (2, [.ref ((b + 1)), .int (nI ((nx + 1) % 8)), .int (nI m)]) := by rw [e_ks7]; exact zup_at _ _ _
  have kh9 : ks7.1 (b + 1) = .inl (5, 8, .inr (.inr (.inr (.inr kr)))) := by rw [e_ks7, zup_ne _ _ (by omega)]; exact kh3
  have kF10 := zFr.put kF5 e_ks7 (by first | omega | (dsimp only [zIn]; omega) | (unfold zIn; omega) | simp)
  have kR11 : zDA c O ks7 := zDA.fr kR4 (zFr.put (P := fun q => q = b) zFr.rf e_ks7 rfl) (by intro q h1 h2 h3; (try simp only [zIn] at h3); omega)
  have kR12 : zDA (b + 2 + 22 * nx) O ks7 := zDA.fr r0_kr1 (zFr.put (P := fun q => q = b) zFr.rf e_ks7 rfl) (by intro q h1 h2 h3; (try simp only [zIn] at h3); omega)
  have kF13 := zFr.put kF6 e_ks7 (by omega)
  refine zr_aload_n dX4_keep_26 rfl ?_
  refine zr_getfield dX4_keep_27 fX4_21 kh8 rfl (by decide) ?_
  refine zr_bipush (v := 8) dX4_keep_30 (by decide) ?_
  refine zr_icmp_ge (tgt := 45) dX4_keep_32 (by decide) (fun c_32 => ?_) (fun c_32 => absurd ((nI_leI (a := 8) (b := m) (by omega) (by omega)).mpr (by omega)) c_32)
  refine zr_return dX4_keep_45 rfl ?_
  refine ⟨rfl, kF10, ((nx + 1) % 8), zuK K nx O, kr, by omega, by omega, kh8, kh9, fun j hj => ?_, ?_⟩
  · by_cases e : j = nx
    · subst e; rw [zuK_at]; exact ⟨(hK j hj).1, kR12, hO⟩
    · rw [zuK_ne _ _ e]; exact ⟨(hK j hj).1, (hK j hj).2.1.fr kF13 (by intro q h1 h2 h3; omega), (hK j hj).2.2⟩
  · intro t ht
    cases t with
    | zero => rw [show (((nx + 1) % 8) + 7 - 0) % 8 = nx from by omega, zuK_at]; rfl
    | succ t => rw [show (((nx + 1) % 8) + 7 - (t + 1)) % 8 = (nx + 7 - t) % 8 from by omega, zuK_ne _ _ (by omega)]; exact hS t (by omega)

theorem zcast {b : Nat} {A O : zDk} {s : zS} (h : zDA b A s) (e : A = O) : zDA b O s := e ▸ h
set_option maxHeartbeats 400000 in
set_option maxRecDepth 100000 in
theorem qX4_takeBack {X : zX} (hX : X.1.stackTraces = false) {σ : zS} {b m c : Nat} {S : Nat → zDk} {A : zDk} (hh : zHi b m S σ) (ho : zDA c A σ) (hd : c + 22 ≤ b ∨ b + 178 ≤ c) (hm0 : 0 < m) : zMet X mX4_takeBack yX4_takeBack 4 0 0 [.ref b, .ref c] σ (zV (fun s => zFr σ s (fun q => q = b ∨ (c ≤ q ∧ q < c + 22)) ∧ zDA c (S 0) s ∧ zHi b (m - 1) (fun t => S (t + 1)) s)) := by
  refine zMet_of (ls := [some (.ref b), some (.ref c)]) rfl (by decide +kernel) rfl (fun h => by cases h) hX (Nat.le_of_ble_eq_true rfl) rfl ?_
  obtain ⟨nx, K, kr, hnx, hm, c0, c1, hK, hS⟩ := hh
  have hk := (hK ((nx + 8 - 1) % 8) (by omega)).2.1
  refine zr_aload_n dX4_takeBack_0 rfl ?_
  refine zr_getfield dX4_takeBack_1 fX4_21 c0 rfl (by decide) ?_
  refine zr_if_le (tgt := 46) dX4_takeBack_4 (by decide) (fun c_4 => absurd c_4 (fun h => absurd ((nI_leI (a := m) (b := 0) (by omega) (by omega)).mp h) (by omega))) (fun c_4 => ?_)
  refine zr_aload_n dX4_takeBack_7 rfl ?_
  refine zr_aload_n dX4_takeBack_8 rfl ?_
  refine zr_getfield dX4_takeBack_9 fX4_17 c0 rfl (by decide) ?_
  refine zr_bipush (v := 8) dX4_takeBack_12 (by decide) ?_
  refine zr_iadd dX4_takeBack_14 ?_
  refine zr_eqi (x' := nI (nx + 8)) (nI_add nx 8) ?_
  refine zr_iconst (v := 1) dX4_takeBack_15 (by decide) ?_
  refine zr_isub dX4_takeBack_16 ?_
  refine zr_eqi (x' := nI ((nx + 8) - 1)) (pk_sub (a := (nx + 8)) (b := 1) (by omega)) ?_
  refine zr_bipush (v := 8) dX4_takeBack_17 (by decide) ?_
  refine zr_irem dX4_takeBack_19 (by decide) ?_
  refine zr_eqi (x' := nI (((nx + 8) - 1) % 8)) (pk_rem (a := ((nx + 8) - 1)) (d := 8) (by omega) (by omega) (by omega)) ?_
  refine zr_putfield (fs' := [.ref ((b + 1)), .int (nI (((nx + 8) - 1) % 8)), .int (nI m)]) dX4_takeBack_20 pX4_17 c0 (by decide) (rfl) (rfl) (Nat.le_of_ble_eq_true rfl) rfl ?_
  refine zr_sig (fun ks1 e_ks1 => ?_)
  have kh2 : ks1.1 b = .inr (2, [.ref ((b + 1)), .int (nI (((nx + 8) - 1) % 8)), .int (nI m)]) := by rw [e_ks1]; exact zup_at _ _ _
  have kh3 : ks1.1 (b + 1) = .inl (5, 8, .inr (.inr (.inr (.inr kr)))) := by rw [e_ks1, zup_ne _ _ (by omega)]; exact c1
  have kF4 := zFr.put zFr.rf (P := fun q => q = b ∨ (c ≤ q ∧ q < c + 22)) e_ks1 (by first | omega | (dsimp only [zIn]; omega) | (unfold zIn; omega) | simp)
  have kR5 : zDA c A ks1 := zDA.fr ho (zFr.put (P := fun q => q = b) zFr.rf e_ks1 rfl) (by intro q h1 h2 h3; (try simp only [zIn] at h3); omega)
  have kR6 : zDA (b + 2 + 22 * ((nx + 8 - 1) % 8)) (K ((nx + 8 - 1) % 8)) ks1 := zDA.fr hk (zFr.put (P := fun q => q = b) zFr.rf e_ks1 rfl) (by intro q h1 h2 h3; (try simp only [zIn] at h3); omega)
  refine zr_aload_n dX4_takeBack_23 rfl ?_
  refine zr_aload_n dX4_takeBack_24 rfl ?_
  refine zr_getfield dX4_takeBack_25 fX4_11 kh2 rfl (by decide) ?_
  refine zr_aload_n dX4_takeBack_28 rfl ?_
  refine zr_getfield dX4_takeBack_29 fX4_17 kh2 rfl (by decide) ?_
  refine zr_aaload5 (b := (b + 2 + 22 * ((nx + 8 - 1) % 8))) dX4_takeBack_32 kh3 (vp_in_nI (n := ((nx + 8) - 1) % 8) (by omega) (by omega)) (by rw [nI_clamp (by omega)]; exact (hK _ (by omega)).1) ?_
  refine zr_callVv [] dX4_takeBack_33 vX4_25 (qX3_copyFrom hX kR5 kR6 (hK _ (by omega)).2.2 (by omega)) (zDA.obj kR5) (by decide) (by decide) (by decide) rfl rfl (Nat.le_of_ble_eq_true rfl) (by decide) rfl (fun s_kr7 h_kr7 => ?_)
  obtain ⟨F_kr7, r0_kr7⟩ := h_kr7
  have kh8 : s_kr7.1 b = .inr (2, [.ref ((b + 1)), .int (nI (((nx + 8) - 1) % 8)), .int (nI m)]) := zFr.get F_kr7 (by (try simp only [zIn]); omega) kh2
  have kh9 : s_kr7.1 (b + 1) = .inl (5, 8, .inr (.inr (.inr (.inr kr)))) := zFr.get F_kr7 (by (try simp only [zIn]); omega) kh3
  have kR10 : zDA (b + 2 + 22 * ((nx + 8 - 1) % 8)) (K ((nx + 8 - 1) % 8)) s_kr7 := zDA.fr kR6 F_kr7 (by intro q h1 h2 h3; (try simp only [zIn] at h3); omega)
  have kF11 := zFr.tr kF4 F_kr7 (by intro q hq; (try simp only [zIn] at hq); omega)
  refine zr_aload_n dX4_takeBack_36 rfl ?_
  refine zr_dup dX4_takeBack_37 rfl ?_
  refine zr_getfield dX4_takeBack_38 fX4_21 kh8 rfl (by decide) ?_
  refine zr_iconst (v := 1) dX4_takeBack_41 (by decide) ?_
  refine zr_isub dX4_takeBack_42 ?_
  refine zr_eqi (x' := nI (m - 1)) (pk_sub (a := m) (b := 1) (by omega)) ?_
  refine zr_putfield (fs' := [.ref ((b + 1)), .int (nI (((nx + 8) - 1) % 8)), .int (nI (m - 1))]) dX4_takeBack_43 pX4_21 kh8 (by decide) (rfl) (rfl) (Nat.le_of_ble_eq_true rfl) rfl ?_
  refine zr_sig (fun ks12 e_ks12 => ?_)
  have kh13 : ks12.1 b = .inr (2, [.ref ((b + 1)), .int (nI (((nx + 8) - 1) % 8)), .int (nI (m - 1))]) := by rw [e_ks12]; exact zup_at _ _ _
  have kh14 : ks12.1 (b + 1) = .inl (5, 8, .inr (.inr (.inr (.inr kr)))) := by rw [e_ks12, zup_ne _ _ (by omega)]; exact kh9
  have kF15 := zFr.put kF11 e_ks12 (by first | omega | (dsimp only [zIn]; omega) | (unfold zIn; omega) | simp)
  have kR16 : zDA c (K ((nx + 8 - 1) % 8)) ks12 := zDA.fr r0_kr7 (zFr.put (P := fun q => q = b) zFr.rf e_ks12 rfl) (by intro q h1 h2 h3; (try simp only [zIn] at h3); omega)
  have kR17 : zDA (b + 2 + 22 * ((nx + 8 - 1) % 8)) (K ((nx + 8 - 1) % 8)) ks12 := zDA.fr kR10 (zFr.put (P := fun q => q = b) zFr.rf e_ks12 rfl) (by intro q h1 h2 h3; (try simp only [zIn] at h3); omega)
  refine zr_return dX4_takeBack_46 rfl ?_
  refine ⟨rfl, kF15, zcast kR16 (hS 0 (by omega)), (nx + 8 - 1) % 8, K, kr, by omega, by omega, kh13, kh14, fun j hj => ⟨(hK j hj).1, (hK j hj).2.1.fr kF15 (by intro q h1 h2 h3; omega), (hK j hj).2.2⟩, fun t ht => ?_⟩
  rw [show ((nx + 8 - 1) % 8 + 7 - t) % 8 = (nx + 7 - (t + 1)) % 8 from by omega]; exact hS (t + 1) (by omega)

set_option maxHeartbeats 400000 in
set_option maxRecDepth 100000 in
theorem qX4_forget {X : zX} (hX : X.1.stackTraces = false) {σ : zS} {b m : Nat} {S : Nat → zDk} (hh : zHi b m S σ) : zMet X mX4_forget yX4_forget 0 0 0 [.ref b] σ (zV (fun s => zFr σ s (fun q => q = b) ∧ ∀ S1, zHi b 0 S1 s)) := by
  refine zMet_of (ls := [some (.ref b)]) rfl (by decide +kernel) rfl (fun h => by cases h) hX (Nat.le_of_ble_eq_true rfl) rfl ?_
  obtain ⟨nx, K, kr, hnx, hm, c0, c1, hK, hS⟩ := hh
  refine zr_aload_n dX4_forget_0 rfl ?_
  refine zr_iconst (v := 0) dX4_forget_1 (by decide) ?_
  refine zr_putfield (fs' := [.ref ((b + 1)), .int (nI nx), .int 0]) dX4_forget_2 pX4_21 c0 (by decide) (rfl) (rfl) (Nat.le_of_ble_eq_true rfl) rfl ?_
  refine zr_sig (fun ks1 e_ks1 => ?_)
  have kh2 : ks1.1 b = .inr (2, [.ref ((b + 1)), .int (nI nx), .int 0]) := by rw [e_ks1]; exact zup_at _ _ _
  have kh3 : ks1.1 (b + 1) = .inl (5, 8, .inr (.inr (.inr (.inr kr)))) := by rw [e_ks1, zup_ne _ _ (by omega)]; exact c1
  have kF4 := zFr.put zFr.rf (P := fun q => q = b) e_ks1 (by first | omega | simp)
  exact zr_return dX4_forget_5 rfl (⟨rfl, kF4, fun S1 => ⟨nx, K, kr, hnx, by omega, kh2, kh3, fun j hj => ⟨(hK j hj).1, (hK j hj).2.1.fr kF4 (by intro q h1 h2 h3; omega), (hK j hj).2.2⟩, fun t ht => by omega⟩⟩)

