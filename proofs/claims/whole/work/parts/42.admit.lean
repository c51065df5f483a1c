theorem qX4_keep {X : zX} (hX : X.1.stackTraces = false) {σ : zS} {b m c : Nat} {S : Nat → zDk} {O : zDk} (hh : zHi b m S σ) (ho : zDA c O σ) (hO : zDw O) (hd : c + 22 ≤ b ∨ b + 178 ≤ c) : zMet X mX4_keep yX4_keep 4 0 0 [.ref b, .ref c] σ (zV (fun s => zFr σ s (fun q => b ≤ q ∧ q < b + 178) ∧ zHi b (min (m + 1) 8) (zPu O S) s)) := by
  have h8 : m ≤ 8 := by obtain ⟨nx, K, kr, h1, h2, -⟩ := hh; exact h2
  by_cases h : m < 8
  · rw [Nat.min_eq_left (by omega)]; exact qX4_keepA hX hh ho hO hd h
  · have e : m = 8 := by omega
    subst e
    exact qX4_keepB hX hh ho hO hd rfl
theorem zOb_val {A : zDk} {c k : Nat} (h : c = 0 ∨ k < kC A) : zOb A c k = 0 ∨ zOb A c k = 1 ∨ zOb A c k = 2 ∨ zOb A c k = 3 ∨ zOb A c k = 4 ∨ zOb A c k = 5 ∨ zOb A c k = 6 := by
  unfold zOb
  by_cases c0 : c = 0
  · rw [if_pos c0]; split
    · exact Or.inl rfl
    · exact Or.inr (Or.inl rfl)
  · rw [if_neg c0, if_neg (Classical.not_not.mpr (h.resolve_left c0))]
    unfold zOA zOR
    (repeat' split) <;> simp
theorem qX5_detailOf {X : zX} (hX : X.1.stackTraces = false) {σ : zS} {x c k : Nat} {A : zDk} {o_ : Int32} (hj : σ.1 (x + 1) = .inr (3, [.ref (x + 2), .ref (x + 24), .ref (x + 27), .ref (x + 29)])) (h : zDA (x + 2) A σ) (hA : zDw A) (hQ : ∀ i j : Nat, i < 7 → j < 7 → zQ X i = zQ X j → i = j) (hc7 : c < 7) (hk : k < 8) (ho : o_ = 1 ∨ o_ = 2 ∨ o_ = 3 ∨ o_ = 4 ∨ o_ = 5 ∨ o_ = 6) : zMet X mX5_detailOf yX5_detailOf 0 0 0 [.ref (x + 1), .int o_, .ref (zQ X c), .int (nI k)] σ (zI (fun y_ s_ => y_ = zDt A c k o_ ∧ s_ = σ)) := by
  rcases ho with rfl | rfl | rfl | rfl | rfl | rfl
  · exact qX5_detailOf1 hX hj h hA hQ hc7
  · exact qX5_detailOf2 hX hj h hA hQ hc7 hk
  · exact qX5_detailOf3 hX hj h hA hQ hc7
  · exact qX5_detailOf4 hX hj h hA hQ hc7
  · exact qX5_detailOf5 hX hj h hA hQ hc7 hk
  · exact qX5_detailOf6 hX hj h hA hQ hc7 hk
theorem zup_zup (σ : zS) (a : Nat) (e e' : zE) : zup (zup σ a e) a e' = zup σ a e' := by
  unfold zup
  refine Prod.ext (funext fun q => ?_) rfl
  dsimp only
  split <;> rfl
set_option maxHeartbeats 400000 in
set_option maxRecDepth 100000 in
theorem qX9_keepDenial {X : zX} (hX : X.1.stackTraces = false) {σ : zS} {x : Nat} {v0 v1 v2 v3 v4 v5 v6 v7 v8 v9 va vb vc vd ve : Value} {a b c : Int32} (h0 : σ.1 x = .inr (7, [v0, v1, v2, v3, v4, v5, v6, v7, v8, v9, va, vb, vc, vd, ve])) : zMet X mX9_keepDenial yX9_keepDenial 0 0 0 [.ref x, .int a, .int b, .int c] σ (zV (fun s => s = zup σ x (.inr (7, [v0, v1, v2, v3, v4, v5, v6, v7, v8, v9, va, vb, .int a, .int b, .int c])))) := by
  refine zMet_of (ls := [some (.ref x), some (.int a), some (.int b), some (.int c)]) rfl (by decide +kernel) rfl (fun h => by cases h) hX (Nat.le_of_ble_eq_true rfl) rfl ?_
  refine zr_aload_n dX9_keepDenial_0 rfl ?_
  refine zr_iload_n dX9_keepDenial_1 rfl ?_
  refine zr_putfield (fs' := [v0, v1, v2, v3, v4, v5, v6, v7, v8, v9, va, vb, .int a, vd, ve]) dX9_keepDenial_2 pX9_71 h0 (by decide) (rfl) (rfl) (Nat.le_of_ble_eq_true rfl) rfl ?_
  refine zr_sig (fun ks1 e_ks1 => ?_)
  have kh2 : ks1.1 x = .inr (7, [v0, v1, v2, v3, v4, v5, v6, v7, v8, v9, va, vb, .int a, vd, ve]) := by rw [e_ks1]; exact zup_at _ _ _
  refine zr_aload_n dX9_keepDenial_5 rfl ?_
  refine zr_iload_n dX9_keepDenial_6 rfl ?_
  refine zr_putfield (fs' := [v0, v1, v2, v3, v4, v5, v6, v7, v8, v9, va, vb, .int a, .int b, ve]) dX9_keepDenial_7 pX9_74 kh2 (by decide) (rfl) (rfl) (Nat.le_of_ble_eq_true rfl) rfl ?_
  refine zr_sig (fun ks3 e_ks3 => ?_)
  have kh4 : ks3.1 x = .inr (7, [v0, v1, v2, v3, v4, v5, v6, v7, v8, v9, va, vb, .int a, .int b, ve]) := by rw [e_ks3]; exact zup_at _ _ _
  refine zr_aload_n dX9_keepDenial_10 rfl ?_
  refine zr_iload_n dX9_keepDenial_11 rfl ?_
  refine zr_putfield (fs' := [v0, v1, v2, v3, v4, v5, v6, v7, v8, v9, va, vb, .int a, .int b, .int c]) dX9_keepDenial_12 pX9_77 kh4 (by decide) (rfl) (rfl) (Nat.le_of_ble_eq_true rfl) rfl ?_
  refine zr_sig (fun ks5 e_ks5 => ?_)
  have kh6 : ks5.1 x = .inr (7, [v0, v1, v2, v3, v4, v5, v6, v7, v8, v9, va, vb, .int a, .int b, .int c]) := by rw [e_ks5]; exact zup_at _ _ _
  exact zr_return dX9_keepDenial_15 rfl (⟨rfl, by rw [e_ks5, e_ks3, e_ks1]; simp only [zup_zup]⟩)

set_option maxHeartbeats 400000 in
set_option maxRecDepth 100000 in
theorem qX9_admit {X : zX} (hX : X.1.stackTraces = false) {σ : zS} {x : Nat} {A S : zDk} {m : Nat} {U : Nat → zDk} {n : Nat} {T : Nat → Int32} {ll : Nat} {ln : Nat → Int32} {hs kf ld dt dc : Int32} {c k : Nat} (hC : zKt x A S m U n T ll ln hs kf ld dt dc σ) (hA : zDw A) (hQ : ∀ i j : Nat, i < 7 → j < 7 → zQ X i = zQ X j → i = j) (hc : c < 7) (hk : k < 8) (hob : zOb A c k = 0) : zMet X mX9_admit yX9_admit 6 0 0 [.ref x, .ref ((zQ X c)), .int (nI k)] σ (zV (fun s => zFr σ s (zXr x) ∧ zKt x A S (min (m + 1) 8) (zPu A U) n T ll ln hs kf ld dt dc s)) := by
  refine zMet_of (ls := [some (.ref x), some (.ref ((zQ X c))), some (.int (nI k)), none]) rfl (by decide +kernel) rfl (fun h => by cases h) hX (Nat.le_of_ble_eq_true rfl) rfl ?_
  obtain ⟨K, lf, xo, xA, xK, wK, xS, xH, xJ, xT, xL, lL⟩ := id hC
  obtain ⟨hj, jr, jk, jc, jo⟩ := id xJ
  obtain ⟨hC8, hP8, hW⟩ := id hA
  refine zr_aload_n dX9_admit_0 rfl ?_
  refine zr_getfield dX9_admit_1 fX9_12 xo rfl (by decide) ?_
  refine zr_aload_n dX9_admit_4 rfl ?_
  refine zr_iload_n dX9_admit_5 rfl ?_
  have kJ1 : zJd x σ := ⟨hj, jr, jk, jc, jo⟩
  refine zr_callVi [] dX9_admit_6 vX9_320 (qX5_objectionTo hX (c := c) (k := k) kJ1 xA hA hQ (by omega) (by omega)) (zJd.obj kJ1) (by decide) (by decide) (by decide) rfl rfl (Nat.le_of_ble_eq_true rfl) (by decide) rfl (fun kr2 s_kr2 h_kr2 => ?_)
  obtain ⟨e_kr2, F_kr2, r0_kr2⟩ := h_kr2
  have kh3 : s_kr2.1 x = .inr (7, [.ref ((x + 1)), .ref ((x + 2)), .ref ((x + 24)), .ref ((x + 31)), .ref ((x + 53)), .ref ((x + 75)), .ref ((x + 253)), .ref ((x + 255)), .ref ((x + 260)), .int (nI ll), .int hs, .int kf, .int ld, .int dt, .int dc]) := zFr.get F_kr2 (by unfold zJf; omega) xo
  have kh4 : s_kr2.1 (x + 260) = .inl (1, 400, .inl lf) := zFr.get F_kr2 (by unfold zJf; omega) xL
  have kR5 : zDA (x + 2) A s_kr2 := zDA.fr xA F_kr2 (by intro q h1 h2 h3; (try simp only [zIn, zJf] at h3); omega)
  have kR6 : zDA (x + 31) K s_kr2 := zDA.fr xK F_kr2 (by intro q h1 h2 h3; (try simp only [zIn, zJf] at h3); omega)
  have kR7 : zDA (x + 53) S s_kr2 := zDA.fr xS F_kr2 (by intro q h1 h2 h3; (try simp only [zIn, zJf] at h3); omega)
  have kR8 : zHi (x + 75) m U s_kr2 := zHi.fr xH F_kr2 (by intro q h1 h2 h3; (try simp only [zIn, zJf] at h3); omega)
  have kR9 : zSk (x + 255) n T s_kr2 := zSk.fr xT F_kr2 (by intro q h1 h2 h3; (try simp only [zIn, zJf] at h3); omega)
  have kF10 := zFr.tr zFr.rf (P := zXr x) F_kr2 (by intro q hq; (try simp only [zIn, zJf, zXr] at hq); unfold zXr; omega)
  obtain rfl := e_kr2.symm
  obtain ⟨hj11, jr11, jk11, jc11, jo11⟩ := id r0_kr2
  refine zr_istore_n (ls' := [some (.ref x), some (.ref ((zQ X c))), some (.int (nI k)), some (.int ((zOb A c k)))]) dX9_admit_9 rfl (by decide) rfl ?_
  refine zr_iload_n dX9_admit_10 rfl ?_
  refine zr_if_eq (tgt := 41) dX9_admit_11 (by decide) (fun c_11 => ?_) (fun c_11 => absurd (hob) c_11)
  refine zr_aload_n dX9_admit_41 rfl ?_
  refine zr_getfield dX9_admit_42 fX9_38 kh3 rfl (by decide) ?_
  refine zr_aload_n dX9_admit_45 rfl ?_
  refine zr_getfield dX9_admit_46 fX9_20 kh3 rfl (by decide) ?_
  refine zr_callVv [] dX9_admit_49 vX9_338 (qX4_keep hX kR8 kR5 hA (by omega)) (zHi.obj kR8).choose_spec (by decide) (by decide) (by decide) rfl rfl (Nat.le_of_ble_eq_true rfl) (by decide) rfl (fun s_kr12 h_kr12 => ?_)
  obtain ⟨F_kr12, r0_kr12⟩ := h_kr12
  have kh13 : s_kr12.1 x = .inr (7, [.ref ((x + 1)), .ref ((x + 2)), .ref ((x + 24)), .ref ((x + 31)), .ref ((x + 53)), .ref ((x + 75)), .ref ((x + 253)), .ref ((x + 255)), .ref ((x + 260)), .int (nI ll), .int hs, .int kf, .int ld, .int dt, .int dc]) := zFr.get F_kr12 (by (try simp only [zIn]); omega) kh3
  have kh14 : s_kr12.1 (x + 260) = .inl (1, 400, .inl lf) := zFr.get F_kr12 (by (try simp only [zIn]); omega) kh4
  have kh15 : s_kr12.1 (x + 1) = .inr (3, [.ref ((x + 2)), .ref ((x + 24)), .ref ((x + 27)), .ref ((x + 29))]) := zFr.get F_kr12 (by (try simp only [zIn]); omega) hj11
  have kR16 : zDA (x + 2) A s_kr12 := zDA.fr kR5 F_kr12 (by intro q h1 h2 h3; (try simp only [zIn, zJf] at h3); omega)
  have kR17 : zDA (x + 31) K s_kr12 := zDA.fr kR6 F_kr12 (by intro q h1 h2 h3; (try simp only [zIn, zJf] at h3); omega)
  have kR18 : zDA (x + 53) S s_kr12 := zDA.fr kR7 F_kr12 (by intro q h1 h2 h3; (try simp only [zIn, zJf] at h3); omega)
  have kR19 : zSk (x + 255) n T s_kr12 := zSk.fr kR9 F_kr12 (by intro q h1 h2 h3; (try simp only [zIn, zJf] at h3); omega)
  have kR20 : zRx (x + 24) s_kr12 := zRx.fr jr11 F_kr12 (by intro q h1 h2 h3; (try simp only [zIn, zJf] at h3); omega)
  have kR21 : zCu (x + 253) s_kr12 := zCu.fr jk11 F_kr12 (by intro q h1 h2 h3; (try simp only [zIn, zJf] at h3); omega)
  have kR22 : zCu (x + 27) s_kr12 := zCu.fr jc11 F_kr12 (by intro q h1 h2 h3; (try simp only [zIn, zJf] at h3); omega)
  have kR23 : zCu (x + 29) s_kr12 := zCu.fr jo11 F_kr12 (by intro q h1 h2 h3; (try simp only [zIn, zJf] at h3); omega)
  have kF24 := zFr.tr kF10 F_kr12 (by intro q hq; (try simp only [zIn, zJf, zXr] at hq); unfold zXr; omega)
  exact zr_return dX9_admit_52 rfl (⟨rfl, kF24, ⟨_, _, kh13, kR16, kR17, wK, kR18, r0_kr12, ⟨kh15, kR20, kR21, kR22, kR23⟩, kR19, kh14, lL⟩⟩)

set_option maxHeartbeats 400000 in
set_option maxRecDepth 100000 in
theorem qX9_admitX {X : zX} (hX : X.1.stackTraces = false) {σ : zS} {x : Nat} {A S : zDk} {m : Nat} {U : Nat → zDk} {n : Nat} {T : Nat → Int32} {ll : Nat} {ln : Nat → Int32} {hs kf ld dt dc : Int32} {c k : Nat} (hC : zKt x A S m U n T ll ln hs kf ld dt dc σ) (hA : zDw A) (hQ : ∀ i j : Nat, i < 7 → j < 7 → zQ X i = zQ X j → i = j) (hc : c < 7) (hk : k < 8) (hck : c = 0 ∨ k < kC A) (hno : ¬ zOb A c k = 0) (hN : σ.2 = none) : zMet X mX9_admit yX9_admit 6 1 6 [.ref x, .ref ((zQ X c)), .int (nI k)] σ (fun o s => o = .inr "java/lang/UnsupportedOperationException" ∧ zFr σ s (zXr x) ∧ zKt x A S m U n T ll ln hs kf (zOb A c k) (zDt A c k (zOb A c k)) 0 s) := by
  refine zMet_of (ls := [some (.ref x), some (.ref ((zQ X c))), some (.int (nI k)), none]) rfl (by decide +kernel) rfl (fun h => by cases h) hX (Nat.le_of_ble_eq_true rfl) rfl ?_
  obtain ⟨K, lf, xo, xA, xK, wK, xS, xH, xJ, xT, xL, lL⟩ := id hC
  obtain ⟨hj, jr, jk, jc, jo⟩ := id xJ
  obtain ⟨hC8, hP8, hW⟩ := id hA
  have hob := (zOb_val hck).resolve_left hno
  refine zr_aload_n dX9_admit_0 rfl ?_
  refine zr_getfield dX9_admit_1 fX9_12 xo rfl (by decide) ?_
  refine zr_aload_n dX9_admit_4 rfl ?_
  refine zr_iload_n dX9_admit_5 rfl ?_
  have kJ1 : zJd x σ := ⟨hj, jr, jk, jc, jo⟩
  refine zr_callVi [] dX9_admit_6 vX9_320 (qX5_objectionTo hX (c := c) (k := k) kJ1 xA hA hQ (by omega) (by omega)) (zJd.obj kJ1) (by decide) (by decide) (by decide) rfl rfl (Nat.le_of_ble_eq_true rfl) (by decide) rfl (fun kr2 s_kr2 h_kr2 => ?_)
  obtain ⟨e_kr2, F_kr2, r0_kr2⟩ := h_kr2
  have kh3 : s_kr2.1 x = .inr (7, [.ref ((x + 1)), .ref ((x + 2)), .ref ((x + 24)), .ref ((x + 31)), .ref ((x + 53)), .ref ((x + 75)), .ref ((x + 253)), .ref ((x + 255)), .ref ((x + 260)), .int (nI ll), .int hs, .int kf, .int ld, .int dt, .int dc]) := zFr.get F_kr2 (by unfold zJf; omega) xo
  have kh4 : s_kr2.1 (x + 260) = .inl (1, 400, .inl lf) := zFr.get F_kr2 (by unfold zJf; omega) xL
  have kR5 : zDA (x + 2) A s_kr2 := zDA.fr xA F_kr2 (by intro q h1 h2 h3; (try simp only [zIn, zJf] at h3); omega)
  have kR6 : zDA (x + 31) K s_kr2 := zDA.fr xK F_kr2 (by intro q h1 h2 h3; (try simp only [zIn, zJf] at h3); omega)
  have kR7 : zDA (x + 53) S s_kr2 := zDA.fr xS F_kr2 (by intro q h1 h2 h3; (try simp only [zIn, zJf] at h3); omega)
  have kR8 : zHi (x + 75) m U s_kr2 := zHi.fr xH F_kr2 (by intro q h1 h2 h3; (try simp only [zIn, zJf] at h3); omega)
  have kR9 : zSk (x + 255) n T s_kr2 := zSk.fr xT F_kr2 (by intro q h1 h2 h3; (try simp only [zIn, zJf] at h3); omega)
  have kF10 := zFr.tr zFr.rf (P := zXr x) F_kr2 (by intro q hq; (try simp only [zIn, zJf, zXr] at hq); unfold zXr; omega)
  obtain rfl := e_kr2.symm
  obtain ⟨hj11, jr11, jk11, jc11, jo11⟩ := id r0_kr2
  refine zr_istore_n (ls' := [some (.ref x), some (.ref ((zQ X c))), some (.int (nI k)), some (.int ((zOb A c k)))]) dX9_admit_9 rfl (by decide) rfl ?_
  refine zr_iload_n dX9_admit_10 rfl ?_
  refine zr_if_eq (tgt := 41) dX9_admit_11 (by decide) (fun c_11 => absurd c_11 (hno)) (fun c_11 => ?_)
  refine zr_aload_n dX9_admit_14 rfl ?_
  refine zr_iload_n dX9_admit_15 rfl ?_
  refine zr_aload_n dX9_admit_16 rfl ?_
  refine zr_getfield dX9_admit_17 fX9_12 kh3 rfl (by decide) ?_
  refine zr_iload_n dX9_admit_20 rfl ?_
  refine zr_aload_n dX9_admit_21 rfl ?_
  refine zr_iload_n dX9_admit_22 rfl ?_
  refine zr_pVi [.int ((zOb A c k)), .ref x] dX9_admit_23 vX9_402 (qX5_detailOf hX (c := c) (k := k) hj11 kR5 hA hQ (by omega) (by omega) hob) hj11 (by decide) (by decide) (by decide) rfl rfl (Nat.le_of_ble_eq_true rfl) (by decide) rfl ?_
  refine zr_iconst (v := 0) dX9_admit_26 (by decide) ?_
  refine zr_callVv [] dX9_admit_27 vX9_324 (qX9_keepDenial hX (a := (zOb A c k)) (b := (zDt A c k (zOb A c k))) (c := 0) kh3) kh3 (by decide) (by decide) (by decide) rfl rfl (Nat.le_of_ble_eq_true rfl) (by decide) rfl (fun s_ h_ => ?_)
  rw [h_]
  refine zr_sig (fun ks12 e_ks12 => ?_)
  have kh13 : ks12.1 x = .inr (7, [.ref ((x + 1)), .ref ((x + 2)), .ref ((x + 24)), .ref ((x + 31)), .ref ((x + 53)), .ref ((x + 75)), .ref ((x + 253)), .ref ((x + 255)), .ref ((x + 260)), .int (nI ll), .int hs, .int kf, .int ((zOb A c k)), .int ((zDt A c k (zOb A c k))), .int 0]) := by rw [e_ks12]; exact zup_at _ _ _
  have kh14 : ks12.1 (x + 260) = .inl (1, 400, .inl lf) := by rw [e_ks12, zup_ne _ _ (by omega)]; exact kh4
  have kh15 : ks12.1 (x + 1) = .inr (3, [.ref ((x + 2)), .ref ((x + 24)), .ref ((x + 27)), .ref ((x + 29))]) := by rw [e_ks12, zup_ne _ _ (by omega)]; exact hj11
  have kF16 := zFr.put kF10 e_ks12 (by unfold zXr; omega)
  have kR17 : zDA (x + 2) A ks12 := zDA.fr kR5 (zFr.put (P := fun q => q = x) zFr.rf e_ks12 rfl) (by intro q h1 h2 h3; (try simp only [zIn, zJf] at h3); omega)
  have kR18 : zDA (x + 31) K ks12 := zDA.fr kR6 (zFr.put (P := fun q => q = x) zFr.rf e_ks12 rfl) (by intro q h1 h2 h3; (try simp only [zIn, zJf] at h3); omega)
  have kR19 : zDA (x + 53) S ks12 := zDA.fr kR7 (zFr.put (P := fun q => q = x) zFr.rf e_ks12 rfl) (by intro q h1 h2 h3; (try simp only [zIn, zJf] at h3); omega)
  have kR20 : zHi (x + 75) m U ks12 := zHi.fr kR8 (zFr.put (P := fun q => q = x) zFr.rf e_ks12 rfl) (by intro q h1 h2 h3; (try simp only [zIn, zJf] at h3); omega)
  have kR21 : zSk (x + 255) n T ks12 := zSk.fr kR9 (zFr.put (P := fun q => q = x) zFr.rf e_ks12 rfl) (by intro q h1 h2 h3; (try simp only [zIn, zJf] at h3); omega)
  have kR22 : zRx (x + 24) ks12 := zRx.fr jr11 (zFr.put (P := fun q => q = x) zFr.rf e_ks12 rfl) (by intro q h1 h2 h3; (try simp only [zIn, zJf] at h3); omega)
  have kR23 : zCu (x + 253) ks12 := zCu.fr jk11 (zFr.put (P := fun q => q = x) zFr.rf e_ks12 rfl) (by intro q h1 h2 h3; (try simp only [zIn, zJf] at h3); omega)
  have kR24 : zCu (x + 27) ks12 := zCu.fr jc11 (zFr.put (P := fun q => q = x) zFr.rf e_ks12 rfl) (by intro q h1 h2 h3; (try simp only [zIn, zJf] at h3); omega)
  have kR25 : zCu (x + 29) ks12 := zCu.fr jo11 (zFr.put (P := fun q => q = x) zFr.rf e_ks12 rfl) (by intro q h1 h2 h3; (try simp only [zIn, zJf] at h3); omega)
  exact zr_thrW dX9_admit_30 dX9_admit_33 dX9_admit_34 dX9_admit_37 dX9_admit_40 thX9_328_406 rfl (by decide) (by decide) (by decide) (by decide) (⟨rfl, by rw [zNN (kF16.1.trans hN)]; exact kF16, by rw [zNN (kF16.1.trans hN)]; exact ⟨_, _, kh13, kR17, kR18, wK, kR19, kR20, ⟨kh15, kR22, kR23, kR24, kR25⟩, kR21, kh14, lL⟩⟩)

