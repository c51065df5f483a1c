/-! the law's start -/
def zK0 (b : Nat) (s : zS) : Prop := ∀ U T ln, zKt b zE0 zE0 0 U 0 T 0 ln 0 (-1) 0 0 0 s
theorem zK0.fr {b : Nat} {σ s : zS} {P : Nat → Prop} (h : zK0 b σ) (F : zFr σ s P) (hp : ∀ q, b ≤ q → q < b + 261 → ¬ P q) : zK0 b s := fun U T ln => (h U T ln).fr F hp
def zM0 (b : Nat) (s : zS) : Prop := ∀ U T ln, zMo b 0 0 0 0 zE0 zE0 zE0 0 U 0 T 0 ln 0 (-1) 0 0 0 s
theorem zM0.fr {b : Nat} {σ s : zS} {P : Nat → Prop} (h : zM0 b σ) (F : zFr σ s P) (hp : ∀ q, b ≤ q → q < b + 12 → ¬ P q) : zM0 b s := fun U T ln => (h U T ln).fr F hp
theorem zr_forget {X : zX} {M : zMd} {d bc bs : Nat} {Q : zO → zS → Prop} {pc : Nat} {ls : List (Option Value)} {st : List Value} {σ : zS} (kk : zW X M d bc bs Q pc ls st (σ.1, none)) : zW X M d bc bs Q pc ls st σ := by
  intro p e s m args below meth c R H locs cells slots r hM hR hc hs hS hP hL
  exact kk p e s m args below meth c R H locs cells slots r hM hR hc hs hS ⟨hP.1, hP.2.1, hP.2.2.1, fun h hh => by cases hh⟩ hL
theorem zLv0 (U : Nat → zDk) (T ln : Nat → Int32) : zLv (zE0, zE0, 0, U, 0, T, 0, ln, 0, -1, 0, 0, 0) := ⟨zE0_g, zE0_g, Nat.zero_le _, fun t ht => absurd ht (Nat.not_lt_zero t), Nat.zero_le _, Nat.zero_le _, fun k hk => absurd hk (Nat.not_lt_zero k), Or.inl rfl, fun _ => rfl⟩
set_option maxHeartbeats 400000 in
set_option maxRecDepth 100000 in
theorem law_body {X : zX} (hX : X.1.stackTraces = false) {σ : zS} {x k : Nat} (hQ : ∀ i j : Nat, i < 7 → j < 7 → zQ X i = zQ X j → i = j) (hs : zsL X ≤ 2048) (hk : zsL X < 4 * k + 4) (hh : σ.2 = some x) : zW X mL_law 12 (275 + k) (7578 + 6 * k) zQl 0 [some (.ref (zQ X 37)), none, none, none, none, none, none, none, none] [] σ := by
  have hB : ∀ q, q < x → σ.1 q = σ.1 q := fun q _ => rfl
  refine zr_new dL_law_0 nL_8 hh (by omega) (by omega) ?_
  refine zr_sig (fun ks1 e_ks1 => ?_)
  have kh2 : ks1.1 x = .inr (7, [.null, .null, .null, .null, .null, .null, .null, .null, .null, .int 0, .int 0, .int 0, .int 0, .int 0, .int 0]) := by rw [e_ks1]; exact zup_at _ _ _
  have kH3 : ks1.2 = some (x + 1) := by rw [e_ks1]; rfl
  have kB4 : ∀ q, q < x → ks1.1 q = σ.1 q := fun q hq => by rw [e_ks1]; exact (zup_ne _ _ (by omega)).trans (hB q hq)
  refine zr_dup dL_law_3 rfl ?_
  refine zr_callIv [.ref x] dL_law_4 vL_163 (qX9_init hX  kh2 kH3) (by decide) (by omega) (by omega) rfl rfl (Nat.le_of_ble_eq_true rfl) rfl (fun s_4 h_ => ?_)
  obtain ⟨⟨kH7, kB8⟩, kR6⟩ := h_
  have kH9 : s_4.2 = some (x + 261) := by rw [kH7]
  have kB10 : ∀ q, q < x → s_4.1 q = σ.1 q := fun q hq => (kB8 q (by omega)).trans (kB4 q hq)
  refine zr_astore_n (ls' := [some (.ref ((zQ X 37))), some (.ref x), none, none, none, none, none, none, none]) dL_law_7 rfl (by decide) rfl ?_
  refine zr_new dL_law_8 nL_164 kH9 (by omega) (by omega) ?_
  refine zr_sig (fun ks11 e_ks11 => ?_)
  have kh12 : ks11.1 (x + 261) = .inr (8, [.null, .null, .null, .null, .int 0, .int 0, .int 0, .int 0, .int 0, .int 0, .int 0, .int 0, .null, .int 0, .int 0, .null, .int 0, .null, .null, .int 0, .int 0, .int 0, .int 0, .null, .null, .int 0, .null, .int 0]) := by rw [e_ks11]; exact zup_at _ _ _
  have kR13 : zK0 x ks11 := zK0.fr (σ := (s_4.1, none)) (s := (ks11.1, none)) (P := fun q => q = x + 261) kR6 ⟨rfl, fun q hq => by show ks11.1 q = s_4.1 q; rw [e_ks11, zup_ne _ _ hq]⟩ (by intro q h1 h2 h3; omega)
  have kH14 : ks11.2 = some (x + 262) := by rw [e_ks11]; rfl
  have kB15 : ∀ q, q < x → ks11.1 q = σ.1 q := fun q hq => by rw [e_ks11]; exact (zup_ne _ _ (by omega)).trans (kB10 q hq)
  refine zr_dup dL_law_11 rfl ?_
  refine zr_callIv [.ref ((x + 261))] dL_law_12 vL_166 (qX10_init hX  kh12 kH14) (by decide) (by omega) (by omega) rfl rfl (Nat.le_of_ble_eq_true rfl) rfl (fun s_15 h_ => ?_)
  obtain ⟨⟨kH18, kB19⟩, kR17⟩ := h_
  have kR20 : zK0 x s_15 := zK0.fr (σ := (ks11.1, none)) (s := (s_15.1, none)) (P := fun q => x + 261 ≤ q) kR13 ⟨rfl, fun q hq => kB19 q (Nat.not_le.mp hq)⟩ (by intro q h1 h2 (h3 : x + 261 ≤ q); omega)
  have kH21 : s_15.2 = some (x + 273) := by rw [kH18]
  have kB22 : ∀ q, q < x → s_15.1 q = σ.1 q := fun q hq => (kB19 q (by omega)).trans (kB15 q hq)
  refine zr_astore_n (ls' := [some (.ref ((zQ X 37))), some (.ref x), some (.ref ((x + 261))), none, none, none, none, none, none]) dL_law_15 rfl (by decide) rfl ?_
  refine zr_iconst (v := 1) dL_law_16 (by decide) ?_
  refine zr_newarray (t := 3) (N := 1) (x := (1, .inr (.inl (z64 (fun _ => 0))))) dL_law_17 ac_long rfl rfl (fun C q => by cases q) (fun _ => rfl) (by decide) (by decide) (by decide) kH21 (by omega) (by omega) ?_
  refine zr_sig (fun ks23 e_ks23 => ?_)
  have kh24 : ks23.1 (x + 273) = .inl (3, 1, .inr (.inl (z64 (fun _ => 0)))) := by rw [e_ks23]; exact zup_at _ _ _
  have kR25 : zK0 x ks23 := zK0.fr (σ := (s_15.1, none)) (s := (ks23.1, none)) (P := fun q => q = x + 273) kR20 ⟨rfl, fun q hq => by show ks23.1 q = s_15.1 q; rw [e_ks23, zup_ne _ _ hq]⟩ (by intro q h1 h2 h3; omega)
  have kR26 : zM0 (x + 261) ks23 := zM0.fr (σ := (s_15.1, none)) (s := (ks23.1, none)) (P := fun q => q = x + 273) kR17 ⟨rfl, fun q hq => by show ks23.1 q = s_15.1 q; rw [e_ks23, zup_ne _ _ hq]⟩ (by intro q h1 h2 h3; omega)
  have kH27 : ks23.2 = some (x + 274) := by rw [e_ks23]; rfl
  have kB28 : ∀ q, q < x → ks23.1 q = σ.1 q := fun q hq => by rw [e_ks23]; exact (zup_ne _ _ (by omega)).trans (kB22 q hq)
  refine zr_astore_n (ls' := [some (.ref ((zQ X 37))), some (.ref x), some (.ref ((x + 261))), some (.ref ((x + 273))), none, none, none, none, none]) dL_law_19 rfl (by decide) rfl ?_
  refine zr_iconst (v := 1) dL_law_20 (by decide) ?_
  refine zr_newarray (t := 4) (N := 1) (x := (1, .inr (.inr (.inr (.inl (fun _ => 0)))))) dL_law_21 ac_double rfl rfl (fun C q => by cases q) (fun _ => rfl) (by decide) (by decide) (by decide) kH27 (by omega) (by omega) ?_
  refine zr_sig (fun ks29 e_ks29 => ?_)
  have kh30 : ks29.1 (x + 273) = .inl (3, 1, .inr (.inl (z64 (fun _ => 0)))) := by rw [e_ks29, zup_ne _ _ (by omega)]; exact kh24
  have kh31 : ks29.1 (x + 274) = .inl (4, 1, .inr (.inr (.inr (.inl (fun _ => 0))))) := by rw [e_ks29]; exact zup_at _ _ _
  have kR32 : zK0 x ks29 := zK0.fr (σ := (ks23.1, none)) (s := (ks29.1, none)) (P := fun q => q = x + 274) kR25 ⟨rfl, fun q hq => by show ks29.1 q = ks23.1 q; rw [e_ks29, zup_ne _ _ hq]⟩ (by intro q h1 h2 h3; omega)
  have kR33 : zM0 (x + 261) ks29 := zM0.fr (σ := (ks23.1, none)) (s := (ks29.1, none)) (P := fun q => q = x + 274) kR26 ⟨rfl, fun q hq => by show ks29.1 q = ks23.1 q; rw [e_ks29, zup_ne _ _ hq]⟩ (by intro q h1 h2 h3; omega)
  have kH34 : ks29.2 = some (x + 275) := by rw [e_ks29]; rfl
  have kB35 : ∀ q, q < x → ks29.1 q = σ.1 q := fun q hq => by rw [e_ks29]; exact (zup_ne _ _ (by omega)).trans (kB28 q hq)
  refine zr_astore (ls' := [some (.ref ((zQ X 37))), some (.ref x), some (.ref ((x + 261))), some (.ref ((x + 273))), some (.ref ((x + 274))), none, none, none, none]) dL_law_23 (by decide) rfl ?_
  refine zr_iconst (v := 0) dL_law_25 (by decide) ?_
  refine zr_istore (ls' := [some (.ref ((zQ X 37))), some (.ref x), some (.ref ((x + 261))), some (.ref ((x + 273))), some (.ref ((x + 274))), some (.int 0), none, none, none]) dL_law_26 (by decide) rfl ?_
  refine zr_forget ?_
  exact zr_less (by omega) (by omega) (law_loop hX hQ hs k 0 _ _ _ _ _ _ (by omega) (Nat.zero_le _) ⟨0, (zE0, zE0, 0, fun _ => zE0, 0, fun _ => 0, 0, fun _ => 0, 0, -1, 0, 0, 0), kR32 (fun _ => zE0) (fun _ => 0) (fun _ => 0), ⟨0, 0, zE0, kR33 (fun _ => zE0) (fun _ => 0) (fun _ => 0)⟩, zLv0 _ _ _⟩ rfl kh30 kh31)
