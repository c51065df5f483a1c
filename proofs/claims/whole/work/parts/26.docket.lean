/-! a docket: the cases and the precedents -/
abbrev zDk : Type := Nat × Nat × (Nat → Int32) × (Nat → Int32) × (Nat → Int32) × (Nat → Int32) × (Nat → Nat) × (Nat → Nat → Int32)
abbrev kC (A : zDk) : Nat := A.1
abbrev kP (A : zDk) : Nat := A.2.1
abbrev kR (A : zDk) : Nat → Int32 := A.2.2.1
abbrev kM (A : zDk) : Nat → Int32 := A.2.2.2.1
abbrev kT (A : zDk) : Nat → Int32 := A.2.2.2.2.1
abbrev kA (A : zDk) : Nat → Int32 := A.2.2.2.2.2.1
abbrev kN (A : zDk) : Nat → Nat := A.2.2.2.2.2.2.1
abbrev kL (A : zDk) : Nat → Nat → Int32 := A.2.2.2.2.2.2.2
/-- a docket's cells at b -/
def zDA (b : Nat) (A : zDk) (σ : zS) : Prop := ∃ (wr : Nat → Option Nat) (r m t a : Nat → Int32) (f : Nat → Nat → Int32),
  σ.1 b = .inr (1, [.ref (b + 1), .ref (b + 2), .ref (b + 3), .ref (b + 4), .ref (b + 5), .int (nI (kC A)), .int (nI (kP A))]) ∧
  σ.1 (b + 1) = .inl (6, 8, .inr (.inr (.inr (.inr wr)))) ∧ σ.1 (b + 2) = .inl (0, 8, .inl r) ∧ σ.1 (b + 3) = .inl (0, 8, .inl m) ∧ σ.1 (b + 4) = .inl (2, 8, .inl t) ∧ σ.1 (b + 5) = .inl (2, 8, .inl a) ∧
  ∀ i, i < 8 → wr i = some (b + 6 + 2 * i) ∧ (r i = kR A i ∧ m i = kM A i ∧ t i = kT A i ∧ a i = kA A i) ∧ σ.1 (b + 6 + 2 * i) = .inr (6, [.ref (b + 6 + 2 * i + 1), .int (nI (kN A i))]) ∧ σ.1 (b + 6 + 2 * i + 1) = .inl (0, 16, .inl (f i)) ∧ ∀ k, k < kN A i → f i k = kL A i k
/-- the place of a docket -/
def zIn (b : Nat) (q : Nat) : Prop := b ≤ q ∧ q < b + 22
theorem zDA.fr {b : Nat} {A : zDk} {σ s : zS} {P : Nat → Prop} (h : zDA b A σ) (F : zFr σ s P) (hp : ∀ q, b ≤ q → q < b + 22 → ¬ P q) : zDA b A s := by
  obtain ⟨wr, r, m, t, a, f, c0, c1, c2, c3, c4, c5, cw⟩ := h
  refine ⟨wr, r, m, t, a, f, F.get (hp _ (by omega) (by omega)) c0, F.get (hp _ (by omega) (by omega)) c1, F.get (hp _ (by omega) (by omega)) c2, F.get (hp _ (by omega) (by omega)) c3, F.get (hp _ (by omega) (by omega)) c4, F.get (hp _ (by omega) (by omega)) c5, fun i hi => ?_⟩
  obtain ⟨g1, g2, g3, g4, g5⟩ := cw i hi
  exact ⟨g1, g2, F.get (hp _ (by omega) (by omega)) g3, F.get (hp _ (by omega) (by omega)) g4, g5⟩
/-- well formed -/
def zDw (A : zDk) : Prop := kC A ≤ 8 ∧ kP A ≤ 8 ∧ ∀ i, i < 8 → kN A i ≤ 16 ∧ (∀ k, k < kN A i → zLt (kL A i k)) ∧ (kR A i = -1 ∨ ∃ p, p < 8 ∧ kR A i = nI p) ∧ (kT A i = 0 ∨ kT A i = 1) ∧ (kA A i = 0 ∨ kA A i = 1) ∧ ∃ c, c < 8 ∧ kM A i = nI c
theorem zDw.let {A : zDk} (h : zDw A) {i : Nat} (hi : i < 8) : ∀ y ∈ zP (kL A i) (kN A i), zLt y := by
  intro y hy
  have key : ∀ n, n ≤ kN A i → y ∈ zP (kL A i) n → zLt y := by
    intro n
    induction n with
    | zero => intro _ q; cases q
    | succ n ih =>
      intro hn q
      rcases List.mem_append.mp q with q | q
      · exact ih (by omega) q
      · rw [List.mem_singleton.mp q]; exact (h.2.2 i hi).2.1 n (by omega)
  exact key _ (Nat.le_refl _) hy
def zvt (A : zDk) (i : Nat) : Int32 := if kR A i = -1 then 0 else if kT A (kR A i).toNatClampNeg = 0 then 0 else 1
/-- how many there are -/
def zCt (P : Nat → Bool) : Nat → Nat
  | 0 => 0
  | i + 1 => if P i = true then zCt P i + 1 else zCt P i
theorem zCt_le (P : Nat → Bool) : ∀ n, zCt P n ≤ n
  | 0 => Nat.le_refl 0
  | n + 1 => by have := zCt_le P n; simp only [zCt]; split <;> omega
def zLs (l : Nat → Nat) : Nat → Nat
  | 0 => 0
  | i + 1 => zLs l i + l i
theorem zLs_le {l : Nat → Nat} : ∀ {n : Nat}, (∀ i, i < n → l i ≤ 16) → zLs l n ≤ 16 * n
  | 0, _ => Nat.le_refl 0
  | n + 1, h => by have := zLs_le (n := n) (fun i hi => h i (by omega)); have := h n (by omega); simp only [zLs]; omega

set_option maxHeartbeats 400000 in
set_option maxRecDepth 100000 in
theorem qX3_hasCase {X : zX} (hX : X.1.stackTraces = false) {σ : zS} {b : Nat} {A : zDk} {x : Int32} (h : zDA b A σ) : zMet X mX3_hasCase yX3_hasCase 0 0 0 [.ref b, .int x] σ (zI (fun y_ s_ => y_ = (if ¬ x < 0 ∧ x < nI (kC A) then 1 else 0) ∧ s_ = σ)) := by
  refine zMet_of (ls := [some (.ref b), some (.int x)]) rfl (by decide +kernel) rfl (fun h => by cases h) hX (Nat.le_of_ble_eq_true rfl) rfl ?_
  obtain ⟨wr, r, m, t, a, f, c0, c1, c2, c3, c4, c5, cw⟩ := h
  refine zr_iload_n dX3_hasCase_0 rfl ?_
  refine zr_if_lt (tgt := 16) dX3_hasCase_1 (by decide) (fun c_1 => ?_) (fun c_1 => ?_)
  · refine zr_iconst (v := 0) dX3_hasCase_16 (by decide) ?_
    exact zr_ireturn dX3_hasCase_17 rfl (rfl) (⟨_, rfl, (if_neg (fun q => q.1 c_1)).symm, rfl⟩)
  · refine zr_iload_n dX3_hasCase_4 rfl ?_
    refine zr_aload_n dX3_hasCase_5 rfl ?_
    refine zr_getfield dX3_hasCase_6 fX3_31 c0 rfl (by decide) ?_
    refine zr_icmp_ge (tgt := 16) dX3_hasCase_9 (by decide) (fun c_9 => ?_) (fun c_9 => ?_)
    · refine zr_iconst (v := 0) dX3_hasCase_16 (by decide) ?_
      exact zr_ireturn dX3_hasCase_17 rfl (rfl) (⟨_, rfl, (if_neg (fun q => Int32.not_lt.mpr c_9 q.2)).symm, rfl⟩)
    · refine zr_iconst (v := 1) dX3_hasCase_12 (by decide) ?_
      refine zr_goto (tgt := 17) dX3_hasCase_13 (by decide) ?_
      exact zr_ireturn dX3_hasCase_17 rfl (rfl) (⟨_, rfl, (if_pos ⟨c_1, Int32.not_le.mp c_9⟩).symm, rfl⟩)

set_option maxHeartbeats 400000 in
set_option maxRecDepth 100000 in
theorem qX3_isFull {X : zX} (hX : X.1.stackTraces = false) {σ : zS} {b : Nat} {A : zDk} (h : zDA b A σ) (hA : zDw A) : zMet X mX3_isFull yX3_isFull 0 0 0 [.ref b] σ (zI (fun y_ s_ => y_ = (if kC A < 8 then 0 else 1) ∧ s_ = σ)) := by
  refine zMet_of (ls := [some (.ref b)]) rfl (by decide +kernel) rfl (fun h => by cases h) hX (Nat.le_of_ble_eq_true rfl) rfl ?_
  obtain ⟨wr, r, m, t, a, f, c0, c1, c2, c3, c4, c5, cw⟩ := h
  obtain ⟨hC, hP, hW⟩ := hA
  refine zr_aload_n dX3_isFull_0 rfl ?_
  refine zr_getfield dX3_isFull_1 fX3_31 c0 rfl (by decide) ?_
  refine zr_bipush (v := 8) dX3_isFull_4 (by decide) ?_
  refine zr_icmp_lt (tgt := 13) dX3_isFull_6 (by decide) (fun c_6 => ?_) (fun c_6 => ?_)
  · refine zr_iconst (v := 0) dX3_isFull_13 (by decide) ?_
    exact zr_ireturn dX3_isFull_14 rfl (rfl) (⟨_, rfl, by rw [show (8 : Int32) = nI 8 from rfl, nI_ltI (by omega) (by omega)] at c_6; simp [c_6], rfl⟩)
  · refine zr_iconst (v := 1) dX3_isFull_9 (by decide) ?_
    refine zr_goto (tgt := 14) dX3_isFull_10 (by decide) ?_
    exact zr_ireturn dX3_isFull_14 rfl (rfl) (⟨_, rfl, by rw [show (8 : Int32) = nI 8 from rfl, nI_ltI (by omega) (by omega)] at c_6; simp [c_6], rfl⟩)

set_option maxHeartbeats 400000 in
set_option maxRecDepth 100000 in
theorem qX3_hasVerdict {X : zX} (hX : X.1.stackTraces = false) {σ : zS} {b : Nat} {A : zDk} {i : Nat} (h : zDA b A σ) (hA : zDw A) (hi : i < 8) : zMet X mX3_hasVerdict yX3_hasVerdict 0 0 0 [.ref b, .int (nI i)] σ (zI (fun y_ s_ => y_ = (if kR A i = -1 then 0 else 1) ∧ s_ = σ)) := by
  refine zMet_of (ls := [some (.ref b), some (.int (nI i))]) rfl (by decide +kernel) rfl (fun h => by cases h) hX (Nat.le_of_ble_eq_true rfl) rfl ?_
  obtain ⟨wr, r, m, t, a, f, c0, c1, c2, c3, c4, c5, cw⟩ := h
  obtain ⟨hC, hP, hW⟩ := hA
  refine zr_aload_n dX3_hasVerdict_0 rfl ?_
  refine zr_getfield dX3_hasVerdict_1 fX3_17 c0 rfl (by decide) ?_
  refine zr_iload_n dX3_hasVerdict_4 rfl ?_
  refine zr_iaload dX3_hasVerdict_5 c2 (vp_in_nI (n := i) (by omega) (by omega)) ?_
  rw [nI_clamp (n := i) (by omega)]
  refine zr_iconst (v := -1) dX3_hasVerdict_6 (by decide) ?_
  refine zr_icmp_eq (tgt := 14) dX3_hasVerdict_7 (by decide) (fun c_7 => ?_) (fun c_7 => ?_)
  · refine zr_iconst (v := 0) dX3_hasVerdict_14 (by decide) ?_
    exact zr_ireturn dX3_hasVerdict_15 rfl (rfl) (⟨_, rfl, by rw [(cw i hi).2.1.1] at c_7; first | rw [if_pos c_7] | rw [if_neg c_7], rfl⟩)
  · refine zr_iconst (v := 1) dX3_hasVerdict_10 (by decide) ?_
    refine zr_goto (tgt := 15) dX3_hasVerdict_11 (by decide) ?_
    exact zr_ireturn dX3_hasVerdict_15 rfl (rfl) (⟨_, rfl, by rw [(cw i hi).2.1.1] at c_7; first | rw [if_pos c_7] | rw [if_neg c_7], rfl⟩)

theorem ite01 {p : Prop} [Decidable p] : (if p then (0 : Int32) else 1) = 0 ↔ p := by split <;> simp_all
theorem ite10 {p : Prop} [Decidable p] : (if p then (1 : Int32) else 0) = 0 ↔ ¬ p := by split <;> simp_all
set_option maxHeartbeats 400000 in
set_option maxRecDepth 100000 in
theorem qX3_hasVerdictTangled {X : zX} (hX : X.1.stackTraces = false) {σ : zS} {b : Nat} {A : zDk} {i : Nat} (h : zDA b A σ) (hA : zDw A) (hi : i < 8) : zMet X mX3_hasVerdictTangled yX3_hasVerdictTangled 1 0 0 [.ref b, .int (nI i)] σ (zI (fun y_ s_ => y_ = (zvt A i) ∧ s_ = σ)) := by
  refine zMet_of (ls := [some (.ref b), some (.int (nI i))]) rfl (by decide +kernel) rfl (fun h => by cases h) hX (Nat.le_of_ble_eq_true rfl) rfl ?_
  have h0 := h
  obtain ⟨wr, r, m, t, a, f, c0, c1, c2, c3, c4, c5, cw⟩ := h
  refine zr_aload_n dX3_hasVerdictTangled_0 rfl ?_
  refine zr_iload_n dX3_hasVerdictTangled_1 rfl ?_
  refine zr_pVi [] dX3_hasVerdictTangled_2 vX3_39 (qX3_hasVerdict hX (i := i) h0 hA (by omega)) c0 (by decide) (by decide) (by decide) rfl rfl (Nat.le_of_ble_eq_true rfl) (by decide) rfl ?_
  refine zr_if_eq (tgt := 26) dX3_hasVerdictTangled_5 (by decide) (fun c_5 => ?_) (fun c_5 => ?_)
  · refine zr_iconst (v := 0) dX3_hasVerdictTangled_26 (by decide) ?_
    exact zr_ireturn dX3_hasVerdictTangled_27 rfl (rfl) (⟨_, rfl, by unfold zvt; rw [if_pos (ite01.mp c_5)], rfl⟩)
  · have e5 := fun q => c_5 (ite01.mpr q)
    obtain ⟨p, hp, ep⟩ : ∃ p, p < 8 ∧ kR A i = nI p := ((hA.2.2 i hi).2.2.1).resolve_left e5
    have er : r i = nI p := (cw i hi).2.1.1.trans ep
    refine zr_aload_n dX3_hasVerdictTangled_8 rfl ?_
    refine zr_getfield dX3_hasVerdictTangled_9 fX3_24 c0 rfl (by decide) ?_
    refine zr_aload_n dX3_hasVerdictTangled_12 rfl ?_
    refine zr_getfield dX3_hasVerdictTangled_13 fX3_17 c0 rfl (by decide) ?_
    refine zr_iload_n dX3_hasVerdictTangled_16 rfl ?_
    refine zr_iaload dX3_hasVerdictTangled_17 c2 (vp_in_nI (n := i) (by omega) (by omega)) ?_
    rw [nI_clamp (n := i) (by omega)]
    refine zr_eqi (x' := nI p) (er) ?_
    refine zr_baload dX3_hasVerdictTangled_18 c4 (vp_in_nI (n := p) (by omega) (by omega)) ?_
    rw [nI_clamp (n := p) (by omega)]
    refine zr_if_eq (tgt := 26) dX3_hasVerdictTangled_19 (by decide) (fun c_19 => ?_) (fun c_19 => ?_)
    · refine zr_iconst (v := 0) dX3_hasVerdictTangled_26 (by decide) ?_
      exact zr_ireturn dX3_hasVerdictTangled_27 rfl (rfl) (⟨_, rfl, by unfold zvt; rw [if_neg e5, ep, nI_clamp (by omega), ← (cw p hp).2.1.2.2.1]; first | rw [if_pos c_19] | rw [if_neg c_19], rfl⟩)
    · refine zr_iconst (v := 1) dX3_hasVerdictTangled_22 (by decide) ?_
      refine zr_goto (tgt := 27) dX3_hasVerdictTangled_23 (by decide) ?_
      exact zr_ireturn dX3_hasVerdictTangled_27 rfl (rfl) (⟨_, rfl, by unfold zvt; rw [if_neg e5, ep, nI_clamp (by omega), ← (cw p hp).2.1.2.2.1]; first | rw [if_pos c_19] | rw [if_neg c_19], rfl⟩)

set_option maxHeartbeats 400000 in
set_option maxRecDepth 100000 in
theorem l_X3_countRestingOn {X : zX} (hX : X.1.stackTraces = false) {σ : zS} {b : Nat} {A : zDk} {p : Nat} (h : zDA b A σ) (hA : zDw A) : ∀ (j i : Nat) (y : Nat), i + j = (kC A) → (y = zCt (fun i => decide (kR A i = nI p)) i) → zW X mX3_countRestingOn 0 0 0 (zI (fun y_ s_ => y_ = nI (zCt (fun i => decide (kR A i = nI p)) (kC A)) ∧ s_ = σ)) 4 [some (.ref b), some (.int (nI p)), some (.int (nI y)), some (.int (nI i))] [] σ := by
  intro j
  induction j with
  | zero =>
    intro i y hi hy
    have h0 := h
    obtain ⟨wr, r, m, t, a, f, c0, c1, c2, c3, c4, c5, cw⟩ := h
    have hC := hA.1
    refine zr_iload_n dX3_countRestingOn_4 rfl ?_
    refine zr_aload_n dX3_countRestingOn_5 rfl ?_
    refine zr_getfield dX3_countRestingOn_6 fX3_31 c0 rfl (by decide) ?_
    refine zr_icmp_ge (tgt := 31) dX3_countRestingOn_9 (by decide) (fun c_9 => ?_) (fun c_9 => absurd ((nI_leI (a := kC A) (b := i) (by omega) (by omega)).mpr (by omega)) c_9)
    refine zr_iload_n dX3_countRestingOn_31 rfl ?_
    exact zr_ireturn dX3_countRestingOn_32 rfl (rfl) (⟨_, rfl, by rw [hy, show i = kC A from by omega], rfl⟩)
  | succ j ih =>
    intro i y hi hy
    have h0 := h
    obtain ⟨wr, r, m, t, a, f, c0, c1, c2, c3, c4, c5, cw⟩ := h
    have hC := hA.1
    refine zr_iload_n dX3_countRestingOn_4 rfl ?_
    refine zr_aload_n dX3_countRestingOn_5 rfl ?_
    refine zr_getfield dX3_countRestingOn_6 fX3_31 c0 rfl (by decide) ?_
    refine zr_icmp_ge (tgt := 31) dX3_countRestingOn_9 (by decide) (fun c_9 => absurd c_9 (fun h => absurd ((nI_leI (a := kC A) (b := i) (by omega) (by omega)).mp h) (by omega))) (fun c_9 => ?_)
    refine zr_aload_n dX3_countRestingOn_12 rfl ?_
    refine zr_getfield dX3_countRestingOn_13 fX3_17 c0 rfl (by decide) ?_
    refine zr_iload_n dX3_countRestingOn_16 rfl ?_
    refine zr_iaload dX3_countRestingOn_17 c2 (vp_in_nI (n := i) (by omega) (by omega)) ?_
    rw [nI_clamp (n := i) (by omega)]
    refine zr_iload_n dX3_countRestingOn_18 rfl ?_
    refine zr_icmp_ne (tgt := 25) dX3_countRestingOn_19 (by decide) (fun c_19 => ?_) (fun c_19 => ?_)
    · refine zr_iinc (v := nI (i + 1)) (ls' := [some (.ref b), some (.int (nI p)), some (.int (nI y)), some (.int (nI (i + 1)))]) dX3_countRestingOn_25 rfl (nI_1 _) (by decide) rfl ?_
      refine zr_goto (tgt := 4) dX3_countRestingOn_28 (by decide) ?_
      exact ih (i + 1) _ (by omega) (by rw [(cw i (by omega)).2.1.1] at c_19; simp only [zCt]; rw [if_neg (by simpa using c_19), hy])
    · refine zr_iinc (v := nI (y + 1)) (ls' := [some (.ref b), some (.int (nI p)), some (.int (nI (y + 1))), some (.int (nI i))]) dX3_countRestingOn_22 rfl (nI_1 _) (by decide) rfl ?_
      refine zr_iinc (v := nI (i + 1)) (ls' := [some (.ref b), some (.int (nI p)), some (.int (nI (y + 1))), some (.int (nI (i + 1)))]) dX3_countRestingOn_25 rfl (nI_1 _) (by decide) rfl ?_
      refine zr_goto (tgt := 4) dX3_countRestingOn_28 (by decide) ?_
      exact ih (i + 1) _ (by omega) (by rw [(cw i (by omega)).2.1.1] at c_19; simp only [zCt]; rw [if_pos (decide_eq_true c_19), hy])

set_option maxHeartbeats 400000 in
set_option maxRecDepth 100000 in
theorem qX3_countRestingOn {X : zX} (hX : X.1.stackTraces = false) {σ : zS} {b : Nat} {A : zDk} {p : Nat} (h : zDA b A σ) (hA : zDw A) : zMet X mX3_countRestingOn yX3_countRestingOn 0 0 0 [.ref b, .int (nI p)] σ (zI (fun y_ s_ => y_ = nI (zCt (fun i => decide (kR A i = nI p)) (kC A)) ∧ s_ = σ)) := by
  refine zMet_of (ls := [some (.ref b), some (.int (nI p)), none, none]) rfl (by decide +kernel) rfl (fun h => by cases h) hX (Nat.le_of_ble_eq_true rfl) rfl ?_
  refine zr_iconst (v := 0) dX3_countRestingOn_0 (by decide) ?_
  refine zr_istore_n (ls' := [some (.ref b), some (.int (nI p)), some (.int 0), none]) dX3_countRestingOn_1 rfl (by decide) rfl ?_
  refine zr_iconst (v := 0) dX3_countRestingOn_2 (by decide) ?_
  refine zr_istore_n (ls' := [some (.ref b), some (.int (nI p)), some (.int 0), some (.int 0)]) dX3_countRestingOn_3 rfl (by decide) rfl ?_
  exact l_X3_countRestingOn hX h hA (kC A) 0 0 (by omega) rfl

set_option maxHeartbeats 400000 in
set_option maxRecDepth 100000 in
theorem l_X3_countDecided {X : zX} (hX : X.1.stackTraces = false) {σ : zS} {b : Nat} {A : zDk} (h : zDA b A σ) (hA : zDw A) : ∀ (j i : Nat) (y : Nat), i + j = (kC A) → (y = zCt (fun i => decide (¬ kR A i = -1)) i) → zW X mX3_countDecided 1 0 0 (zI (fun y_ s_ => y_ = nI (zCt (fun i => decide (¬ kR A i = -1)) (kC A)) ∧ s_ = σ)) 4 [some (.ref b), some (.int (nI y)), some (.int (nI i))] [] σ := by
  intro j
  induction j with
  | zero =>
    intro i y hi hy
    have h0 := h
    obtain ⟨wr, r, m, t, a, f, c0, c1, c2, c3, c4, c5, cw⟩ := h
    have hC := hA.1
    refine zr_iload_n dX3_countDecided_4 rfl ?_
    refine zr_aload_n dX3_countDecided_5 rfl ?_
    refine zr_getfield dX3_countDecided_6 fX3_31 c0 rfl (by decide) ?_
    refine zr_icmp_ge (tgt := 29) dX3_countDecided_9 (by decide) (fun c_9 => ?_) (fun c_9 => absurd ((nI_leI (a := kC A) (b := i) (by omega) (by omega)).mpr (by omega)) c_9)
    refine zr_iload_n dX3_countDecided_29 rfl ?_
    exact zr_ireturn dX3_countDecided_30 rfl (rfl) (⟨_, rfl, by rw [hy, show i = kC A from by omega], rfl⟩)
  | succ j ih =>
    intro i y hi hy
    have h0 := h
    obtain ⟨wr, r, m, t, a, f, c0, c1, c2, c3, c4, c5, cw⟩ := h
    have hC := hA.1
    refine zr_iload_n dX3_countDecided_4 rfl ?_
    refine zr_aload_n dX3_countDecided_5 rfl ?_
    refine zr_getfield dX3_countDecided_6 fX3_31 c0 rfl (by decide) ?_
    refine zr_icmp_ge (tgt := 29) dX3_countDecided_9 (by decide) (fun c_9 => absurd c_9 (fun h => absurd ((nI_leI (a := kC A) (b := i) (by omega) (by omega)).mp h) (by omega))) (fun c_9 => ?_)
    refine zr_aload_n dX3_countDecided_12 rfl ?_
    refine zr_iload_n dX3_countDecided_13 rfl ?_
    refine zr_pVi [] dX3_countDecided_14 vX3_39 (qX3_hasVerdict hX (i := i) h0 hA (by omega)) c0 (by decide) (by decide) (by decide) rfl rfl (Nat.le_of_ble_eq_true rfl) (by decide) rfl ?_
    refine zr_if_eq (tgt := 23) dX3_countDecided_17 (by decide) (fun c_17 => ?_) (fun c_17 => ?_)
    · refine zr_iinc (v := nI (i + 1)) (ls' := [some (.ref b), some (.int (nI y)), some (.int (nI (i + 1)))]) dX3_countDecided_23 rfl (nI_1 _) (by decide) rfl ?_
      refine zr_goto (tgt := 4) dX3_countDecided_26 (by decide) ?_
      exact ih (i + 1) _ (by omega) (by simp only [zCt]; rw [if_neg (by simpa using ite01.mp c_17), hy])
    · refine zr_iinc (v := nI (y + 1)) (ls' := [some (.ref b), some (.int (nI (y + 1))), some (.int (nI i))]) dX3_countDecided_20 rfl (nI_1 _) (by decide) rfl ?_
      refine zr_iinc (v := nI (i + 1)) (ls' := [some (.ref b), some (.int (nI (y + 1))), some (.int (nI (i + 1)))]) dX3_countDecided_23 rfl (nI_1 _) (by decide) rfl ?_
      refine zr_goto (tgt := 4) dX3_countDecided_26 (by decide) ?_
      exact ih (i + 1) _ (by omega) (by simp only [zCt]; rw [if_pos (decide_eq_true (show ¬ kR A i = -1 from fun q => c_17 (ite01.mpr q))), hy])

set_option maxHeartbeats 400000 in
set_option maxRecDepth 100000 in
theorem qX3_countDecided {X : zX} (hX : X.1.stackTraces = false) {σ : zS} {b : Nat} {A : zDk} (h : zDA b A σ) (hA : zDw A) : zMet X mX3_countDecided yX3_countDecided 1 0 0 [.ref b] σ (zI (fun y_ s_ => y_ = nI (zCt (fun i => decide (¬ kR A i = -1)) (kC A)) ∧ s_ = σ)) := by
  refine zMet_of (ls := [some (.ref b), none, none]) rfl (by decide +kernel) rfl (fun h => by cases h) hX (Nat.le_of_ble_eq_true rfl) rfl ?_
  refine zr_iconst (v := 0) dX3_countDecided_0 (by decide) ?_
  refine zr_istore_n (ls' := [some (.ref b), some (.int 0), none]) dX3_countDecided_1 rfl (by decide) rfl ?_
  refine zr_iconst (v := 0) dX3_countDecided_2 (by decide) ?_
  refine zr_istore_n (ls' := [some (.ref b), some (.int 0), some (.int 0)]) dX3_countDecided_3 rfl (by decide) rfl ?_
  exact l_X3_countDecided hX h hA (kC A) 0 0 (by omega) rfl

set_option maxHeartbeats 400000 in
set_option maxRecDepth 100000 in
theorem l_X3_countTangled {X : zX} (hX : X.1.stackTraces = false) {σ : zS} {b : Nat} {A : zDk} (h : zDA b A σ) (hA : zDw A) : ∀ (j i : Nat) (y : Nat), i + j = (kC A) → (y = zCt (fun i => decide (¬ zvt A i = 0)) i) → zW X mX3_countTangled 2 0 0 (zI (fun y_ s_ => y_ = nI (zCt (fun i => decide (¬ zvt A i = 0)) (kC A)) ∧ s_ = σ)) 4 [some (.ref b), some (.int (nI y)), some (.int (nI i))] [] σ := by
  intro j
  induction j with
  | zero =>
    intro i y hi hy
    have h0 := h
    obtain ⟨wr, r, m, t, a, f, c0, c1, c2, c3, c4, c5, cw⟩ := h
    have hC := hA.1
    refine zr_iload_n dX3_countTangled_4 rfl ?_
    refine zr_aload_n dX3_countTangled_5 rfl ?_
    refine zr_getfield dX3_countTangled_6 fX3_31 c0 rfl (by decide) ?_
    refine zr_icmp_ge (tgt := 29) dX3_countTangled_9 (by decide) (fun c_9 => ?_) (fun c_9 => absurd ((nI_leI (a := kC A) (b := i) (by omega) (by omega)).mpr (by omega)) c_9)
    refine zr_iload_n dX3_countTangled_29 rfl ?_
    exact zr_ireturn dX3_countTangled_30 rfl (rfl) (⟨_, rfl, by rw [hy, show i = kC A from by omega], rfl⟩)
  | succ j ih =>
    intro i y hi hy
    have h0 := h
    obtain ⟨wr, r, m, t, a, f, c0, c1, c2, c3, c4, c5, cw⟩ := h
    have hC := hA.1
    refine zr_iload_n dX3_countTangled_4 rfl ?_
    refine zr_aload_n dX3_countTangled_5 rfl ?_
    refine zr_getfield dX3_countTangled_6 fX3_31 c0 rfl (by decide) ?_
    refine zr_icmp_ge (tgt := 29) dX3_countTangled_9 (by decide) (fun c_9 => absurd c_9 (fun h => absurd ((nI_leI (a := kC A) (b := i) (by omega) (by omega)).mp h) (by omega))) (fun c_9 => ?_)
    refine zr_aload_n dX3_countTangled_12 rfl ?_
    refine zr_iload_n dX3_countTangled_13 rfl ?_
    refine zr_pVi [] dX3_countTangled_14 vX3_50 (qX3_hasVerdictTangled hX (i := i) h0 hA (by omega)) c0 (by decide) (by decide) (by decide) rfl rfl (Nat.le_of_ble_eq_true rfl) (by decide) rfl ?_
    refine zr_if_eq (tgt := 23) dX3_countTangled_17 (by decide) (fun c_17 => ?_) (fun c_17 => ?_)
    · refine zr_iinc (v := nI (i + 1)) (ls' := [some (.ref b), some (.int (nI y)), some (.int (nI (i + 1)))]) dX3_countTangled_23 rfl (nI_1 _) (by decide) rfl ?_
      refine zr_goto (tgt := 4) dX3_countTangled_26 (by decide) ?_
      exact ih (i + 1) _ (by omega) (by simp only [zCt]; rw [if_neg (by simpa using c_17), hy])
    · refine zr_iinc (v := nI (y + 1)) (ls' := [some (.ref b), some (.int (nI (y + 1))), some (.int (nI i))]) dX3_countTangled_20 rfl (nI_1 _) (by decide) rfl ?_
      refine zr_iinc (v := nI (i + 1)) (ls' := [some (.ref b), some (.int (nI (y + 1))), some (.int (nI (i + 1)))]) dX3_countTangled_23 rfl (nI_1 _) (by decide) rfl ?_
      refine zr_goto (tgt := 4) dX3_countTangled_26 (by decide) ?_
      exact ih (i + 1) _ (by omega) (by simp only [zCt]; rw [if_pos (decide_eq_true c_17), hy])

set_option maxHeartbeats 400000 in
set_option maxRecDepth 100000 in
theorem qX3_countTangled {X : zX} (hX : X.1.stackTraces = false) {σ : zS} {b : Nat} {A : zDk} (h : zDA b A σ) (hA : zDw A) : zMet X mX3_countTangled yX3_countTangled 2 0 0 [.ref b] σ (zI (fun y_ s_ => y_ = nI (zCt (fun i => decide (¬ zvt A i = 0)) (kC A)) ∧ s_ = σ)) := by
  refine zMet_of (ls := [some (.ref b), none, none]) rfl (by decide +kernel) rfl (fun h => by cases h) hX (Nat.le_of_ble_eq_true rfl) rfl ?_
  refine zr_iconst (v := 0) dX3_countTangled_0 (by decide) ?_
  refine zr_istore_n (ls' := [some (.ref b), some (.int 0), none]) dX3_countTangled_1 rfl (by decide) rfl ?_
  refine zr_iconst (v := 0) dX3_countTangled_2 (by decide) ?_
  refine zr_istore_n (ls' := [some (.ref b), some (.int 0), some (.int 0)]) dX3_countTangled_3 rfl (by decide) rfl ?_
  exact l_X3_countTangled hX h hA (kC A) 0 0 (by omega) rfl

set_option maxHeartbeats 400000 in
set_option maxRecDepth 100000 in
theorem l_sol {X : zX} (hX : X.1.stackTraces = false) {σ : zS} {b : Nat} {A : zDk} (h : zDA b A σ) (hA : zDw A) : ∀ (j i : Nat) (y : Nat), i + j = (kC A) → (y = zLs (kN A) i) → zW X mX3_sumOfLengths 0 0 0 (zI (fun y_ s_ => y_ = nI (zLs (kN A) (kC A)) ∧ s_ = σ)) 4 [some (.ref b), some (.int (nI y)), some (.int (nI i))] [] σ := by
  intro j
  induction j with
  | zero =>
    intro i y hi hy
    obtain ⟨wr, r, m, t, a, f, c0, c1, c2, c3, c4, c5, cw⟩ := h
    have hC := hA.1
    refine zr_iload_n dX3_sumOfLengths_4 rfl ?_
    refine zr_aload_n dX3_sumOfLengths_5 rfl ?_
    refine zr_getfield dX3_sumOfLengths_6 fX3_31 c0 rfl (by decide) ?_
    refine zr_icmp_ge (tgt := 30) dX3_sumOfLengths_9 (by decide) (fun c_9 => ?_) (fun c_9 => absurd ((nI_leI (a := kC A) (b := i) (by omega) (by omega)).mpr (by omega)) c_9)
    refine zr_iload_n dX3_sumOfLengths_30 rfl ?_
    exact zr_ireturn dX3_sumOfLengths_31 rfl (rfl) (⟨_, rfl, by rw [hy, show i = kC A from by omega], rfl⟩)
  | succ j ih =>
    intro i y hi hy
    obtain ⟨wr, r, m, t, a, f, c0, c1, c2, c3, c4, c5, cw⟩ := h
    have hC := hA.1
    refine zr_iload_n dX3_sumOfLengths_4 rfl ?_
    refine zr_aload_n dX3_sumOfLengths_5 rfl ?_
    refine zr_getfield dX3_sumOfLengths_6 fX3_31 c0 rfl (by decide) ?_
    refine zr_icmp_ge (tgt := 30) dX3_sumOfLengths_9 (by decide) (fun c_9 => absurd c_9 (fun h => absurd ((nI_leI (a := kC A) (b := i) (by omega) (by omega)).mp h) (by omega))) (fun c_9 => ?_)
    obtain ⟨e_i, a_i, w0_i, w1_i, l_i⟩ := cw i (by omega)
    refine zr_iload_n dX3_sumOfLengths_12 rfl ?_
    refine zr_aload_n dX3_sumOfLengths_13 rfl ?_
    refine zr_getfield dX3_sumOfLengths_14 fX3_11 c0 rfl (by decide) ?_
    refine zr_iload_n dX3_sumOfLengths_17 rfl ?_
    refine zr_aaload6 (b := (b + 6 + 2 * i)) dX3_sumOfLengths_18 c1 (vp_in_nI (n := i) (by omega) (by omega)) (by rw [nI_clamp (by omega)]; exact e_i) ?_
    refine zr_getfield dX3_sumOfLengths_19 fX3_47 w0_i rfl (by decide) ?_
    refine zr_iadd dX3_sumOfLengths_22 ?_
    refine zr_eqi (x' := nI (y + (kN A i))) (nI_add y (kN A i)) ?_
    refine zr_istore_n (ls' := [some (.ref b), some (.int (nI (y + (kN A i)))), some (.int (nI i))]) dX3_sumOfLengths_23 rfl (by decide) rfl ?_
    refine zr_iinc (v := nI (i + 1)) (ls' := [some (.ref b), some (.int (nI (y + (kN A i)))), some (.int (nI (i + 1)))]) dX3_sumOfLengths_24 rfl (nI_1 _) (by decide) rfl ?_
    refine zr_goto (tgt := 4) dX3_sumOfLengths_27 (by decide) ?_
    exact ih (i + 1) _ (by omega) (by simp only [zLs]; rw [hy])

set_option maxHeartbeats 400000 in
set_option maxRecDepth 100000 in
theorem qX3_sumOfLengths {X : zX} (hX : X.1.stackTraces = false) {σ : zS} {b : Nat} {A : zDk} (h : zDA b A σ) (hA : zDw A) : zMet X mX3_sumOfLengths yX3_sumOfLengths 0 0 0 [.ref b] σ (zI (fun y_ s_ => y_ = nI (zLs (kN A) (kC A)) ∧ s_ = σ)) := by
  refine zMet_of (ls := [some (.ref b), none, none]) rfl (by decide +kernel) rfl (fun h => by cases h) hX (Nat.le_of_ble_eq_true rfl) rfl ?_
  refine zr_iconst (v := 0) dX3_sumOfLengths_0 (by decide) ?_
  refine zr_istore_n (ls' := [some (.ref b), some (.int 0), none]) dX3_sumOfLengths_1 rfl (by decide) rfl ?_
  refine zr_iconst (v := 0) dX3_sumOfLengths_2 (by decide) ?_
  refine zr_istore_n (ls' := [some (.ref b), some (.int 0), some (.int 0)]) dX3_sumOfLengths_3 rfl (by decide) rfl ?_
  exact l_sol hX h hA (kC A) 0 0 (by omega) rfl

