/-! closed threads: two ways to count the cycles of a permutation of five -/
def mci (e : Nat → Nat) : Nat → Nat → Nat → Nat
  | 0, s, _ => s
  | k + 1, s, p => if s.testBit p = true then s else mci e k (s ||| 1 <<< p) (e p)
def mco (e : Nat → Nat) : Nat → Nat × Nat
  | 0 => (0, 0)
  | j + 1 => ((mco e j).1 + (if (mco e j).2.testBit (j + 1) = true then 0 else 1), mci e 64 (mco e j).2 (j + 1))
def cyl (e : Nat → Nat) (b : Nat) : Nat := if e b < b ∨ e (e b) < b ∨ e (e (e b)) < b ∨ e (e (e (e b))) < b ∨ e (e (e (e (e b)))) < b then 0 else 1
def cyc (e : Nat → Nat) : Nat → Nat
  | 0 => 0
  | i + 1 => if cyl e (i + 1) = 0 then cyc e i else cyc e i + 1
def zpt (a b c d g : Nat) : Nat → Nat := fun p => if p = 1 then a else if p = 2 then b else if p = 3 then c else if p = 4 then d else g
def zdst (a b c d g : Nat) : Bool := a != 0 && b != 0 && c != 0 && d != 0 && g != 0 && a != b && a != c && a != d && a != g && b != c && b != d && b != g && c != d && c != g && d != g
theorem zall5b : ((List.range 6).all fun a => (List.range 6).all fun b => (List.range 6).all fun c => (List.range 6).all fun d => (List.range 6).all fun g => !(zdst a b c d g) || (mco (zpt a b c d g) 5).1 == cyc (zpt a b c d g) 5) = true := by decide +kernel
theorem zall5 (a : Nat) (ha : a < 6) (b : Nat) (hb : b < 6) (c : Nat) (hc : c < 6) (d : Nat) (hd : d < 6) (g : Nat) (hg : g < 6) (h : zdst a b c d g = true) : (mco (zpt a b c d g) 5).1 = cyc (zpt a b c d g) 5 := by
  have z := List.all_eq_true.mp (List.all_eq_true.mp (List.all_eq_true.mp (List.all_eq_true.mp (List.all_eq_true.mp zall5b a (List.mem_range.mpr ha)) b (List.mem_range.mpr hb)) c (List.mem_range.mpr hc)) d (List.mem_range.mpr hd)) g (List.mem_range.mpr hg)
  rw [h] at z
  exact eq_of_beq z
theorem zbq1 : ∀ s, s < 64 → ∀ p, p < 6 → ((nI s >>> (nI p &&& 31)) &&& 1) = if s.testBit p = true then 1 else 0 := by decide +kernel
theorem zbq2 : ∀ s, s < 64 → ∀ p, p < 6 → nI s ||| ((1 : Int32) <<< (nI p &&& 31)) = nI (s ||| 1 <<< p) := by decide +kernel
theorem zbq3 : ∀ s, s < 64 → ∀ p, p < 6 → (s ||| 1 <<< p) < 64 ∧ (¬ s.testBit p = true → s < (s ||| 1 <<< p)) := by decide +kernel
def zpf5 (e : Nat → Nat) : Prop := ∀ p, 1 ≤ p → p ≤ 5 → 1 ≤ e p ∧ e p ≤ 5
theorem mci_cg {e e2 : Nat → Nat} (h : zpf5 e) (h2 : ∀ p, 1 ≤ p → p ≤ 5 → e p = e2 p) : ∀ k s p, 1 ≤ p → p ≤ 5 → mci e k s p = mci e2 k s p
  | 0, s, p, _, _ => rfl
  | k + 1, s, p, h3, h4 => by
    simp only [mci]
    rw [mci_cg h h2 k _ (e p) (h p h3 h4).1 (h p h3 h4).2, h2 p h3 h4]
theorem mco_cg {e e2 : Nat → Nat} (h : zpf5 e) (h2 : ∀ p, 1 ≤ p → p ≤ 5 → e p = e2 p) : ∀ j, j ≤ 5 → mco e j = mco e2 j
  | 0, _ => rfl
  | j + 1, hj => by
    simp only [mco]
    rw [mco_cg h h2 j (by omega), mci_cg h h2 64 _ (j + 1) (by omega) hj]
theorem cyl_cg {e e2 : Nat → Nat} (h : zpf5 e) (h2 : ∀ p, 1 ≤ p → p ≤ 5 → e p = e2 p) {b : Nat} (h3 : 1 ≤ b) (h4 : b ≤ 5) : cyl e b = cyl e2 b := by
  have a1 := h b h3 h4
  have a2 := h _ a1.1 a1.2
  have a3 := h _ a2.1 a2.2
  have a4 := h _ a3.1 a3.2
  unfold cyl
  rw [← h2 b h3 h4, ← h2 _ a1.1 a1.2, ← h2 _ a2.1 a2.2, ← h2 _ a3.1 a3.2, ← h2 _ a4.1 a4.2]
theorem cyc_cg {e e2 : Nat → Nat} (h : zpf5 e) (h2 : ∀ p, 1 ≤ p → p ≤ 5 → e p = e2 p) : ∀ j, j ≤ 5 → cyc e j = cyc e2 j
  | 0, _ => rfl
  | j + 1, hj => by
    simp only [cyc]
    rw [cyc_cg h h2 j (by omega), cyl_cg h h2 (by omega) hj]
theorem mco_cyc {e : Nat → Nat} (h : zpf5 e) (hi : ∀ p q, 1 ≤ p → p ≤ 5 → 1 ≤ q → q ≤ 5 → e p = e q → p = q) : (mco e 5).1 = cyc e 5 := by
  have h2 : ∀ p, 1 ≤ p → p ≤ 5 → e p = zpt (e 1) (e 2) (e 3) (e 4) (e 5) p := fun p h3 h4 => by
    obtain rfl | rfl | rfl | rfl | rfl : p = 1 ∨ p = 2 ∨ p = 3 ∨ p = 4 ∨ p = 5 := by omega
    all_goals rfl
  have a1 := h 1 (by omega) (by omega)
  have a2 := h 2 (by omega) (by omega)
  have a3 := h 3 (by omega) (by omega)
  have a4 := h 4 (by omega) (by omega)
  have a5 := h 5 (by omega) (by omega)
  have ne : ∀ p q, 1 ≤ p → p ≤ 5 → 1 ≤ q → q ≤ 5 → p ≠ q → (e p != e q) = true := fun p q b1 b2 b3 b4 b5 => bne_iff_ne.mpr (fun z => b5 (hi p q b1 b2 b3 b4 z))
  have nz : ∀ p, 1 ≤ p → p ≤ 5 → (e p != 0) = true := fun p b1 b2 => bne_iff_ne.mpr (by have := h p b1 b2; omega)
  have hd : zdst (e 1) (e 2) (e 3) (e 4) (e 5) = true := by
    unfold zdst
    rw [nz 1 (by omega) (by omega), nz 2 (by omega) (by omega), nz 3 (by omega) (by omega), nz 4 (by omega) (by omega), nz 5 (by omega) (by omega), ne 1 2 (by omega) (by omega) (by omega) (by omega) (by omega), ne 1 3 (by omega) (by omega) (by omega) (by omega) (by omega), ne 1 4 (by omega) (by omega) (by omega) (by omega) (by omega), ne 1 5 (by omega) (by omega) (by omega) (by omega) (by omega), ne 2 3 (by omega) (by omega) (by omega) (by omega) (by omega), ne 2 4 (by omega) (by omega) (by omega) (by omega) (by omega), ne 2 5 (by omega) (by omega) (by omega) (by omega) (by omega), ne 3 4 (by omega) (by omega) (by omega) (by omega) (by omega), ne 3 5 (by omega) (by omega) (by omega) (by omega) (by omega), ne 4 5 (by omega) (by omega) (by omega) (by omega) (by omega)]
    rfl
  rw [mco_cg h h2 5 (by omega), cyc_cg h h2 5 (by omega)]
  exact zall5 _ (by omega) _ (by omega) _ (by omega) _ (by omega) _ (by omega) hd
theorem zpa_inj {i p q : Int32} (h : zpa i p = zpa i q) : p = q := by
  unfold zpa at h
  by_cases a : p = i
  · rw [if_pos a] at h
    by_cases b : q = i
    · rw [a, b]
    · rw [if_neg b] at h
      by_cases c : q = i + 1
      · rw [if_pos c] at h; exact absurd h.symm (zne1 i)
      · rw [if_neg c] at h; exact absurd h.symm c
  · rw [if_neg a] at h
    by_cases a2 : p = i + 1
    · rw [if_pos a2] at h
      by_cases b : q = i
      · rw [if_pos b] at h; exact absurd h (zne1 i)
      · rw [if_neg b] at h
        by_cases c : q = i + 1
        · rw [a2, c]
        · rw [if_neg c] at h; exact absurd h.symm b
    · rw [if_neg a2] at h
      by_cases b : q = i
      · rw [if_pos b] at h; exact absurd h a2
      · rw [if_neg b] at h
        by_cases c : q = i + 1
        · rw [if_pos c] at h; exact absurd h a
        · rw [if_neg c] at h; exact h
theorem zEnd_inj {f : Nat → Int32} {p q : Int32} : ∀ n, zEnd f p n = zEnd f q n → p = q
  | 0, h => h
  | n + 1, h => zEnd_inj n (zpa_inj h)
theorem zEnd_5 {f : Nat → Int32} : ∀ {n : Nat}, (∀ k, k < n → zLt (f k)) → ∀ p, 1 ≤ p → p ≤ 5 → ∃ q, 1 ≤ q ∧ q ≤ 5 ∧ zEnd f (nI p) n = nI q
  | 0, _, p, h1, h2 => ⟨p, h1, h2, rfl⟩
  | n + 1, hf, p, h1, h2 => by
    obtain ⟨q, q1, q2, e⟩ := zEnd_5 (n := n) (fun k hk => hf k (by omega)) p h1 h2
    obtain ⟨j, j1, j4, ej, -⟩ := zLt_ix (hf n (by omega))
    simp only [zEnd]
    rw [e, ej]
    unfold zpa
    have e1 : nI q = nI j ↔ q = j := nI_eq (by omega) (by omega)
    have e2 : nI q = nI (j + 1) ↔ q = j + 1 := nI_eq (by omega) (by omega)
    simp only [nI_1, e1, e2]
    by_cases a : q = j
    · rw [if_pos a]; exact ⟨j + 1, by omega, by omega, rfl⟩
    · rw [if_neg a]
      by_cases b : q = j + 1
      · rw [if_pos b]; exact ⟨j, by omega, by omega, rfl⟩
      · rw [if_neg b]; exact ⟨q, q1, q2, rfl⟩
/-- where a strand ends, as a number -/
def zen (f : Nat → Int32) (n p : Nat) : Nat := (zEnd f (nI p) n).toNatClampNeg
theorem zen_at {f : Nat → Int32} {n : Nat} (hf : ∀ k, k < n → zLt (f k)) {p : Nat} (h1 : 1 ≤ p) (h2 : p ≤ 5) : zEnd f (nI p) n = nI (zen f n p) ∧ 1 ≤ zen f n p ∧ zen f n p ≤ 5 := by
  obtain ⟨q, q1, q2, e⟩ := zEnd_5 hf p h1 h2
  have : zen f n p = q := by unfold zen; rw [e, nI_clamp (by omega)]
  rw [this]; exact ⟨e, q1, q2⟩
theorem zLeast_cyl {f : Nat → Int32} {n : Nat} (hf : ∀ k, k < n → zLt (f k)) {b : Nat} (h1 : 1 ≤ b) (h2 : b ≤ 5) : zLeast f n (nI b) = nI (cyl (zen f n) b) := by
  obtain ⟨a1, b1, c1⟩ := zen_at hf h1 h2
  obtain ⟨a2, b2, c2⟩ := zen_at hf b1 c1
  obtain ⟨a3, b3, c3⟩ := zen_at hf b2 c2
  obtain ⟨a4, b4, c4⟩ := zen_at hf b3 c3
  obtain ⟨a5, b5, c5⟩ := zen_at hf b4 c4
  unfold zLeast cyl
  have lt : ∀ q, q ≤ 5 → (nI q < nI b ↔ q < b) := fun q hq => nI_ltI (by omega) (by omega)
  rw [a1, a2, a3, a4, a5]
  simp only [lt _ c1, lt _ c2, lt _ c3, lt _ c4, lt _ c5]
  split <;> rfl
theorem zCyc_cyc {f : Nat → Int32} {n : Nat} (hf : ∀ k, k < n → zLt (f k)) : ∀ j, j ≤ 5 → zCyc f n j = nI (cyc (zen f n) j)
  | 0, _ => rfl
  | j + 1, hj => by
    simp only [zCyc, cyc]
    rw [zLeast_cyl hf (by omega) hj, zCyc_cyc hf j (by omega)]
    have c01 : cyl (zen f n) (j + 1) = 0 ∨ cyl (zen f n) (j + 1) = 1 := by unfold cyl; split; exact Or.inl rfl; exact Or.inr rfl
    rcases c01 with c | c
    · rw [c]; rfl
    · rw [c, if_neg (by decide), if_neg (by decide), nI_1]
theorem zct_eq {f : Nat → Int32} {n : Nat} (hf : ∀ k, k < n → zLt (f k)) : nI (mco (zen f n) 5).1 = zCyc f n 5 := by
  rw [zCyc_cyc hf 5 (by omega), mco_cyc (fun p h1 h2 => (zen_at hf h1 h2).2) (fun p q h1 h2 h3 h4 e => ?_)]
  have e2 : nI p = nI q := zEnd_inj n (by rw [(zen_at hf h1 h2).1, (zen_at hf h3 h4).1, e])
  exact (nI_eq (by omega) (by omega)).mp e2
theorem mci_64 {e : Nat → Nat} (h : zpf5 e) : ∀ k s p, s < 64 → 1 ≤ p → p ≤ 5 → mci e k s p < 64
  | 0, s, p, hs, _, _ => hs
  | k + 1, s, p, hs, h1, h2 => by
    simp only [mci]
    split
    · exact hs
    · exact mci_64 h k _ _ (zbq3 s hs p (by omega)).1 (h p h1 h2).1 (h p h1 h2).2
theorem mco_64 {e : Nat → Nat} (h : zpf5 e) : ∀ j, j ≤ 5 → (mco e j).2 < 64 ∧ (mco e j).1 ≤ j
  | 0, _ => ⟨(by decide : (0 : Nat) < 64), Nat.le_refl 0⟩
  | j + 1, hj => by
    obtain ⟨a, b⟩ := mco_64 h j (by omega)
    refine ⟨mci_64 h 64 _ _ a (by omega) hj, ?_⟩
    simp only [mco]; split <;> omega
set_option maxHeartbeats 400000 in
set_option maxRecDepth 100000 in
theorem l_ci {X : zX} (hX : X.1.stackTraces = false) {σ : zS} {y : Nat} {F : Nat → Int32} {g : Nat → Int32} {A : zDk} {i : Nat} {R n k : Nat} (h0 : σ.1 y = zmO y F) (h1 : σ.1 (y + 1) = .inl (0, 82, .inl g)) (gr : zGr A g) (hA : zDw A) (hi : i < kC A) (kk : ∀ x5 : Option Value, zW X mX10_closedThreads 4 0 0 (zI (fun y_ s_ => y_ = nI (mco (zen (kL A i) (kN A i)) 5).1 ∧ s_ = σ)) 72 [some (.ref y), some (.int (nI i)), some (.int (nI R)), some (.int (nI n)), some (.int (nI k)), x5] [] σ) : ∀ (K u p : Nat), (64 - u ≤ K) → (u < 64) → (1 ≤ p) → (p ≤ 5) → (R = mci (zen (kL A i) (kN A i)) K u p) → zW X mX10_closedThreads 4 0 0 (zI (fun y_ s_ => y_ = nI (mco (zen (kL A i) (kN A i)) 5).1 ∧ s_ = σ)) 44 [some (.ref y), some (.int (nI i)), some (.int (nI u)), some (.int (nI n)), some (.int (nI k)), some (.int (nI p))] [] σ := by
  intro K
  induction K with
  | zero => intro u p hK h64 p1 p5 hR; omega
  | succ K ih =>
    intro u p hK h64 p1 p5 hR
    obtain ⟨r0, r1, rc, rp⟩ := id gr
    obtain ⟨hC8, hP8, hW⟩ := id hA
    have hf := (hW i (by omega)).2.1
    refine zr_iload_n dX10_closedThreads_44 rfl ?_
    refine zr_iload dX10_closedThreads_45 rfl ?_
    refine zr_ishr dX10_closedThreads_47 ?_
    refine zr_iconst (v := 1) dX10_closedThreads_48 (by decide) ?_
    refine zr_iand dX10_closedThreads_49 ?_
    refine zr_eqi (x' := (if u.testBit p = true then 1 else 0)) (zbq1 u h64 p (by omega)) ?_
    refine zr_if_ne (tgt := 72) dX10_closedThreads_50 (by decide) (fun c_50 => ?_) (fun c_50 => ?_)
    · have b0 : u.testBit p = true := Classical.not_not.mp (fun q => c_50 (ite10.mpr q)); have e1 : R = u := (by rw [hR]; simp only [mci]; rw [if_pos b0]); rw [e1] at kk; exact kk _
    · have b0 : ¬ u.testBit p = true := ite10.mp c_50
      have b3 := zbq3 u h64 p (by omega)
      have b4 := b3.2 b0
      have b5 := (zen_at hf p1 p5).2
      refine zr_iload_n dX10_closedThreads_53 rfl ?_
      refine zr_iconst (v := 1) dX10_closedThreads_54 (by decide) ?_
      refine zr_iload dX10_closedThreads_55 rfl ?_
      refine zr_ishl dX10_closedThreads_57 ?_
      refine zr_ior dX10_closedThreads_58 ?_
      refine zr_eqi (x' := nI (u ||| 1 <<< p)) (zbq2 u h64 p (by omega)) ?_
      refine zr_istore_n (ls' := [some (.ref y), some (.int (nI i)), some (.int (nI (u ||| 1 <<< p))), some (.int (nI n)), some (.int (nI k)), some (.int (nI p))]) dX10_closedThreads_59 rfl (by decide) rfl ?_
      refine zr_aload_n dX10_closedThreads_60 rfl ?_
      refine zr_iload_n dX10_closedThreads_61 rfl ?_
      refine zr_iload dX10_closedThreads_62 rfl ?_
      refine zr_pVi [] dX10_closedThreads_64 vX10_183 (qX10_end hX (i := i) (p := nI p) h0 h1 gr hA (by omega)) h0 (by decide) (by decide) (by decide) rfl rfl (Nat.le_of_ble_eq_true rfl) (by decide) rfl ?_
      refine zr_eqi (x' := nI (zen (kL A i) (kN A i) p)) ((zen_at hf p1 p5).1) ?_
      refine zr_istore (ls' := [some (.ref y), some (.int (nI i)), some (.int (nI (u ||| 1 <<< p))), some (.int (nI n)), some (.int (nI k)), some (.int (nI (zen (kL A i) (kN A i) p)))]) dX10_closedThreads_67 (by decide) rfl ?_
      refine zr_goto (tgt := 44) dX10_closedThreads_69 (by decide) ?_
      exact ih _ _ (by omega) b3.1 b5.1 b5.2 (by rw [hR]; simp only [mci]; rw [if_neg b0])

set_option maxHeartbeats 400000 in
set_option maxRecDepth 100000 in
theorem l_ct {X : zX} (hX : X.1.stackTraces = false) {σ : zS} {y : Nat} {F : Nat → Int32} {g : Nat → Int32} {A : zDk} {i : Nat} (h0 : σ.1 y = zmO y F) (h1 : σ.1 (y + 1) = .inl (0, 82, .inl g)) (gr : zGr A g) (hA : zDw A) (hi : i < kC A) : ∀ (j t : Nat) (x5 : Option Value), t + j = 5 → zW X mX10_closedThreads 4 0 0 (zI (fun y_ s_ => y_ = nI (mco (zen (kL A i) (kN A i)) 5).1 ∧ s_ = σ)) 17 [some (.ref y), some (.int (nI i)), some (.int (nI ((mco (zen (kL A i) (kN A i)) t).2))), some (.int (nI ((mco (zen (kL A i) (kN A i)) t).1))), some (.int (nI (t + 1))), x5] [] σ := by
  intro j
  induction j with
  | zero =>
    intro t x5 ht
    obtain ⟨r0, r1, rc, rp⟩ := id gr
    obtain ⟨hC8, hP8, hW⟩ := id hA
    have hf := (hW i (by omega)).2.1
    have m6 := mco_64 (e := (zen (kL A i) (kN A i))) (fun p h1 h2 => (zen_at hf h1 h2).2) t (by omega)
    refine zr_iload dX10_closedThreads_17 rfl ?_
    refine zr_iconst (v := 5) dX10_closedThreads_19 (by decide) ?_
    refine zr_icmp_gt (tgt := 78) dX10_closedThreads_20 (by decide) (fun c_20 => ?_) (fun c_20 => absurd ((nI_ltI (a := 5) (b := t + 1) (by omega) (by omega)).mpr (by omega)) c_20)
    refine zr_iload_n dX10_closedThreads_78 rfl ?_
    exact zr_ireturn dX10_closedThreads_79 rfl (rfl) (by have e1 : t = 5 := (by omega); rw [e1]; exact ⟨_, rfl, rfl, rfl⟩)
  | succ j ih =>
    intro t x5 ht
    obtain ⟨r0, r1, rc, rp⟩ := id gr
    obtain ⟨hC8, hP8, hW⟩ := id hA
    have hf := (hW i (by omega)).2.1
    have m6 := mco_64 (e := (zen (kL A i) (kN A i))) (fun p h1 h2 => (zen_at hf h1 h2).2) t (by omega)
    refine zr_iload dX10_closedThreads_17 rfl ?_
    refine zr_iconst (v := 5) dX10_closedThreads_19 (by decide) ?_
    refine zr_icmp_gt (tgt := 78) dX10_closedThreads_20 (by decide) (fun c_20 => absurd c_20 (fun h => absurd ((nI_ltI (a := 5) (b := t + 1) (by omega) (by omega)).mp h) (by omega))) (fun c_20 => ?_)
    refine zr_iload_n dX10_closedThreads_23 rfl ?_
    refine zr_iload_n dX10_closedThreads_24 rfl ?_
    refine zr_iload dX10_closedThreads_25 rfl ?_
    refine zr_ishr dX10_closedThreads_27 ?_
    refine zr_iconst (v := 1) dX10_closedThreads_28 (by decide) ?_
    refine zr_iand dX10_closedThreads_29 ?_
    refine zr_eqi (x' := (if (mco (zen (kL A i) (kN A i)) t).2.testBit (t + 1) = true then 1 else 0)) (zbq1 _ m6.1 (t + 1) (by omega)) ?_
    refine zr_if_ne (tgt := 37) dX10_closedThreads_30 (by decide) (fun c_30 => ?_) (fun c_30 => ?_)
    · refine zr_iconst (v := 0) dX10_closedThreads_37 (by decide) ?_
      refine zr_iadd dX10_closedThreads_38 ?_
      refine zr_eqi (x' := nI (((mco (zen (kL A i) (kN A i)) t).1) + 0)) (nI_add ((mco (zen (kL A i) (kN A i)) t).1) 0) ?_
      refine zr_istore_n (ls' := [some (.ref y), some (.int (nI i)), some (.int (nI ((mco (zen (kL A i) (kN A i)) t).2))), some (.int (nI (((mco (zen (kL A i) (kN A i)) t).1) + 0))), some (.int (nI (t + 1))), x5]) dX10_closedThreads_39 rfl (by decide) rfl ?_
      refine zr_iload dX10_closedThreads_40 rfl ?_
      refine zr_istore (ls' := [some (.ref y), some (.int (nI i)), some (.int (nI ((mco (zen (kL A i) (kN A i)) t).2))), some (.int (nI (((mco (zen (kL A i) (kN A i)) t).1) + 0))), some (.int (nI (t + 1))), some (.int (nI (t + 1)))]) dX10_closedThreads_42 (by decide) rfl ?_
      refine l_ci hX h0 h1 gr hA hi (R := mci (zen (kL A i) (kN A i)) 64 (mco (zen (kL A i) (kN A i)) t).2 (t + 1)) (n := (mco (zen (kL A i) (kN A i)) t).1 + 0) (k := t + 1) (fun x5 => ?_) 64 _ _ (by omega) m6.1 (by omega) (by omega) rfl
      refine zr_iinc (v := nI (t + 1 + 1)) (ls' := [some (.ref y), some (.int (nI i)), some (.int (nI (mci (zen (kL A i) (kN A i)) 64 (mco (zen (kL A i) (kN A i)) t).2 (t + 1)))), some (.int (nI ((mco (zen (kL A i) (kN A i)) t).1 + 0))), some (.int (nI (t + 1 + 1))), x5]) dX10_closedThreads_72 rfl (nI_1 _) (by decide) rfl ?_
      refine zr_goto (tgt := 17) dX10_closedThreads_75 (by decide) ?_
      have z := ih (t + 1) x5 (by omega)
      have e1 : (mco (zen (kL A i) (kN A i)) (t + 1)).1 = (mco (zen (kL A i) (kN A i)) t).1 + 0 := by show _ + (if _ then _ else _) = _; rw [if_pos (Classical.not_not.mp (fun q => c_30 (ite10.mpr q)))]
      have e2 : (mco (zen (kL A i) (kN A i)) (t + 1)).2 = mci (zen (kL A i) (kN A i)) 64 (mco (zen (kL A i) (kN A i)) t).2 (t + 1) := rfl
      rw [e1, e2] at z; exact z
    · refine zr_iconst (v := 1) dX10_closedThreads_33 (by decide) ?_
      refine zr_goto (tgt := 38) dX10_closedThreads_34 (by decide) ?_
      refine zr_iadd dX10_closedThreads_38 ?_
      refine zr_eqi (x' := nI (((mco (zen (kL A i) (kN A i)) t).1) + 1)) (nI_add ((mco (zen (kL A i) (kN A i)) t).1) 1) ?_
      refine zr_istore_n (ls' := [some (.ref y), some (.int (nI i)), some (.int (nI ((mco (zen (kL A i) (kN A i)) t).2))), some (.int (nI (((mco (zen (kL A i) (kN A i)) t).1) + 1))), some (.int (nI (t + 1))), x5]) dX10_closedThreads_39 rfl (by decide) rfl ?_
      refine zr_iload dX10_closedThreads_40 rfl ?_
      refine zr_istore (ls' := [some (.ref y), some (.int (nI i)), some (.int (nI ((mco (zen (kL A i) (kN A i)) t).2))), some (.int (nI (((mco (zen (kL A i) (kN A i)) t).1) + 1))), some (.int (nI (t + 1))), some (.int (nI (t + 1)))]) dX10_closedThreads_42 (by decide) rfl ?_
      refine l_ci hX h0 h1 gr hA hi (R := mci (zen (kL A i) (kN A i)) 64 (mco (zen (kL A i) (kN A i)) t).2 (t + 1)) (n := (mco (zen (kL A i) (kN A i)) t).1 + 1) (k := t + 1) (fun x5 => ?_) 64 _ _ (by omega) m6.1 (by omega) (by omega) rfl
      refine zr_iinc (v := nI (t + 1 + 1)) (ls' := [some (.ref y), some (.int (nI i)), some (.int (nI (mci (zen (kL A i) (kN A i)) 64 (mco (zen (kL A i) (kN A i)) t).2 (t + 1)))), some (.int (nI ((mco (zen (kL A i) (kN A i)) t).1 + 1))), some (.int (nI (t + 1 + 1))), x5]) dX10_closedThreads_72 rfl (nI_1 _) (by decide) rfl ?_
      refine zr_goto (tgt := 17) dX10_closedThreads_75 (by decide) ?_
      have z := ih (t + 1) x5 (by omega)
      have e1 : (mco (zen (kL A i) (kN A i)) (t + 1)).1 = (mco (zen (kL A i) (kN A i)) t).1 + 1 := by show _ + (if _ then _ else _) = _; rw [if_neg (ite10.mp c_30)]
      have e2 : (mco (zen (kL A i) (kN A i)) (t + 1)).2 = mci (zen (kL A i) (kN A i)) 64 (mco (zen (kL A i) (kN A i)) t).2 (t + 1) := rfl
      rw [e1, e2] at z; exact z

set_option maxHeartbeats 400000 in
set_option maxRecDepth 100000 in
theorem qX10_closedThreads {X : zX} (hX : X.1.stackTraces = false) {σ : zS} {y : Nat} {w tm cd dn : Int32} {K : zDk} {A S : zDk} {m : Nat} {U : Nat → zDk} {n : Nat} {T : Nat → Int32} {ll : Nat} {ln : Nat → Int32} {hs kf ld dt dc : Int32} {i : Nat} (hM : zMo y w tm cd dn K A S m U n T ll ln hs kf ld dt dc σ) (gA : zGd A) (hi : i < kC A) : zMet X mX10_closedThreads yX10_closedThreads 4 0 0 [.ref y, .int (nI i)] σ (zI (fun y_ s => y_ = zCyc (kL A i) (kN A i) 5 ∧ zFr σ s (zMq y) ∧ zMo y w tm 0 0 K A S m U n T ll ln hs kf ld dt dc s)) := by
  refine zMet_of (ls := [some (.ref y), some (.int (nI i)), none, none, none, none]) rfl (by decide +kernel) rfl (fun h => by cases h) hX (Nat.le_of_ble_eq_true rfl) rfl ?_
  obtain ⟨F, g, kp, sv, bf, ip, sg, td, h0, hf, h1, h2, h3, h4, h5, h6, h11, hWa, hC, hX9, hOt, gr, gS, gK, hm8, gU, hn60, hT, hll, hln⟩ := id hM
  obtain ⟨f4, f5, f6, f7, f8, f9, f10, f11, f13, f14, f16, f27⟩ := id hf
  have hA := gA.1
  obtain ⟨r0, r1, rc, rp⟩ := id gr
  obtain ⟨hC8, hP8, hW⟩ := id hA
  refine zr_aload_n dX10_closedThreads_0 rfl ?_
  refine zr_iload_n dX10_closedThreads_1 rfl ?_
  refine zr_callVi [] dX10_closedThreads_2 vX10_155 (qX10_isNone hX (i := i) h0 h1 r0 (by omega) hi) h0 (by decide) (by decide) (by decide) rfl rfl (Nat.le_of_ble_eq_true rfl) (by decide) rfl (fun kr1 s_kr1 h_kr1 => ?_)
  obtain ⟨e_kr1, F_kr1, g0_kr1⟩ := h_kr1
  have kh2 : s_kr1.1 (y + 1) = .inl (0, 82, .inl g) := zFr.get F_kr1 (by omega) h1
  have kh3 : s_kr1.1 (y + 2) = .inl (0, 656, .inl kp) := zFr.get F_kr1 (by omega) h2
  have kh4 : s_kr1.1 (y + 3) = .inl (0, 82, .inl sv) := zFr.get F_kr1 (by omega) h3
  have kh5 : s_kr1.1 (y + 4) = .inl (0, 82, .inl bf) := zFr.get F_kr1 (by omega) h4
  have kh6 : s_kr1.1 (y + 5) = .inl (0, 60, .inl ip) := zFr.get F_kr1 (by omega) h5
  have kh7 : s_kr1.1 (y + 6) = .inl (1, 400, .inl sg) := zFr.get F_kr1 (by omega) h6
  have kh8 : s_kr1.1 (y + 11) = .inl (0, 93, .inl td) := zFr.get F_kr1 (by omega) h11
  have kR9 : zWa y s_kr1 := zWa.fr hWa F_kr1 (by intro q h1 h2 h3; (try simp only [zIn, zJf] at h3); omega)
  have kR10 : zCy y s_kr1 := zCy.fr hC F_kr1 (by intro q h1 h2 h3; (try simp only [zIn, zJf] at h3); omega)
  have kR11 : zXa y s_kr1 := zXa.fr hX9 F_kr1 (by intro q h1 h2 h3; (try simp only [zIn, zJf] at h3); omega)
  have kR12 : zOa y s_kr1 := zOa.fr hOt F_kr1 (by intro q h1 h2 h3; (try simp only [zIn, zJf] at h3); omega)
  have kF13 := zFr.tr zFr.rf (P := zMq y) F_kr1 (by intro q hq; unfold zMq; omega)
  obtain rfl := e_kr1.symm
  refine zr_if_eq (tgt := 10) dX10_closedThreads_5 (by decide) (fun c_5 => ?_) (fun c_5 => absurd (by decide) c_5)
  refine zr_iconst (v := 0) dX10_closedThreads_10 (by decide) ?_
  refine zr_istore_n (ls' := [some (.ref y), some (.int (nI i)), some (.int 0), none, none, none]) dX10_closedThreads_11 rfl (by decide) rfl ?_
  refine zr_iconst (v := 0) dX10_closedThreads_12 (by decide) ?_
  refine zr_istore_n (ls' := [some (.ref y), some (.int (nI i)), some (.int 0), some (.int 0), none, none]) dX10_closedThreads_13 rfl (by decide) rfl ?_
  refine zr_iconst (v := 1) dX10_closedThreads_14 (by decide) ?_
  refine zr_istore (ls' := [some (.ref y), some (.int (nI i)), some (.int 0), some (.int 0), some (.int 1), none]) dX10_closedThreads_15 (by decide) rfl ?_
  exact (l_ct hX g0_kr1 kh2 gr hA hi 5 0 _ (by omega)).mono (fun o s q => by obtain ⟨r, e1, e2, e3⟩ := q; rw [e3]; exact ⟨r, e1, e2.trans (zct_eq (hW i (by omega)).2.1), kF13, ⟨_, _, _, _, _, _, _, _, g0_kr1, ⟨f4, f5, f6, rfl, rfl, f9, f10, f11, f13, f14, f16, f27⟩, kh2, kh3, kh4, kh5, kh6, kh7, kh8, kR9, kR10, kR11, kR12, gr, gS, gK, hm8, gU, hn60, hT, hll, hln⟩⟩)

set_option maxHeartbeats 400000 in
set_option maxRecDepth 100000 in
theorem qX10_closedThreadsX {X : zX} (hX : X.1.stackTraces = false) {σ : zS} {y : Nat} {w tm cd dn : Int32} {K : zDk} {A S : zDk} {m : Nat} {U : Nat → zDk} {n : Nat} {T : Nat → Int32} {ll : Nat} {ln : Nat → Int32} {hs kf ld dt dc : Int32} {p : Int32} (hM : zMo y w tm cd dn K A S m U n T ll ln hs kf ld dt dc σ) (gA : zGd A) (hno : ¬ (¬ p < 0 ∧ p < nI (kC A))) : zMet X mX10_closedThreads yX10_closedThreads 4 0 0 [.ref y, .int p] σ (zI (fun y_ s => True ∧ zFr σ s (zMq y) ∧ zMo y w tm 1 0 K A S m U n T ll ln hs kf ld dt dc s)) := by
  refine zMet_of (ls := [some (.ref y), some (.int p), none, none, none, none]) rfl (by decide +kernel) rfl (fun h => by cases h) hX (Nat.le_of_ble_eq_true rfl) rfl ?_
  obtain ⟨F, g, kp, sv, bf, ip, sg, td, h0, hf, h1, h2, h3, h4, h5, h6, h11, hWa, hC, hX9, hOt, gr, gS, gK, hm8, gU, hn60, hT, hll, hln⟩ := id hM
  obtain ⟨f4, f5, f6, f7, f8, f9, f10, f11, f13, f14, f16, f27⟩ := id hf
  have hA := gA.1
  obtain ⟨r0, r1, rc, rp⟩ := id gr
  obtain ⟨hC8, hP8, hW⟩ := id hA
  refine zr_aload_n dX10_closedThreads_0 rfl ?_
  refine zr_iload_n dX10_closedThreads_1 rfl ?_
  refine zr_callVi [] dX10_closedThreads_2 vX10_155 (qX10_isNoneX hX h0 h1 r0 (by omega) hno) h0 (by decide) (by decide) (by decide) rfl rfl (Nat.le_of_ble_eq_true rfl) (by decide) rfl (fun kr1 s_kr1 h_kr1 => ?_)
  obtain ⟨e_kr1, F_kr1, g0_kr1⟩ := h_kr1
  have kh2 : s_kr1.1 (y + 1) = .inl (0, 82, .inl g) := zFr.get F_kr1 (by omega) h1
  have kh3 : s_kr1.1 (y + 2) = .inl (0, 656, .inl kp) := zFr.get F_kr1 (by omega) h2
  have kh4 : s_kr1.1 (y + 3) = .inl (0, 82, .inl sv) := zFr.get F_kr1 (by omega) h3
  have kh5 : s_kr1.1 (y + 4) = .inl (0, 82, .inl bf) := zFr.get F_kr1 (by omega) h4
  have kh6 : s_kr1.1 (y + 5) = .inl (0, 60, .inl ip) := zFr.get F_kr1 (by omega) h5
  have kh7 : s_kr1.1 (y + 6) = .inl (1, 400, .inl sg) := zFr.get F_kr1 (by omega) h6
  have kh8 : s_kr1.1 (y + 11) = .inl (0, 93, .inl td) := zFr.get F_kr1 (by omega) h11
  have kR9 : zWa y s_kr1 := zWa.fr hWa F_kr1 (by intro q h1 h2 h3; (try simp only [zIn, zJf] at h3); omega)
  have kR10 : zCy y s_kr1 := zCy.fr hC F_kr1 (by intro q h1 h2 h3; (try simp only [zIn, zJf] at h3); omega)
  have kR11 : zXa y s_kr1 := zXa.fr hX9 F_kr1 (by intro q h1 h2 h3; (try simp only [zIn, zJf] at h3); omega)
  have kR12 : zOa y s_kr1 := zOa.fr hOt F_kr1 (by intro q h1 h2 h3; (try simp only [zIn, zJf] at h3); omega)
  have kF13 := zFr.tr zFr.rf (P := zMq y) F_kr1 (by intro q hq; unfold zMq; omega)
  obtain rfl := e_kr1.symm
  refine zr_if_eq (tgt := 10) dX10_closedThreads_5 (by decide) (fun c_5 => absurd c_5 (by decide)) (fun c_5 => ?_)
  refine zr_iconst (v := 0) dX10_closedThreads_8 (by decide) ?_
  exact zr_ireturn dX10_closedThreads_9 rfl (rfl) (⟨_, rfl, trivial, kF13, ⟨_, _, _, _, _, _, _, _, g0_kr1, ⟨f4, f5, f6, rfl, rfl, f9, f10, f11, f13, f14, f16, f27⟩, kh2, kh3, kh4, kh5, kh6, kh7, kh8, kR9, kR10, kR11, kR12, gr, gS, gK, hm8, gU, hn60, hT, hll, hln⟩⟩)

