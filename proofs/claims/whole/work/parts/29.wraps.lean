/-! words of a docket: what only the letters decide -/
theorem zSum_congr {f g : Nat → Int32} : ∀ {n : Nat}, (∀ k, k < n → f k = g k) → zSum f n = zSum g n
  | 0, _ => rfl
  | n + 1, h => by simp only [zSum]; rw [zSum_congr (n := n) (fun k hk => h k (by omega)), h n (by omega)]
theorem zEnd_congr {f g : Nat → Int32} (p : Int32) : ∀ {n : Nat}, (∀ k, k < n → f k = g k) → zEnd f p n = zEnd g p n
  | 0, _ => rfl
  | n + 1, h => by simp only [zEnd]; rw [zEnd_congr p (n := n) (fun k hk => h k (by omega)), h n (by omega)]
theorem zCr_congr {f g : Nat → Int32} (p q : Int32) : ∀ {n : Nat}, (∀ k, k < n → f k = g k) → zCr f p q n = zCr g p q n
  | 0, _ => rfl
  | n + 1, h => by simp only [zCr]; rw [zCr_congr p q (n := n) (fun k hk => h k (by omega)), h n (by omega)]
theorem zfe_congr {f g : Nat → Int32} {n : Nat} (h : ∀ k, k < n → f k = g k) : ∀ k e : Nat, e + k = n → zfe f e k = zfe g e k
  | 0, e, _ => rfl
  | k + 1, e, he => by simp only [zfe]; rw [zfe_congr h k (e + 1) (by omega), zhb_congr (f := f) (g := g) (e := e) (fun j hj => h j (by omega))]
theorem zPure_congr {f g : Nat → Int32} {n : Nat} (h : ∀ k, k < n → f k = g k) : zPure f n = zPure g n := by
  unfold zPure; simp only [zEnd_congr _ h]
theorem zLeast_congr {f g : Nat → Int32} {n : Nat} (h : ∀ k, k < n → f k = g k) (b : Int32) : zLeast f n b = zLeast g n b := by
  unfold zLeast; simp only [zEnd_congr _ h]
theorem zCyc_congr {f g : Nat → Int32} {n : Nat} (h : ∀ k, k < n → f k = g k) : ∀ i, zCyc f n i = zCyc g n i
  | 0 => rfl
  | i + 1 => by simp only [zCyc]; rw [zCyc_congr h i, zLeast_congr h]
theorem zRP_congr {f g : Nat → Int32} {n : Nat} (h : ∀ k, k < n → f k = g k) : ∀ i, i ≤ n → (zRP f i).1 = (zRP g i).1 ∧ ∀ k, k < n → (zRP f i).2 k = (zRP g i).2 k
  | 0, _ => ⟨rfl, h⟩
  | i + 1, hi => by
    obtain ⟨h1, h2⟩ := zRP_congr h i (by omega)
    have h3 := zRP_le g i
    have e1 := h2 i (by omega)
    have e2 := h2 ((zRP g i).1 - 1) (by omega)
    simp only [zRP]
    rw [h1, e1, e2]
    split
    · exact ⟨rfl, h2⟩
    · refine ⟨rfl, fun k hk => ?_⟩
      dsimp only
      simp only [upd]
      split
      · rfl
      · exact h2 k hk
def aWord (A : zDk) (i n : Nat) (g : Nat → Int32) : zDk := (kC A, kP A, kR A, kM A, kT A, kA A, zuN (kN A) i n, zuL (kL A) i g)
theorem zDA.word {b i n : Nat} {A : zDk} {σ s : zS} {f g : Nat → Int32} (h : zDA b A σ) (F : zFr σ s (fun q => q = b + 6 + 2 * i ∨ q = b + 6 + 2 * i + 1)) (hi : i < 8) (h1 : s.1 (b + 6 + 2 * i) = .inr (6, [.ref (b + 6 + 2 * i + 1), .int (nI n)])) (h2 : s.1 (b + 6 + 2 * i + 1) = .inl (0, 16, .inl f)) (hfg : ∀ k, k < n → f k = g k) : zDA b (aWord A i n g) s := by
  obtain ⟨wr, r, m, t, a, f0, c0, c1, c2, c3, c4, c5, cw⟩ := h
  refine ⟨wr, r, m, t, a, zuL f0 i f, F.get (by omega) c0, F.get (by omega) c1, F.get (by omega) c2, F.get (by omega) c3, F.get (by omega) c4, F.get (by omega) c5, fun j hj => ?_⟩
  obtain ⟨g1, g2, g3, g4, g5⟩ := cw j hj
  by_cases e : j = i
  · subst e
    rw [show kN (aWord A j n g) j = n from zuN_at _ _ _, show kL (aWord A j n g) j = g from zuL_at _ _ _, zuL_at]
    exact ⟨g1, g2, h1, h2, hfg⟩
  · rw [show kN (aWord A i n g) j = kN A j from zuN_ne _ _ e, show kL (aWord A i n g) j = kL A j from zuL_ne _ _ e, zuL_ne _ _ e]
    exact ⟨g1, g2, F.get (by omega) g3, F.get (by omega) g4, g5⟩
/-- a relaxer's cells at r, whatever it holds -/
def zRx (r : Nat) (σ : zS) : Prop := ∃ (f g : Nat → Int32) (v2 v3 v4 v5 : Value), σ.1 r = .inr (4, [.ref (r + 1), .ref (r + 2), v2, v3, v4, v5]) ∧ σ.1 (r + 1) = .inl (0, 400, .inl f) ∧ σ.1 (r + 2) = .inl (0, 400, .inl g)
theorem zRx.fr {r : Nat} {σ s : zS} {P : Nat → Prop} (h : zRx r σ) (F : zFr σ s P) (hp : ∀ q, r ≤ q → q < r + 3 → ¬ P q) : zRx r s := by
  obtain ⟨f, g, v2, v3, v4, v5, h0, h1, h2⟩ := h
  exact ⟨f, g, v2, v3, v4, v5, F.get (hp _ (by omega) (by omega)) h0, F.get (hp _ (by omega) (by omega)) h1, F.get (hp _ (by omega) (by omega)) h2⟩
/-- a relaxer after a relaxation -/
def zRo (r : Nat) (O : Option (Nat × List Int32)) (s : zS) : Prop := zRd r (r + 1) (r + 2) O s
theorem zRo.fr {r : Nat} {O : Option (Nat × List Int32)} {σ s : zS} {P : Nat → Prop} (h : zRo r O σ) (F : zFr σ s P) (hp : ∀ q, r ≤ q → q < r + 3 → ¬ P q) : zRo r O s := by
  obtain ⟨f, g, n, m, c, fl, h0, h1, h2, h3⟩ := h
  exact ⟨f, g, n, m, c, fl, F.get (hp _ (by omega) (by omega)) h0, F.get (hp _ (by omega) (by omega)) h1, F.get (hp _ (by omega) (by omega)) h2, h3⟩
theorem zRo.rx {r : Nat} {O : Option (Nat × List Int32)} {s : zS} (h : zRo r O s) : zRx r s := by
  obtain ⟨f, g, n, m, c, fl, h0, h1, h2, h3⟩ := h
  exact ⟨f, g, _, _, _, _, h0, h1, h2⟩
/-- a curve's cells at v -/
def zCu (v : Nat) (σ : zS) : Prop := ∃ w : Nat → Int, σ.1 v = .inr (0, [.ref (v + 1)]) ∧ σ.1 (v + 1) = .inl (3, 10, .inr (.inl (z64 w)))
/-- a curve that shows W -/
def zCo (v : Nat) (W : Nat → Int) (σ : zS) : Prop := ∃ w : Nat → Int, zSm w W ∧ σ.1 v = .inr (0, [.ref (v + 1)]) ∧ σ.1 (v + 1) = .inl (3, 10, .inr (.inl (z64 w)))
theorem zCu.fr {v : Nat} {σ s : zS} {P : Nat → Prop} (h : zCu v σ) (F : zFr σ s P) (hp : ∀ q, v ≤ q → q < v + 2 → ¬ P q) : zCu v s := by
  obtain ⟨w, h0, h1⟩ := h
  exact ⟨w, F.get (hp _ (by omega) (by omega)) h0, F.get (hp _ (by omega) (by omega)) h1⟩
theorem zCo.fr {v : Nat} {W : Nat → Int} {σ s : zS} {P : Nat → Prop} (h : zCo v W σ) (F : zFr σ s P) (hp : ∀ q, v ≤ q → q < v + 2 → ¬ P q) : zCo v W s := by
  obtain ⟨w, hw, h0, h1⟩ := h
  exact ⟨w, hw, F.get (hp _ (by omega) (by omega)) h0, F.get (hp _ (by omega) (by omega)) h1⟩
theorem zCo.cu {v : Nat} {W : Nat → Int} {s : zS} (h : zCo v W s) : zCu v s := by
  obtain ⟨w, -, h0, h1⟩ := h
  exact ⟨w, h0, h1⟩
theorem zRo.obj {r : Nat} {O : Option (Nat × List Int32)} {s : zS} (h : zRo r O s) : ∃ fs, s.1 r = .inr (4, fs) := by
  obtain ⟨f, g, n, m, c, fl, h0, -⟩ := h
  exact ⟨_, h0⟩
theorem zRx.obj {r : Nat} {s : zS} (h : zRx r s) : ∃ fs, s.1 r = .inr (4, fs) := by
  obtain ⟨f, g, v2, v3, v4, v5, h0, -⟩ := h
  exact ⟨_, h0⟩
theorem zCo.obj {v : Nat} {W : Nat → Int} {s : zS} (h : zCo v W s) : s.1 v = .inr (0, [.ref (v + 1)]) := by
  obtain ⟨w, -, h0, -⟩ := h
  exact h0
theorem zCu.obj {v : Nat} {s : zS} (h : zCu v s) : s.1 v = .inr (0, [.ref (v + 1)]) := by
  obtain ⟨w, h0, -⟩ := h
  exact h0
theorem zDA.wobj {b i : Nat} {A : zDk} {σ : zS} (h : zDA b A σ) (hi : i < 8) : σ.1 (b + 6 + 2 * i) = .inr (6, [.ref (b + 6 + 2 * i + 1), .int (nI (kN A i))]) := by
  obtain ⟨wr, r, m, t, a, f, c0, c1, c2, c3, c4, c5, cw⟩ := h
  exact (cw i hi).2.2.1
/-- the word of a case -/
def zWd (A : zDk) (i : Nat) : List Int32 := zP (kL A i) (kN A i)
theorem zDw.wd {A : zDk} (h : zDw A) {i : Nat} (hi : i < 8) : ∀ y ∈ zWd A i, zLt y := zDw.let h hi
def zWq (A : zDk) (i j : Nat) : List Int32 := zQw (kL A i) (kN A i) (kL A j) (kN A j)
theorem zLt_neg {y : Int32} (h : zLt y) : zLt (-y) := by
  rcases h with rfl | rfl | rfl | rfl | rfl | rfl | rfl | rfl <;> (unfold zLt; decide +kernel)
theorem zA_mem' {f : Nat → Int32} {y : Int32} : ∀ {n : Nat}, y ∈ zA_ f n → ∃ k, k < n ∧ y = f k
  | 0, h => by cases h
  | n + 1, h => by
    rcases List.mem_cons.mp h with q | q
    · exact ⟨n, by omega, q⟩
    · obtain ⟨k, hk, e⟩ := zA_mem' q
      exact ⟨k, by omega, e⟩
theorem zDw.wq {A : zDk} (h : zDw A) {i j : Nat} (hi : i < 8) (hj : j < 8) : ∀ y ∈ zWq A i j, zLt y := by
  intro y hy
  rcases List.mem_append.mp hy with q | q
  · obtain ⟨k, hk, e⟩ := zA_mem' q
    rw [e]; exact zLt_neg ((h.2.2 i hi).2.1 k hk)
  · exact zDw.wd h hj y q
theorem zQw_congr {f f1 g g1 : Nat → Int32} {n m : Nat} (h : ∀ k, k < n → f k = f1 k) (h2 : ∀ k, k < m → g k = g1 k) : zQw f n g m = zQw f1 n g1 m := by
  unfold zQw; rw [zP_congr h2, zA_congr (f := fun t => -(f t)) (g := fun t => -(f1 t)) (fun k hk => by rw [h k hk])]
theorem qW_isFull {X : zX} (hX : X.1.stackTraces = false) {σ : zS} {b i : Nat} {A : zDk} (h : zDA b A σ) (hA : zDw A) (hi : i < 8) : zMet X mX8_isFull yX8_isFull 0 0 0 [.ref (b + 6 + 2 * i)] σ (zI (fun y_ s_ => y_ = (if (kN A i) < 16 then 0 else 1) ∧ s_ = σ)) := by
  obtain ⟨wr, r, m, t, a, f, c0, c1, c2, c3, c4, c5, cw⟩ := h
  obtain ⟨g1, g2, g3, g4, g5⟩ := cw i hi
  have q := qX8_isFull hX g3 g4 (hA.2.2 i hi).1
  skip
  exact q
theorem qW_endOfFirstHandle {X : zX} (hX : X.1.stackTraces = false) {σ : zS} {b i : Nat} {A : zDk} (h : zDA b A σ) (hA : zDw A) (hi : i < 8) : zMet X mX8_endOfFirstHandle yX8_endOfFirstHandle 2 0 0 [.ref (b + 6 + 2 * i)] σ (zI (fun y_ s_ => y_ = zfe (kL A i) 0 (kN A i) ∧ s_ = σ)) := by
  obtain ⟨wr, r, m, t, a, f, c0, c1, c2, c3, c4, c5, cw⟩ := h
  obtain ⟨g1, g2, g3, g4, g5⟩ := cw i hi
  have q := qX8_endOfFirstHandle hX g3 g4 (hA.2.2 i hi).1
  rw [zfe_congr g5 _ 0 (by omega)] at q
  exact q
theorem qW_sumOfSigns {X : zX} (hX : X.1.stackTraces = false) {σ : zS} {b i : Nat} {A : zDk} (h : zDA b A σ) (hA : zDw A) (hi : i < 8) : zMet X mX8_sumOfSigns yX8_sumOfSigns 1 0 0 [.ref (b + 6 + 2 * i)] σ (zI (fun y_ s_ => y_ = zSum (kL A i) (kN A i) ∧ s_ = σ)) := by
  obtain ⟨wr, r, m, t, a, f, c0, c1, c2, c3, c4, c5, cw⟩ := h
  obtain ⟨g1, g2, g3, g4, g5⟩ := cw i hi
  have q := qX8_sumOfSigns hX g3 g4 (hA.2.2 i hi).1
  rw [zSum_congr g5] at q
  exact q
theorem qW_endOf {X : zX} (hX : X.1.stackTraces = false) {σ : zS} {b i : Nat} {A : zDk} (h : zDA b A σ) (hA : zDw A) (hi : i < 8) (p : Int32) : zMet X mX8_endOf yX8_endOf 1 0 0 [.ref (b + 6 + 2 * i), .int p] σ (zI (fun y_ s_ => y_ = zEnd (kL A i) p (kN A i) ∧ s_ = σ)) := by
  obtain ⟨wr, r, m, t, a, f, c0, c1, c2, c3, c4, c5, cw⟩ := h
  obtain ⟨g1, g2, g3, g4, g5⟩ := cw i hi
  have q := qX8_endOf hX g3 g4 (hA.2.2 i hi).1 p
  rw [zEnd_congr p g5] at q
  exact q
theorem qW_isPure {X : zX} (hX : X.1.stackTraces = false) {σ : zS} {b i : Nat} {A : zDk} (h : zDA b A σ) (hA : zDw A) (hi : i < 8) : zMet X mX8_isPure yX8_isPure 2 0 0 [.ref (b + 6 + 2 * i)] σ (zI (fun y_ s_ => y_ = zPure (kL A i) (kN A i) ∧ s_ = σ)) := by
  obtain ⟨wr, r, m, t, a, f, c0, c1, c2, c3, c4, c5, cw⟩ := h
  obtain ⟨g1, g2, g3, g4, g5⟩ := cw i hi
  have q := qX8_isPure hX g3 g4 (hA.2.2 i hi).1
  rw [zPure_congr g5] at q
  exact q
theorem qW_countCycles {X : zX} (hX : X.1.stackTraces = false) {σ : zS} {b i : Nat} {A : zDk} (h : zDA b A σ) (hA : zDw A) (hi : i < 8) : zMet X mX8_countCycles yX8_countCycles 3 0 0 [.ref (b + 6 + 2 * i)] σ (zI (fun y_ s_ => y_ = zCyc (kL A i) (kN A i) 5 ∧ s_ = σ)) := by
  obtain ⟨wr, r, m, t, a, f, c0, c1, c2, c3, c4, c5, cw⟩ := h
  obtain ⟨g1, g2, g3, g4, g5⟩ := cw i hi
  have q := qX8_countCycles hX g3 g4 (hA.2.2 i hi).1
  rw [zCyc_congr g5] at q
  exact q
theorem qW_sumOfCrossings {X : zX} (hX : X.1.stackTraces = false) {σ : zS} {b i : Nat} {A : zDk} (h : zDA b A σ) (hA : zDw A) (hi : i < 8) (p q : Int32) : zMet X mX8_sumOfCrossings yX8_sumOfCrossings 1 0 0 [.ref (b + 6 + 2 * i), .int p, .int q] σ (zI (fun y_ s_ => y_ = (zCr (kL A i) p q (kN A i)).2.2 ∧ s_ = σ)) := by
  obtain ⟨wr, r, m, t, a, f, c0, c1, c2, c3, c4, c5, cw⟩ := h
  obtain ⟨g1, g2, g3, g4, g5⟩ := cw i hi
  have q_ := qX8_sumOfCrossings hX g3 g4 (hA.2.2 i hi).1 p q
  rw [zCr_congr p q g5] at q_
  exact q_
theorem qW_append {X : zX} (hX : X.1.stackTraces = false) {σ : zS} {b i : Nat} {A : zDk} (l : Int32) (h : zDA b A σ) (hA : zDw A) (hi : i < 8) (hn : kN A i < 16) : zMet X mX8_append yX8_append 0 0 0 [.ref (b + 6 + 2 * i), .int l] σ (zV (fun s => zFr σ s (zIn b) ∧ zDA b (aWord A i (kN A i + 1) (upd (kL A i) (kN A i) l)) s)) := by
  have h' := h
  obtain ⟨wr, r, m, t, a, f, c0, c1, c2, c3, c4, c5, cw⟩ := h
  obtain ⟨g1, g2, g3, g4, g5⟩ := cw i hi
  refine (qX8_append hX l (by omega) g3 g4 hn).mono (fun o_ s_ q => ?_)
  obtain ⟨q0, q1, q2, q3⟩ := q
  exact ⟨q0, q1.w (by intro q hq; unfold zIn; omega), h'.word q1 hi q2 q3 (fun k hk => by simp only [upd]; split; rfl; exact g5 k (by omega))⟩
theorem qW_removeLast {X : zX} (hX : X.1.stackTraces = false) {σ : zS} {b i : Nat} {A : zDk} (h : zDA b A σ) (hA : zDw A) (hi : i < 8) (hn : 0 < kN A i) : zMet X mX8_removeLast yX8_removeLast 0 0 0 [.ref (b + 6 + 2 * i)] σ (zI (fun y_ s => y_ = kL A i (kN A i - 1) ∧ zFr σ s (zIn b) ∧ zDA b (aWord A i (kN A i - 1) (kL A i)) s)) := by
  have h' := h
  obtain ⟨wr, r, m, t, a, f, c0, c1, c2, c3, c4, c5, cw⟩ := h
  obtain ⟨g1, g2, g3, g4, g5⟩ := cw i hi
  refine (qX8_removeLast hX (by omega) g3 g4 (hA.2.2 i hi).1 hn).mono (fun o_ s_ q => ?_)
  obtain ⟨x, q0, q1, q2, q3, q4⟩ := q
  exact ⟨x, q0, q1.trans (g5 _ (by omega)), q2.w (by intro q hq; unfold zIn; omega), h'.word q2 hi q3 q4 (fun k hk => g5 k (by omega))⟩
theorem qW_removePairs {X : zX} (hX : X.1.stackTraces = false) {σ : zS} {b i : Nat} {A : zDk} (h : zDA b A σ) (hA : zDw A) (hi : i < 8) : zMet X mX8_removePairs yX8_removePairs 0 0 0 [.ref (b + 6 + 2 * i)] σ (zI (fun y_ s => y_ = nI (kN A i - (zRP (kL A i) (kN A i)).1) ∧ zFr σ s (zIn b) ∧ zDA b (aWord A i (zRP (kL A i) (kN A i)).1 (zRP (kL A i) (kN A i)).2) s)) := by
  have h' := h
  obtain ⟨wr, r, m, t, a, f, c0, c1, c2, c3, c4, c5, cw⟩ := h
  obtain ⟨g1, g2, g3, g4, g5⟩ := cw i hi
  obtain ⟨e1, e2⟩ := zRP_congr g5 (kN A i) (Nat.le_refl _)
  refine (qX8_removePairs hX (by omega) g3 g4 (hA.2.2 i hi).1).mono (fun o_ s_ q => ?_)
  obtain ⟨x, q0, q1, q2, q3, q4⟩ := q
  rw [e1] at q1 q3
  exact ⟨x, q0, q1, q2.w (by intro q hq; unfold zIn; omega), h'.word q2 hi q3 q4 (fun k hk => e2 k (by have := zRP_le (kL A i) (kN A i); omega))⟩
theorem qW_copyRow {X : zX} (hX : X.1.stackTraces = false) {σ : zS} {b i c N m' : Nat} {g : Nat → Int32} {A : zDk} (h : zDA b A σ) (hi : i < 8) (hc : σ.1 c = .inl (0, N, .inl g)) (hcb : c < b ∨ b + 22 ≤ c) (hm : m' ≤ 16) (hN : m' ≤ N) (hN2 : N < 2 ^ 31) : zMet X mX8_copyRow yX8_copyRow 1 0 0 [.ref (b + 6 + 2 * i), .ref c, .int (nI m')] σ (zV (fun s => zFr σ s (zIn b) ∧ zDA b (aWord A i m' g) s)) := by
  have h' := h
  obtain ⟨wr, r, m, t, a, f, c0, c1, c2, c3, c4, c5, cw⟩ := h
  obtain ⟨g1, g2, g3, g4, g5⟩ := cw i hi
  refine (qX8_copyRow hX g3 g4 hc (by omega) (by omega) (by omega) hm hN hN2).mono (fun o_ s_ q => ?_)
  obtain ⟨q0, q1, q2, q3⟩ := q
  exact ⟨q0, q1.w (by intro q hq; unfold zIn; omega), h'.word q1 hi q2 q3 (fun k hk => if_pos hk)⟩
theorem qR_relaxWord {X : zX} (hX : X.1.stackTraces = false) {σ : zS} {b i r_ : Nat} {A : zDk} (hr : zRx r_ σ) (h : zDA b A σ) (hA : zDw A) (hi : i < 8) (hd : r_ + 3 ≤ b ∨ b + 22 ≤ r_) : zMet X mX6_relaxWord yX6_relaxWord 4 0 0 [.ref r_, .ref (b + 6 + 2 * i)] σ (zV (fun s => zFr σ s (fun q => r_ ≤ q ∧ q < r_ + 3) ∧ zRo r_ (zRn 2000 [] (zWd A i)) s)) := by
  obtain ⟨wr, r, m, t, a, f, c0, c1, c2, c3, c4, c5, cw⟩ := h
  obtain ⟨g1, g2, g3, g4, g5⟩ := cw i hi
  obtain ⟨f1, f2, v2, v3, v4, v5, r0, r1, r2⟩ := hr
  have q := qX6_relaxWord hX (by omega) (by omega) (by omega) r0 r1 r2 g3 g4 (hA.2.2 i hi).1 (by omega) (by omega) (by omega) (by omega) (by rw [zP_congr g5]; exact hA.wd hi)
  rw [zP_congr g5] at q
  refine q.mono (fun o_ s_ q => ⟨q.1, q.2.1.w (by intro q hq; omega), q.2.2⟩)
theorem qR_relaxQuotient {X : zX} (hX : X.1.stackTraces = false) {σ : zS} {b i j r_ : Nat} {A : zDk} (hr : zRx r_ σ) (h : zDA b A σ) (hA : zDw A) (hi : i < 8) (hj : j < 8) (hd : r_ + 3 ≤ b ∨ b + 22 ≤ r_) : zMet X mX6_relaxQuotient yX6_relaxQuotient 4 0 0 [.ref r_, .ref (b + 6 + 2 * i), .ref (b + 6 + 2 * j)] σ (zV (fun s => zFr σ s (fun q => r_ ≤ q ∧ q < r_ + 3) ∧ zRo r_ (zRn 2000 [] (zWq A i j)) s)) := by
  obtain ⟨wr, r, m, t, a, f, c0, c1, c2, c3, c4, c5, cw⟩ := h
  obtain ⟨g1, g2, g3, g4, g5⟩ := cw i hi
  obtain ⟨k1, k2, k3, k4, k5⟩ := cw j hj
  obtain ⟨f1, f2, v2, v3, v4, v5, r0, r1, r2⟩ := hr
  have e := zQw_congr g5 k5
  have q := qX6_relaxQuotient hX (by omega) (by omega) (by omega) r0 r1 r2 g3 g4 (hA.2.2 i hi).1 (by omega) (by omega) (by omega) (by omega) k3 k4 (hA.2.2 j hj).1 (by omega) (by omega) (by omega) (by omega) (by omega) (by omega) (by rw [e]; exact hA.wq hi hj)
  rw [e] at q
  refine q.mono (fun o_ s_ q => ⟨q.1, q.2.1.w (by intro q hq; omega), q.2.2⟩)
theorem qC_drawWord {X : zX} (hX : X.1.stackTraces = false) {σ : zS} {b i v : Nat} {A : zDk} (hv : zCu v σ) (h : zDA b A σ) (hA : zDw A) (hi : i < 8) (hd : v + 2 ≤ b ∨ b + 22 ≤ v) (hB : zBw (zWd A i)) : zMet X mX2_drawWord yX2_drawWord 3 0 0 [.ref v, .ref (b + 6 + 2 * i)] σ (zV (fun s => zFr σ s (fun q => q = v + 1) ∧ zCo v (zcv z0 (zWd A i)) s)) := by
  obtain ⟨wr, r, m, t, a, f, c0, c1, c2, c3, c4, c5, cw⟩ := h
  obtain ⟨g1, g2, g3, g4, g5⟩ := cw i hi
  obtain ⟨w, r0, r1⟩ := hv
  have q := qX2_drawWord hX (by omega) r0 r1 g3 g4 (hA.2.2 i hi).1 (by omega) (by omega) (by rw [zP_congr g5]; exact hA.wd hi) (by rw [zP_congr g5]; exact hB)
  rw [zP_congr g5] at q
  refine q.mono (fun o_ s_ q => ?_)
  obtain ⟨q0, q1, w1, q2, q3⟩ := q
  exact ⟨q0, q1, w1, q2, q1.get (by omega) r0, q3⟩
theorem qC_drawQuotient {X : zX} (hX : X.1.stackTraces = false) {σ : zS} {b i j v : Nat} {A : zDk} (hv : zCu v σ) (h : zDA b A σ) (hA : zDw A) (hi : i < 8) (hj : j < 8) (hd : v + 2 ≤ b ∨ b + 22 ≤ v) (hB : zBw (zWq A i j)) : zMet X mX2_drawQuotient yX2_drawQuotient 3 0 0 [.ref v, .ref (b + 6 + 2 * i), .ref (b + 6 + 2 * j)] σ (zV (fun s => zFr σ s (fun q => q = v + 1) ∧ zCo v (zcv z0 (zWq A i j)) s)) := by
  obtain ⟨wr, r, m, t, a, f, c0, c1, c2, c3, c4, c5, cw⟩ := h
  obtain ⟨g1, g2, g3, g4, g5⟩ := cw i hi
  obtain ⟨k1, k2, k3, k4, k5⟩ := cw j hj
  obtain ⟨w, r0, r1⟩ := hv
  have e := zQw_congr g5 k5
  have q := qX2_drawQuotient hX (by omega) r0 r1 g3 g4 (hA.2.2 i hi).1 (by omega) (by omega) k3 k4 (hA.2.2 j hj).1 (by omega) (by omega) (by rw [e]; exact hA.wq hi hj) (by rw [e]; exact hB)
  rw [e] at q
  refine q.mono (fun o_ s_ q => ?_)
  obtain ⟨q0, q1, w1, q2, q3⟩ := q
  exact ⟨q0, q1, w1, q2, q1.get (by omega) r0, q3⟩
theorem qC_signOfFirst {X : zX} (hX : X.1.stackTraces = false) {σ : zS} {v : Nat} {W : Nat → Int} (hv : zCo v W σ) (hB : zBd 4611686018427387904 W) : zMet X mX2_signOfFirst yX2_signOfFirst 1 0 0 [.ref v] σ (zI (fun y_ s_ => y_ = zsf W ∧ s_ = σ)) := by
  obtain ⟨w, hw, r0, r1⟩ := hv
  have q := qX2_signOfFirst hX r0 r1 (fun k hk => by rw [hw k hk]; exact hB k hk)
  rw [zsf_sm hw] at q
  exact q
theorem zSmb_congr {w w1 W W1 : Nat → Int} (h : zSm w W) (h2 : zSm w1 W1) : zSmb w w1 = zSmb W W1 := by
  have key : zSm w w1 ↔ zSm W W1 := by
    constructor
    · intro q k hk; rw [← h k hk, ← h2 k hk]; exact q k hk
    · intro q k hk; rw [h k hk, h2 k hk]; exact q k hk
  rw [Bool.eq_iff_iff, zSmb_iff, zSmb_iff]; exact key
theorem qC_isSameAs {X : zX} (hX : X.1.stackTraces = false) {σ : zS} {v v2 : Nat} {W W2 : Nat → Int} (hv : zCo v W σ) (hv2 : zCo v2 W2 σ) (hB : zBd 4611686018427387904 W) (hB2 : zBd 4611686018427387904 W2) : zMet X mX2_isSameAs yX2_isSameAs 0 0 0 [.ref v, .ref v2] σ (zI (fun y_ s_ => y_ = (if zSmb W W2 = true then 1 else 0) ∧ s_ = σ)) := by
  obtain ⟨w, hw, r0, r1⟩ := hv
  obtain ⟨w2, hw2, t0, t1⟩ := hv2
  have q := qX2_isSameAs hX r0 r1 t0 t1 (fun k hk => by rw [hw k hk]; exact hB k hk) (fun k hk => by rw [hw2 k hk]; exact hB2 k hk)
  rw [zSmb_congr hw hw2] at q
  exact q
