def aSetR (A : zDk) (i : Nat) (v : Int32) : zDk := (kC A, kP A, upd (kR A) i v, kM A, kT A, kA A, kN A, kL A)
def aSetT (A : zDk) (i : Nat) (v : Int32) : zDk := (kC A, kP A, kR A, kM A, upd (kT A) i v, kA A, kN A, kL A)
def aSetA (A : zDk) (i : Nat) (v : Int32) : zDk := (kC A, kP A, kR A, kM A, kT A, upd (kA A) i v, kN A, kL A)
theorem zDA.setR {b i : Nat} {A : zDk} {σ s : zS} {v : Int32} {g : Nat → Int32} (h : zDA b A σ) (h1 : σ.1 (b + 2) = .inl (0, 8, .inl g)) (h2 : s.1 (b + 2) = .inl (0, 8, .inl (upd g i v))) (F : zFr σ s (fun q => q = (b + 2))) : zDA b (aSetR A i v) s := by
  obtain ⟨wr, r, m, t, a, f, c0, c1, c2, c3, c4, c5, cw⟩ := h
  have e : g = r := by
    have q := h1.symm.trans c2
    injection q with q; injection q with q1 q2; injection q2 with q2 q3; injection q3
  subst e
  refine ⟨wr, (upd g i v), m, t, a, f, F.get (by omega) c0, F.get (by omega) c1, h2, F.get (by omega) c3, F.get (by omega) c4, F.get (by omega) c5, fun j hj => ?_⟩
  obtain ⟨g1, g2, g3, g4, g5⟩ := cw j hj
  exact ⟨g1, ⟨by simp only [upd, g2.1]; rfl, g2.2⟩, F.get (by omega) g3, F.get (by omega) g4, g5⟩
theorem zDA.setT {b i : Nat} {A : zDk} {σ s : zS} {v : Int32} {g : Nat → Int32} (h : zDA b A σ) (h1 : σ.1 (b + 4) = .inl (2, 8, .inl g)) (h2 : s.1 (b + 4) = .inl (2, 8, .inl (upd g i v))) (F : zFr σ s (fun q => q = (b + 4))) : zDA b (aSetT A i v) s := by
  obtain ⟨wr, r, m, t, a, f, c0, c1, c2, c3, c4, c5, cw⟩ := h
  have e : g = t := by
    have q := h1.symm.trans c4
    injection q with q; injection q with q1 q2; injection q2 with q2 q3; injection q3
  subst e
  refine ⟨wr, r, m, (upd g i v), a, f, F.get (by omega) c0, F.get (by omega) c1, F.get (by omega) c2, F.get (by omega) c3, h2, F.get (by omega) c5, fun j hj => ?_⟩
  obtain ⟨g1, g2, g3, g4, g5⟩ := cw j hj
  exact ⟨g1, ⟨g2.1, g2.2.1, by simp only [upd, g2.2.2.1]; rfl, g2.2.2.2⟩, F.get (by omega) g3, F.get (by omega) g4, g5⟩
theorem zDA.setA {b i : Nat} {A : zDk} {σ s : zS} {v : Int32} {g : Nat → Int32} (h : zDA b A σ) (h1 : σ.1 (b + 5) = .inl (2, 8, .inl g)) (h2 : s.1 (b + 5) = .inl (2, 8, .inl (upd g i v))) (F : zFr σ s (fun q => q = (b + 5))) : zDA b (aSetA A i v) s := by
  obtain ⟨wr, r, m, t, a, f, c0, c1, c2, c3, c4, c5, cw⟩ := h
  have e : g = a := by
    have q := h1.symm.trans c5
    injection q with q; injection q with q1 q2; injection q2 with q2 q3; injection q3
  subst e
  refine ⟨wr, r, m, t, (upd g i v), f, F.get (by omega) c0, F.get (by omega) c1, F.get (by omega) c2, F.get (by omega) c3, F.get (by omega) c4, h2, fun j hj => ?_⟩
  obtain ⟨g1, g2, g3, g4, g5⟩ := cw j hj
  exact ⟨g1, ⟨g2.1, g2.2.1, g2.2.2.1, by simp only [upd, g2.2.2.2]; rfl⟩, F.get (by omega) g3, F.get (by omega) g4, g5⟩
theorem zDA.wcg {b i n : Nat} {A : zDk} {s : zS} {f g : Nat → Int32} (h : zDA b (aWord A i n f) s) (e : ∀ k, k < n → f k = g k) : zDA b (aWord A i n g) s := by
  obtain ⟨wr, r, m, t, a, f0, c0, c1, c2, c3, c4, c5, cw⟩ := h
  refine ⟨wr, r, m, t, a, f0, c0, c1, c2, c3, c4, c5, fun j hj => ?_⟩
  obtain ⟨g1, g2, g3, g4, g5⟩ := cw j hj
  refine ⟨g1, g2, g3, g4, fun k hk => ?_⟩
  have q := g5 k hk
  by_cases e1 : j = i
  · subst e1
    have hk' : k < n := by rw [show kN (aWord A j n g) j = n from zuN_at _ _ _] at hk; exact hk
    rw [q, show kL (aWord A j n f) j = f from zuL_at _ _ _, show kL (aWord A j n g) j = g from zuL_at _ _ _]; exact e k hk'
  · rw [q, show kL (aWord A i n f) j = kL A j from zuL_ne _ _ e1, show kL (aWord A i n g) j = kL A j from zuL_ne _ _ e1]
theorem zP_wv {f : Nat → Int32} {n : Nat} {W : List Int32} (h : zP f n = W) : W.length = n ∧ ∀ k, k < n → f k = wv W k := by
  subst h
  exact ⟨zP_len f n, fun k hk => (zP_get hk).symm⟩
theorem zlm_congr {f g : Nat → Int32} : ∀ {n : Nat}, (∀ k, k < n → f k = g k) → zlm f n = zlm g n
  | 0, _ => rfl
  | n + 1, h => by simp only [zlm]; rw [zlm_congr (n := n) (fun k hk => h k (by omega)), h n (by omega)]
/-- the sign of a relaxed word -/
def zsW (W : List Int32) : Int32 := zsg (zlm (wv W) W.length).toInt64
def zDt (A : zDk) (c k : Nat) (o : Int32) : Int32 := if o = 1 then (if c = 0 then 8 else 16) else if o = 2 ∨ o = 6 then kR A k else if o = 5 then nI (kN A k) else nI k
def zTg (A : zDk) (k : Nat) : Int32 := if zPure (kL A k) (kN A k) = 0 ∨ 2 < zSum (kL A k) (kN A k) ∨ zSum (kL A k) (kN A k) < -2 then 1 else 0
/-- a case's curve -/
def zcw (A : zDk) (k : Nat) : Nat → Int := zcv z0 (zWd A k)
def zmk (A : zDk) (i : Nat) : Nat := (kM A i).toNatClampNeg
theorem zDw.mk {A : zDk} (h : zDw A) {i : Nat} (hi : i < 8) : zmk A i < 8 ∧ kM A i = nI (zmk A i) := by
  obtain ⟨c, hc, e⟩ := (h.2.2 i hi).2.2.2.2.2
  have : zmk A i = c := by unfold zmk; rw [e, nI_clamp (by omega)]
  rw [this]; exact ⟨hc, e⟩
/-- the first precedent from i on, j places left, that has the braid of a case -/
def zPfi (A : zDk) (k : Nat) (i : Nat) : Nat → Int32
  | 0 => -1
  | j + 1 => if zSmb (zcw A k) (zcw A (zmk A i)) = true then nI i else zPfi A k (i + 1) j
def zPf (A : zDk) (k : Nat) : Int32 := zPfi A k 0 (kP A)
theorem zPfi_at (A : zDk) (k : Nat) : ∀ j i : Nat, zPfi A k i j = -1 ∨ ∃ p, i ≤ p ∧ p < i + j ∧ zPfi A k i j = nI p ∧ zSmb (zcw A k) (zcw A (zmk A p)) = true
  | 0, i => Or.inl rfl
  | j + 1, i => by
    simp only [zPfi]
    by_cases h : zSmb (zcw A k) (zcw A (zmk A i)) = true
    · rw [if_pos h]; exact Or.inr ⟨i, Nat.le_refl _, by omega, rfl, h⟩
    · rw [if_neg h]
      rcases zPfi_at A k j (i + 1) with h1 | ⟨p, h1, h2, h3, h4⟩
      · exact Or.inl h1
      · exact Or.inr ⟨p, by omega, by omega, h3, h4⟩
def aVer (A : zDk) (k : Nat) : zDk := if zPf A k = -1 then aSetR (aPrec A k (zTg A k)) k (nI (kP A)) else aSetR A k (zPf A k)
def aRev (A : zDk) (p : Nat) : zDk := if zsf (zcw A (zmk A p)) = 1 then aSetT (aSetA A p 1) p (if kT A p = 0 then 1 else 0) else aSetA A p 1
def zRv (A : zDk) (p : Nat) : Int32 := if zsf (zcw A (zmk A p)) = 1 then nI (zCt (fun i => decide (kR A i = nI p)) (kC A)) else 0
theorem zDw.setA {A : zDk} (h : zDw A) {p : Nat} : zDw (aSetA A p 1) := by
  refine ⟨h.1, h.2.1, fun i hi => ?_⟩
  obtain ⟨h1, h2, h3, h4, h5, h6⟩ := h.2.2 i hi
  refine ⟨h1, h2, h3, h4, ?_, h6⟩
  show upd (kA A) p 1 i = 0 ∨ upd (kA A) p 1 i = 1
  simp only [upd]; split
  · exact Or.inr rfl
  · exact h5
theorem zDw.setT {A : zDk} (h : zDw A) {p : Nat} {v : Int32} (hv : v = 0 ∨ v = 1) : zDw (aSetT A p v) := by
  refine ⟨h.1, h.2.1, fun i hi => ?_⟩
  obtain ⟨h1, h2, h3, h4, h5, h6⟩ := h.2.2 i hi
  refine ⟨h1, h2, h3, ?_, h5, h6⟩
  show upd (kT A) p v i = 0 ∨ upd (kT A) p v i = 1
  simp only [upd]; split
  · exact hv
  · exact h4
theorem zDw.prec {A : zDk} (h : zDw A) (hP : kP A < 8) {c : Nat} (hc : c < 8) {v : Int32} (hv : v = 0 ∨ v = 1) : zDw (aPrec A c v) := by
  refine ⟨h.1, (show kP A + 1 ≤ 8 by omega), fun i hi => ?_⟩
  obtain ⟨h1, h2, h3, h4, h5, h6⟩ := h.2.2 i hi
  refine ⟨h1, h2, h3, ?_, ?_, ?_⟩
  · show upd (kT A) (kP A) v i = 0 ∨ upd (kT A) (kP A) v i = 1
    simp only [upd]; split
    · exact hv
    · exact h4
  · show upd (kA A) (kP A) 0 i = 0 ∨ upd (kA A) (kP A) 0 i = 1
    simp only [upd]; split
    · exact Or.inl rfl
    · exact h5
  · show ∃ c_1, c_1 < 8 ∧ upd (kM A) (kP A) (nI c) i = nI c_1
    simp only [upd]; split
    · exact ⟨c, hc, rfl⟩
    · exact h6
theorem zTg01 (A : zDk) (k : Nat) : zTg A k = 0 ∨ zTg A k = 1 := by unfold zTg; split; exact Or.inr rfl; exact Or.inl rfl
set_option maxHeartbeats 400000 in
set_option maxRecDepth 100000 in
theorem qX5_detailOf1 {X : zX} (hX : X.1.stackTraces = false) {σ : zS} {x c k : Nat} {A : zDk} (hj : σ.1 (x + 1) = .inr (3, [.ref (x + 2), .ref (x + 24), .ref (x + 27), .ref (x + 29)])) (h : zDA (x + 2) A σ) (hA : zDw A) (hQ : ∀ i j : Nat, i < 7 → j < 7 → zQ X i = zQ X j → i = j) (hc7 : c < 7) : zMet X mX5_detailOf yX5_detailOf 0 0 0 [.ref ((x + 1)), .int 1, .ref ((zQ X c)), .int (nI k)] σ (zI (fun y_ s_ => y_ = zDt A c k 1 ∧ s_ = σ)) := by
  refine zMet_of (ls := [some (.ref ((x + 1))), some (.int 1), some (.ref ((zQ X c))), some (.int (nI k))]) rfl (by decide +kernel) rfl (fun h => by cases h) hX (Nat.le_of_ble_eq_true rfl) rfl ?_
  refine zr_iload_n dX5_detailOf_0 rfl ?_
  refine zr_tableIn (off := 39) (tgt := 40) dX5_detailOf_1 (by decide) (by decide) (by decide) (by decide) ?_
  refine zr_aload_n dX5_detailOf_40 rfl ?_
  refine zr_enum (i := 0) dX5_detailOf_41 (by decide) rfl fX5_35 ?_
  refine zr_acmp_ne (tgt := 52) dX5_detailOf_44 (by decide) (fun c_44 => ?_) (fun c_44 => ?_)
  · refine zr_bipush (v := 16) dX5_detailOf_52 (by decide) ?_
    exact zr_ireturn dX5_detailOf_54 rfl (rfl) (⟨_, rfl, by unfold zDt; rw [if_pos rfl]; rw [if_neg (fun e => c_44 (by rw [e]))], rfl⟩)
  · refine zr_bipush (v := 8) dX5_detailOf_47 (by decide) ?_
    refine zr_goto (tgt := 54) dX5_detailOf_49 (by decide) ?_
    exact zr_ireturn dX5_detailOf_54 rfl (rfl) (⟨_, rfl, by unfold zDt; rw [if_pos rfl]; rw [if_pos (hQ c 0 hc7 (by decide) c_44)], rfl⟩)

set_option maxHeartbeats 400000 in
set_option maxRecDepth 100000 in
theorem qX5_detailOf2 {X : zX} (hX : X.1.stackTraces = false) {σ : zS} {x c k : Nat} {A : zDk} (hj : σ.1 (x + 1) = .inr (3, [.ref (x + 2), .ref (x + 24), .ref (x + 27), .ref (x + 29)])) (h : zDA (x + 2) A σ) (hA : zDw A) (hQ : ∀ i j : Nat, i < 7 → j < 7 → zQ X i = zQ X j → i = j) (hc7 : c < 7) (hk : k < 8) : zMet X mX5_detailOf yX5_detailOf 0 0 0 [.ref ((x + 1)), .int 2, .ref ((zQ X c)), .int (nI k)] σ (zI (fun y_ s_ => y_ = zDt A c k 2 ∧ s_ = σ)) := by
  refine zMet_of (ls := [some (.ref ((x + 1))), some (.int 2), some (.ref ((zQ X c))), some (.int (nI k))]) rfl (by decide +kernel) rfl (fun h => by cases h) hX (Nat.le_of_ble_eq_true rfl) rfl ?_
  refine zr_iload_n dX5_detailOf_0 rfl ?_
  refine zr_tableIn (off := 54) (tgt := 55) dX5_detailOf_1 (by decide) (by decide) (by decide) (by decide) ?_
  refine zr_aload_n dX5_detailOf_55 rfl ?_
  refine zr_getfield dX5_detailOf_56 fX5_12 hj rfl (by decide) ?_
  obtain ⟨wr1, rr1, mr1, tr1, ar1, fr1, ca1, cb1, cc1, cd1, ce1, cf1, cw1⟩ := id h
  refine zr_getfield dX5_detailOf_59 fX5_95 ca1 rfl (by decide) ?_
  refine zr_iload_n dX5_detailOf_62 rfl ?_
  refine zr_iaload dX5_detailOf_63 cc1 (vp_in_nI (n := k) (by omega) (by omega)) ?_
  rw [nI_clamp (n := k) (by omega)]
  refine zr_eqi (x' := (kR A k)) (cw1 k (by omega)).2.1.1 ?_
  exact zr_ireturn dX5_detailOf_64 rfl (rfl) (⟨_, rfl, by unfold zDt; rw [if_neg (by decide), if_pos (by decide)], rfl⟩)

set_option maxHeartbeats 400000 in
set_option maxRecDepth 100000 in
theorem qX5_detailOf3 {X : zX} (hX : X.1.stackTraces = false) {σ : zS} {x c k : Nat} {A : zDk} (hj : σ.1 (x + 1) = .inr (3, [.ref (x + 2), .ref (x + 24), .ref (x + 27), .ref (x + 29)])) (h : zDA (x + 2) A σ) (hA : zDw A) (hQ : ∀ i j : Nat, i < 7 → j < 7 → zQ X i = zQ X j → i = j) (hc7 : c < 7) : zMet X mX5_detailOf yX5_detailOf 0 0 0 [.ref ((x + 1)), .int 3, .ref ((zQ X c)), .int (nI k)] σ (zI (fun y_ s_ => y_ = zDt A c k 3 ∧ s_ = σ)) := by
  refine zMet_of (ls := [some (.ref ((x + 1))), some (.int 3), some (.ref ((zQ X c))), some (.int (nI k))]) rfl (by decide +kernel) rfl (fun h => by cases h) hX (Nat.le_of_ble_eq_true rfl) rfl ?_
  refine zr_iload_n dX5_detailOf_0 rfl ?_
  refine zr_tableIn (off := 77) (tgt := 78) dX5_detailOf_1 (by decide) (by decide) (by decide) (by decide) ?_
  refine zr_iload_n dX5_detailOf_78 rfl ?_
  exact zr_ireturn dX5_detailOf_79 rfl (rfl) (⟨_, rfl, by unfold zDt; rw [if_neg (by decide), if_neg (by decide), if_neg (by decide)], rfl⟩)

set_option maxHeartbeats 400000 in
set_option maxRecDepth 100000 in
theorem qX5_detailOf4 {X : zX} (hX : X.1.stackTraces = false) {σ : zS} {x c k : Nat} {A : zDk} (hj : σ.1 (x + 1) = .inr (3, [.ref (x + 2), .ref (x + 24), .ref (x + 27), .ref (x + 29)])) (h : zDA (x + 2) A σ) (hA : zDw A) (hQ : ∀ i j : Nat, i < 7 → j < 7 → zQ X i = zQ X j → i = j) (hc7 : c < 7) : zMet X mX5_detailOf yX5_detailOf 0 0 0 [.ref ((x + 1)), .int 4, .ref ((zQ X c)), .int (nI k)] σ (zI (fun y_ s_ => y_ = zDt A c k 4 ∧ s_ = σ)) := by
  refine zMet_of (ls := [some (.ref ((x + 1))), some (.int 4), some (.ref ((zQ X c))), some (.int (nI k))]) rfl (by decide +kernel) rfl (fun h => by cases h) hX (Nat.le_of_ble_eq_true rfl) rfl ?_
  refine zr_iload_n dX5_detailOf_0 rfl ?_
  refine zr_tableIn (off := 77) (tgt := 78) dX5_detailOf_1 (by decide) (by decide) (by decide) (by decide) ?_
  refine zr_iload_n dX5_detailOf_78 rfl ?_
  exact zr_ireturn dX5_detailOf_79 rfl (rfl) (⟨_, rfl, by unfold zDt; rw [if_neg (by decide), if_neg (by decide), if_neg (by decide)], rfl⟩)

set_option maxHeartbeats 400000 in
set_option maxRecDepth 100000 in
theorem qX5_detailOf5 {X : zX} (hX : X.1.stackTraces = false) {σ : zS} {x c k : Nat} {A : zDk} (hj : σ.1 (x + 1) = .inr (3, [.ref (x + 2), .ref (x + 24), .ref (x + 27), .ref (x + 29)])) (h : zDA (x + 2) A σ) (hA : zDw A) (hQ : ∀ i j : Nat, i < 7 → j < 7 → zQ X i = zQ X j → i = j) (hc7 : c < 7) (hk : k < 8) : zMet X mX5_detailOf yX5_detailOf 0 0 0 [.ref ((x + 1)), .int 5, .ref ((zQ X c)), .int (nI k)] σ (zI (fun y_ s_ => y_ = zDt A c k 5 ∧ s_ = σ)) := by
  refine zMet_of (ls := [some (.ref ((x + 1))), some (.int 5), some (.ref ((zQ X c))), some (.int (nI k))]) rfl (by decide +kernel) rfl (fun h => by cases h) hX (Nat.le_of_ble_eq_true rfl) rfl ?_
  refine zr_iload_n dX5_detailOf_0 rfl ?_
  refine zr_tableIn (off := 64) (tgt := 65) dX5_detailOf_1 (by decide) (by decide) (by decide) (by decide) ?_
  refine zr_aload_n dX5_detailOf_65 rfl ?_
  refine zr_getfield dX5_detailOf_66 fX5_12 hj rfl (by decide) ?_
  obtain ⟨wr1, rr1, mr1, tr1, ar1, fr1, ca1, cb1, cc1, cd1, ce1, cf1, cw1⟩ := id h
  refine zr_getfield dX5_detailOf_69 fX5_59 ca1 rfl (by decide) ?_
  refine zr_iload_n dX5_detailOf_72 rfl ?_
  refine zr_aaload6 (b := (x + 2 + 6 + 2 * k)) dX5_detailOf_73 cb1 (vp_in_nI (n := k) (by omega) (by omega)) (by rw [nI_clamp (by omega)]; exact (cw1 k (by omega)).1) ?_
  obtain ⟨we2, wg2, wc2, wl2, wm2⟩ := cw1 k (by omega)
  refine zr_getfield dX5_detailOf_74 fX5_76 wc2 rfl (by decide) ?_
  exact zr_ireturn dX5_detailOf_77 rfl (rfl) (⟨_, rfl, by unfold zDt; rw [if_neg (by decide), if_neg (by decide), if_pos rfl], rfl⟩)

set_option maxHeartbeats 400000 in
set_option maxRecDepth 100000 in
theorem qX5_detailOf6 {X : zX} (hX : X.1.stackTraces = false) {σ : zS} {x c k : Nat} {A : zDk} (hj : σ.1 (x + 1) = .inr (3, [.ref (x + 2), .ref (x + 24), .ref (x + 27), .ref (x + 29)])) (h : zDA (x + 2) A σ) (hA : zDw A) (hQ : ∀ i j : Nat, i < 7 → j < 7 → zQ X i = zQ X j → i = j) (hc7 : c < 7) (hk : k < 8) : zMet X mX5_detailOf yX5_detailOf 0 0 0 [.ref ((x + 1)), .int 6, .ref ((zQ X c)), .int (nI k)] σ (zI (fun y_ s_ => y_ = zDt A c k 6 ∧ s_ = σ)) := by
  refine zMet_of (ls := [some (.ref ((x + 1))), some (.int 6), some (.ref ((zQ X c))), some (.int (nI k))]) rfl (by decide +kernel) rfl (fun h => by cases h) hX (Nat.le_of_ble_eq_true rfl) rfl ?_
  refine zr_iload_n dX5_detailOf_0 rfl ?_
  refine zr_tableIn (off := 54) (tgt := 55) dX5_detailOf_1 (by decide) (by decide) (by decide) (by decide) ?_
  refine zr_aload_n dX5_detailOf_55 rfl ?_
  refine zr_getfield dX5_detailOf_56 fX5_12 hj rfl (by decide) ?_
  obtain ⟨wr1, rr1, mr1, tr1, ar1, fr1, ca1, cb1, cc1, cd1, ce1, cf1, cw1⟩ := id h
  refine zr_getfield dX5_detailOf_59 fX5_95 ca1 rfl (by decide) ?_
  refine zr_iload_n dX5_detailOf_62 rfl ?_
  refine zr_iaload dX5_detailOf_63 cc1 (vp_in_nI (n := k) (by omega) (by omega)) ?_
  rw [nI_clamp (n := k) (by omega)]
  refine zr_eqi (x' := (kR A k)) (cw1 k (by omega)).2.1.1 ?_
  exact zr_ireturn dX5_detailOf_64 rfl (rfl) (⟨_, rfl, by unfold zDt; rw [if_neg (by decide), if_pos (by decide)], rfl⟩)

set_option maxHeartbeats 400000 in
set_option maxRecDepth 100000 in
theorem qX5_looksTangled {X : zX} (hX : X.1.stackTraces = false) {σ : zS} {b k : Nat} {A : zDk} (h : zDA b A σ) (hA : zDw A) (hk : k < 8) : zMet X mX5_looksTangled yX5_looksTangled 3 0 0 [.ref ((b + 6 + 2 * k))] σ (zI (fun y_ s_ => y_ = zTg A k ∧ s_ = σ)) := by
  refine zMet_of (ls := [some (.ref ((b + 6 + 2 * k))), none]) rfl (by decide +kernel) rfl (fun h => by cases h) hX (Nat.le_of_ble_eq_true rfl) rfl ?_
  refine zr_aload_n dX5_looksTangled_0 rfl ?_
  refine zr_pVi [] dX5_looksTangled_1 vX5_141 (qW_sumOfSigns hX (i := k) h hA (by omega)) (zDA.wobj h (by omega)) (by decide) (by decide) (by decide) rfl rfl (Nat.le_of_ble_eq_true rfl) (by decide) rfl ?_
  refine zr_istore_n (ls' := [some (.ref ((b + 6 + 2 * k))), some (.int ((zSum (kL A k) (kN A k))))]) dX5_looksTangled_4 rfl (by decide) rfl ?_
  refine zr_aload_n dX5_looksTangled_5 rfl ?_
  refine zr_pVi [] dX5_looksTangled_6 vX5_144 (qW_isPure hX (i := k) h hA (by omega)) (zDA.wobj h (by omega)) (by decide) (by decide) (by decide) rfl rfl (Nat.le_of_ble_eq_true rfl) (by decide) rfl ?_
  refine zr_if_eq (tgt := 23) dX5_looksTangled_9 (by decide) (fun c_9 => ?_) (fun c_9 => ?_)
  · refine zr_iconst (v := 1) dX5_looksTangled_23 (by decide) ?_
    refine zr_goto (tgt := 28) dX5_looksTangled_24 (by decide) ?_
    exact zr_ireturn dX5_looksTangled_28 rfl (rfl) (⟨_, rfl, by unfold zTg; rw [if_pos (Or.inl c_9)], rfl⟩)
  · refine zr_iload_n dX5_looksTangled_12 rfl ?_
    refine zr_iconst (v := 2) dX5_looksTangled_13 (by decide) ?_
    refine zr_icmp_gt (tgt := 23) dX5_looksTangled_14 (by decide) (fun c_14 => ?_) (fun c_14 => ?_)
    · refine zr_iconst (v := 1) dX5_looksTangled_23 (by decide) ?_
      refine zr_goto (tgt := 28) dX5_looksTangled_24 (by decide) ?_
      exact zr_ireturn dX5_looksTangled_28 rfl (rfl) (⟨_, rfl, by unfold zTg; rw [if_pos (Or.inr (Or.inl c_14))], rfl⟩)
    · refine zr_iload_n dX5_looksTangled_17 rfl ?_
      refine zr_bipush (v := -2) dX5_looksTangled_18 (by decide) ?_
      refine zr_icmp_ge (tgt := 27) dX5_looksTangled_20 (by decide) (fun c_20 => ?_) (fun c_20 => ?_)
      · refine zr_iconst (v := 0) dX5_looksTangled_27 (by decide) ?_
        exact zr_ireturn dX5_looksTangled_28 rfl (rfl) (⟨_, rfl, by unfold zTg; rw [if_neg (fun q => q.elim c_9 (fun q => q.elim c_14 (Int32.not_lt.mpr c_20)))], rfl⟩)
      · refine zr_iconst (v := 1) dX5_looksTangled_23 (by decide) ?_
        refine zr_goto (tgt := 28) dX5_looksTangled_24 (by decide) ?_
        exact zr_ireturn dX5_looksTangled_28 rfl (rfl) (⟨_, rfl, by unfold zTg; rw [if_pos (Or.inr (Or.inr (Int32.not_le.mp c_20)))], rfl⟩)

theorem nar_ite {p : Prop} [Decidable p] : narrow .boolean (.int (if p then 1 else 0)) = .int (if p then 1 else 0) := by split <;> rfl
set_option maxHeartbeats 400000 in
set_option maxRecDepth 100000 in
theorem qX5_sameBraid {X : zX} (hX : X.1.stackTraces = false) {σ : zS} {x : Nat} {A : zDk} {i j : Nat} (hJ : zJd x σ) (h : zDA (x + 2) A σ) (hA : zDw A) (hi : i < 8) (hj8 : j < 8) : zMet X mX5_sameBraid yX5_sameBraid 4 0 0 [.ref ((x + 1)), .int (nI i), .int (nI j)] σ (zI (fun y_ s => y_ = (if zSmb (zcw A i) (zcw A j) = true then 1 else 0) ∧ zFr σ s (zJf x) ∧ zJd x s)) := by
  refine zMet_of (ls := [some (.ref ((x + 1))), some (.int (nI i)), some (.int (nI j))]) rfl (by decide +kernel) rfl (fun h => by cases h) hX (Nat.le_of_ble_eq_true rfl) rfl ?_
  obtain ⟨hj, jr, jk, jc, jo⟩ := id hJ
  obtain ⟨hC8, hP8, hW⟩ := id hA
  refine zr_aload_n dX5_sameBraid_0 rfl ?_
  refine zr_getfield dX5_sameBraid_1 fX5_28 hj rfl (by decide) ?_
  refine zr_aload_n dX5_sameBraid_4 rfl ?_
  refine zr_getfield dX5_sameBraid_5 fX5_12 hj rfl (by decide) ?_
  obtain ⟨wr1, rr1, mr1, tr1, ar1, fr1, ca1, cb1, cc1, cd1, ce1, cf1, cw1⟩ := id h
  refine zr_getfield dX5_sameBraid_8 fX5_59 ca1 rfl (by decide) ?_
  refine zr_iload_n dX5_sameBraid_11 rfl ?_
  refine zr_aaload6 (b := (x + 2 + 6 + 2 * i)) dX5_sameBraid_12 cb1 (vp_in_nI (n := i) (by omega) (by omega)) (by rw [nI_clamp (by omega)]; exact (cw1 i (by omega)).1) ?_
  refine zr_callVv [] dX5_sameBraid_13 vX5_150 (qC_drawWord hX (i := i) jc h hA (by omega) (by omega) (zDw.bw hA (by omega))) (zCu.obj jc) (by decide) (by decide) (by decide) rfl rfl (Nat.le_of_ble_eq_true rfl) (by decide) rfl (fun s_kr2 h_kr2 => ?_)
  obtain ⟨F_kr2, r0_kr2⟩ := h_kr2
  have kh3 : s_kr2.1 (x + 1) = .inr (3, [.ref ((x + 2)), .ref ((x + 24)), .ref ((x + 27)), .ref ((x + 29))]) := zFr.get F_kr2 (by omega) hj
  have kR4 : zDA (x + 2) A s_kr2 := zDA.fr h F_kr2 (by intro q h1 h2 h3; (try simp only [zIn, zJf] at h3); omega)
  have kR5 : zRx (x + 24) s_kr2 := zRx.fr jr F_kr2 (by intro q h1 h2 h3; (try simp only [zIn, zJf] at h3); omega)
  have kR6 : zCu (x + 253) s_kr2 := zCu.fr jk F_kr2 (by intro q h1 h2 h3; (try simp only [zIn, zJf] at h3); omega)
  have kR7 : zCu (x + 29) s_kr2 := zCu.fr jo F_kr2 (by intro q h1 h2 h3; (try simp only [zIn, zJf] at h3); omega)
  have kF8 := zFr.tr zFr.rf (P := zJf x) F_kr2 (by intro q hq; (try simp only [zIn, zJf] at hq); unfold zJf; omega)
  refine zr_aload_n dX5_sameBraid_16 rfl ?_
  refine zr_getfield dX5_sameBraid_17 fX5_32 kh3 rfl (by decide) ?_
  refine zr_aload_n dX5_sameBraid_20 rfl ?_
  refine zr_getfield dX5_sameBraid_21 fX5_12 kh3 rfl (by decide) ?_
  obtain ⟨wr9, rr9, mr9, tr9, ar9, fr9, ca9, cb9, cc9, cd9, ce9, cf9, cw9⟩ := id kR4
  refine zr_getfield dX5_sameBraid_24 fX5_59 ca9 rfl (by decide) ?_
  refine zr_iload_n dX5_sameBraid_27 rfl ?_
  refine zr_aaload6 (b := (x + 2 + 6 + 2 * j)) dX5_sameBraid_28 cb9 (vp_in_nI (n := j) (by omega) (by omega)) (by rw [nI_clamp (by omega)]; exact (cw9 j (by omega)).1) ?_
  refine zr_callVv [] dX5_sameBraid_29 vX5_150 (qC_drawWord hX (i := j) kR7 kR4 hA (by omega) (by omega) (zDw.bw hA (by omega))) (zCu.obj kR7) (by decide) (by decide) (by decide) rfl rfl (Nat.le_of_ble_eq_true rfl) (by decide) rfl (fun s_kr10 h_kr10 => ?_)
  obtain ⟨F_kr10, r0_kr10⟩ := h_kr10
  have kh11 : s_kr10.1 (x + 1) = .inr (3, [.ref ((x + 2)), .ref ((x + 24)), .ref ((x + 27)), .ref ((x + 29))]) := zFr.get F_kr10 (by omega) kh3
  have kR12 : zDA (x + 2) A s_kr10 := zDA.fr kR4 F_kr10 (by intro q h1 h2 h3; (try simp only [zIn, zJf] at h3); omega)
  have kR13 : zRx (x + 24) s_kr10 := zRx.fr kR5 F_kr10 (by intro q h1 h2 h3; (try simp only [zIn, zJf] at h3); omega)
  have kR14 : zCu (x + 253) s_kr10 := zCu.fr kR6 F_kr10 (by intro q h1 h2 h3; (try simp only [zIn, zJf] at h3); omega)
  have kR15 : zCo (x + 27) (zcv z0 (zWd A i)) s_kr10 := zCo.fr r0_kr2 F_kr10 (by intro q h1 h2 h3; (try simp only [zIn, zJf] at h3); omega)
  have kF16 := zFr.tr kF8 F_kr10 (by intro q hq; (try simp only [zIn, zJf] at hq); unfold zJf; omega)
  refine zr_aload_n dX5_sameBraid_32 rfl ?_
  refine zr_getfield dX5_sameBraid_33 fX5_28 kh11 rfl (by decide) ?_
  refine zr_aload_n dX5_sameBraid_36 rfl ?_
  refine zr_getfield dX5_sameBraid_37 fX5_32 kh11 rfl (by decide) ?_
  refine zr_pVi [] dX5_sameBraid_40 vX5_165 (qC_isSameAs hX kR15 r0_kr10 (hA.b1 (by omega)) (hA.b1 (by omega))) (zCo.obj kR15) (by decide) (by decide) (by decide) rfl rfl (Nat.le_of_ble_eq_true rfl) (by decide) rfl ?_
  exact zr_ireturn dX5_sameBraid_43 rfl (nar_ite) (⟨_, rfl, rfl, kF16, ⟨kh11, kR13, kR14, (zCo.cu kR15), (zCo.cu r0_kr10)⟩⟩)

set_option maxHeartbeats 400000 in
set_option maxRecDepth 100000 in
theorem qX5_signOfQuotient {X : zX} (hX : X.1.stackTraces = false) {σ : zS} {x : Nat} {A : zDk} {i j : Nat} (hJ : zJd x σ) (h : zDA (x + 2) A σ) (hA : zDw A) (hi : i < 8) (hj8 : j < 8) : zMet X mX5_signOfQuotient yX5_signOfQuotient 4 0 0 [.ref ((x + 1)), .int (nI i), .int (nI j)] σ (zI (fun y_ s => y_ = zsf (zcv z0 (zWq A i j)) ∧ zFr σ s (zJf x) ∧ zJd x s)) := by
  refine zMet_of (ls := [some (.ref ((x + 1))), some (.int (nI i)), some (.int (nI j))]) rfl (by decide +kernel) rfl (fun h => by cases h) hX (Nat.le_of_ble_eq_true rfl) rfl ?_
  obtain ⟨hj, jr, jk, jc, jo⟩ := id hJ
  obtain ⟨hC8, hP8, hW⟩ := id hA
  refine zr_aload_n dX5_signOfQuotient_0 rfl ?_
  refine zr_getfield dX5_signOfQuotient_1 fX5_28 hj rfl (by decide) ?_
  refine zr_aload_n dX5_signOfQuotient_4 rfl ?_
  refine zr_getfield dX5_signOfQuotient_5 fX5_12 hj rfl (by decide) ?_
  obtain ⟨wr1, rr1, mr1, tr1, ar1, fr1, ca1, cb1, cc1, cd1, ce1, cf1, cw1⟩ := id h
  refine zr_getfield dX5_signOfQuotient_8 fX5_59 ca1 rfl (by decide) ?_
  refine zr_iload_n dX5_signOfQuotient_11 rfl ?_
  refine zr_aaload6 (b := (x + 2 + 6 + 2 * i)) dX5_signOfQuotient_12 cb1 (vp_in_nI (n := i) (by omega) (by omega)) (by rw [nI_clamp (by omega)]; exact (cw1 i (by omega)).1) ?_
  refine zr_aload_n dX5_signOfQuotient_13 rfl ?_
  refine zr_getfield dX5_signOfQuotient_14 fX5_12 hj rfl (by decide) ?_
  refine zr_getfield dX5_signOfQuotient_17 fX5_59 ca1 rfl (by decide) ?_
  refine zr_iload_n dX5_signOfQuotient_20 rfl ?_
  refine zr_aaload6 (b := (x + 2 + 6 + 2 * j)) dX5_signOfQuotient_21 cb1 (vp_in_nI (n := j) (by omega) (by omega)) (by rw [nI_clamp (by omega)]; exact (cw1 j (by omega)).1) ?_
  refine zr_callVv [] dX5_signOfQuotient_22 vX5_169 (qC_drawQuotient hX (i := i) (j := j) jc h hA (by omega) (by omega) (by omega) (zDw.bq hA (by omega) (by omega))) (zCu.obj jc) (by decide) (by decide) (by decide) rfl rfl (Nat.le_of_ble_eq_true rfl) (by decide) rfl (fun s_kr2 h_kr2 => ?_)
  obtain ⟨F_kr2, r0_kr2⟩ := h_kr2
  have kh3 : s_kr2.1 (x + 1) = .inr (3, [.ref ((x + 2)), .ref ((x + 24)), .ref ((x + 27)), .ref ((x + 29))]) := zFr.get F_kr2 (by omega) hj
  have kR4 : zDA (x + 2) A s_kr2 := zDA.fr h F_kr2 (by intro q h1 h2 h3; (try simp only [zIn, zJf] at h3); omega)
  have kR5 : zRx (x + 24) s_kr2 := zRx.fr jr F_kr2 (by intro q h1 h2 h3; (try simp only [zIn, zJf] at h3); omega)
  have kR6 : zCu (x + 253) s_kr2 := zCu.fr jk F_kr2 (by intro q h1 h2 h3; (try simp only [zIn, zJf] at h3); omega)
  have kR7 : zCu (x + 29) s_kr2 := zCu.fr jo F_kr2 (by intro q h1 h2 h3; (try simp only [zIn, zJf] at h3); omega)
  have kF8 := zFr.tr zFr.rf (P := zJf x) F_kr2 (by intro q hq; (try simp only [zIn, zJf] at hq); unfold zJf; omega)
  refine zr_aload_n dX5_signOfQuotient_25 rfl ?_
  refine zr_getfield dX5_signOfQuotient_26 fX5_28 kh3 rfl (by decide) ?_
  refine zr_pVi [] dX5_signOfQuotient_29 vX5_153 (qC_signOfFirst hX r0_kr2 (hA.b2 (by omega) (by omega))) (zCo.obj r0_kr2) (by decide) (by decide) (by decide) rfl rfl (Nat.le_of_ble_eq_true rfl) (by decide) rfl ?_
  exact zr_ireturn dX5_signOfQuotient_32 rfl (rfl) (⟨_, rfl, rfl, kF8, ⟨kh3, kR5, kR6, (zCo.cu r0_kr2), kR7⟩⟩)

