/-! what changes make of the row of numbers -/
theorem zGr.word {A : zDk} {g g1 : Nat → Int32} {i n : Nat} {l : Nat → Int32} (gr : zGr A g) (gA : zGd A) (hi : i < kC A) (hr : kR A i = -1) (hn : n ≤ 16) (e : ∀ q, ¬ (2 + 5 * i ≤ q ∧ q < 2 + 5 * i + 5) → g1 q = g q) (e0 : g1 (2 + 5 * i) = nI n) (e1 : g1 (2 + 5 * i + 1) = g (2 + 5 * i + 1)) (e2 : g1 (2 + 5 * i + 2) = g (2 + 5 * i + 2)) (e3 : ∀ k, k < n → zdl g1 (2 + 5 * i) k = l k) : zGr (aWord A i n l) g1 := by
  obtain ⟨r0, r1, rc, rp⟩ := gr
  obtain ⟨hA, -, hm, -⟩ := gA
  have hC8 := hA.1
  have hP8 := hA.2.1
  refine ⟨(e 0 (by omega)).trans r0, (e 1 (by omega)).trans r1, fun j hj => ?_, fun p hp => ?_⟩
  · have hj' : j < kC A := hj
    by_cases ej : j = i
    · subst ej
      refine ⟨e0.trans (congrArg nI (zuN_at _ _ _).symm), e1.trans (rc j hi).2.1, e2.trans (rc j hi).2.2.1, fun k hk => ?_⟩
      have hk' : k < n := by rw [show kN (aWord A j n l) j = n from zuN_at _ _ _] at hk; exact hk
      rw [e3 k hk', show kL (aWord A j n l) j = l from zuL_at _ _ _]
    · obtain ⟨a1, a2, a3, a4⟩ := rc j hj'
      have n16 := (hA.2.2 j (by omega)).1
      have eN : kN (aWord A i n l) j = kN A j := zuN_ne _ _ ej
      refine ⟨(e _ (by omega)).trans (by rw [eN]; exact a1), (e _ (by omega)).trans a2, (e _ (by omega)).trans a3, fun k hk => ?_⟩
      rw [eN] at hk
      rw [show kL (aWord A i n l) j = kL A j from zuL_ne _ _ ej]
      exact (zdl_cg (e _ (by omega))).trans (a4 k hk)
  · have hp' : p < kP A := hp
    obtain ⟨a1, a2, a3, a4⟩ := rp p hp'
    obtain ⟨b1, b2, b3⟩ := hm p hp'
    have ne : zmk A p ≠ i := fun q => by rw [q, hr] at b3; exact nI_ne p (by omega) b3.symm
    have n16 := (hA.2.2 (zmk A p) (by omega)).1
    have eN : kN (aWord A i n l) (zmk A p) = kN A (zmk A p) := zuN_ne _ _ ne
    refine ⟨(e _ (by omega)).trans (by show _ = nI (kN (aWord A i n l) (zmk A p)); rw [eN]; exact a1), (e _ (by omega)).trans a2, (e _ (by omega)).trans a3, fun k hk => ?_⟩
    replace hk : k < kN (aWord A i n l) (zmk A p) := hk
    rw [eN] at hk
    show _ = kL (aWord A i n l) (zmk A p) k
    rw [show kL (aWord A i n l) (zmk A p) = kL A (zmk A p) from zuL_ne _ _ ne]
    exact (zdl_cg (e _ (by omega))).trans (a4 k hk)
theorem zGr.case {A : zDk} {g g1 : Nat → Int32} (gr : zGr A g) (gA : zGd A) (hc : kC A < 8) (e : ∀ q, q ≠ 0 → ¬ (2 + 5 * kC A ≤ q ∧ q < 2 + 5 * kC A + 5) → g1 q = g q) (e0 : g1 0 = nI (kC A + 1)) (e1 : g1 (2 + 5 * kC A) = 0) (e2 : g1 (2 + 5 * kC A + 1) = 0) (e3 : g1 (2 + 5 * kC A + 2) = -1) : zGr (aCase A) g1 := by
  obtain ⟨r0, r1, rc, rp⟩ := gr
  obtain ⟨hA, hv, hm, -⟩ := gA
  have hP8 := hA.2.1
  refine ⟨e0, (e 1 (by omega) (by omega)).trans r1, fun j hj => ?_, fun p hp => ?_⟩
  · by_cases ej : j = kC A
    · subst ej
      have eN : kN (aCase A) (kC A) = 0 := zuN_at _ _ _
      have eR : kR (aCase A) (kC A) = -1 := pk_us
      refine ⟨e1.trans (by rw [eN]; rfl), e2.trans ((zvd0 (aCase A) (kC A)).mpr eR).symm, e3.trans eR.symm, fun k hk => ?_⟩
      rw [eN] at hk; omega
    · have hj' : j < kC A := by have : j < kC A + 1 := hj; omega
      obtain ⟨a1, a2, a3, a4⟩ := rc j hj'
      have n16 := (hA.2.2 j (by omega)).1
      have eN : kN (aCase A) j = kN A j := zuN_ne _ _ ej
      have eR : kR (aCase A) j = kR A j := pk_un ej
      have eV : zvd (aCase A) j = zvd A j := by unfold zvd; rw [eR]; rfl
      refine ⟨(e _ (by omega) (by omega)).trans (by rw [eN]; exact a1), (e _ (by omega) (by omega)).trans (a2.trans eV.symm), (e _ (by omega) (by omega)).trans (a3.trans eR.symm), fun k hk => ?_⟩
      rw [eN] at hk
      exact (zdl_cg (e _ (by omega) (by omega))).trans (a4 k hk)
  · have hp' : p < kP A := hp
    obtain ⟨a1, a2, a3, a4⟩ := rp p hp'
    have b1 := (hm p hp').1
    have n16 := (hA.2.2 (zmk A p) (by omega)).1
    have eN : kN (aCase A) (zmk A p) = kN A (zmk A p) := zuN_ne _ _ (by omega)
    refine ⟨(e _ (by omega) (by omega)).trans (by show _ = nI (kN (aCase A) (zmk A p)); rw [eN]; exact a1), (e _ (by omega) (by omega)).trans a2, (e _ (by omega) (by omega)).trans a3, fun k hk => ?_⟩
    replace hk : k < kN (aCase A) (zmk A p) := hk
    rw [eN] at hk
    exact (zdl_cg (e _ (by omega) (by omega))).trans (a4 k hk)
theorem zGr.cross {A : zDk} {g : Nat → Int32} (gr : zGr A g) (gA : zGd A) {i : Nat} {l : Int32} (hi : i < kC A) (hr : kR A i = -1) (hn : kN A i < 16) (hl : zLt l) : zGr (aWord A i (kN A i + 1) (upd (kL A i) (kN A i) l)) (upd (zlg g (2 + 5 * i) (kN A i) l) (2 + 5 * i + 0) (nI (kN A i + 1))) := by
  have h8 := gA.1.1
  refine gr.word gA hi hr (by omega) (fun q hq => ?_) (upd_at _ _ _) ?_ ?_ (fun k hk => ?_)
  · rw [upd_ne _ _ (by omega)]; exact zlg_o _ _ _ _ (by omega)
  · rw [upd_ne _ _ (by omega)]; exact zlg_o _ _ _ _ (by omega)
  · rw [upd_ne _ _ (by omega)]; exact zlg_o _ _ _ _ (by omega)
  · rw [zdl_cg (g := zlg g (2 + 5 * i) (kN A i) l) (upd_ne _ _ (by omega))]
    by_cases e : k = kN A i
    · rw [e, zlg_at _ _ _ hl, upd_at]
    · rw [zlg_ne _ _ hl e, upd_ne _ _ e]; exact (gr.2.2.1 i hi).2.2.2 k (by omega)
theorem zGr.cut {A : zDk} {g : Nat → Int32} (gr : zGr A g) (gA : zGd A) {i : Nat} (hi : i < kC A) (hr : kR A i = -1) (hn : 0 < kN A i) : zGr (aWord A i (kN A i - 1) (kL A i)) (upd (zlg g (2 + 5 * i) (kN A i - 1) 1) (2 + 5 * i + 0) (nI (kN A i - 1))) := by
  have h8 := gA.1.1
  have n16 := (gA.1.2.2 i (by omega)).1
  refine gr.word gA hi hr (by omega) (fun q hq => ?_) (upd_at _ _ _) ?_ ?_ (fun k hk => ?_)
  · rw [upd_ne _ _ (by omega)]; exact zlg_o _ _ _ _ (by omega)
  · rw [upd_ne _ _ (by omega)]; exact zlg_o _ _ _ _ (by omega)
  · rw [upd_ne _ _ (by omega)]; exact zlg_o _ _ _ _ (by omega)
  · rw [zdl_cg (g := zlg g (2 + 5 * i) (kN A i - 1) 1) (upd_ne _ _ (by omega)), zlg_ne _ _ (Or.inl rfl) (by omega)]
    exact (gr.2.2.1 i hi).2.2.2 k (by omega)
theorem zGr.kw {A : zDk} {g g1 : Nat → Int32} (gr : zGr A g) (gA : zGd A) {i n : Nat} {l : Nat → Int32} {L : List Int32} (hi : i < kC A) (hr : kR A i = -1) (hn : n ≤ 16) (h : zkw g g1 (2 + 5 * i) L.length L.length L) (e : L.length = n) (e2 : ∀ k, k < n → wv L k = l k) : zGr (aWord A i n l) g1 := by
  obtain ⟨h1, h2, h3⟩ := h
  subst e
  exact gr.word gA hi hr hn (fun q hq => h3 q (by omega) (by omega) (by omega)) h1 (h3 _ (by omega) (by omega) (by omega)) (h3 _ (by omega) (by omega) (by omega)) (fun k hk => (h2 k hk).trans (e2 k hk))
theorem zGr.prec {A : zDk} {g g1 : Nat → Int32} {c : Nat} {v : Int32} (gr : zGr A g) (gA : zGd A) (hc : c < kC A) (hP : kP A < 8) (e : ∀ q, q ≠ 1 → ¬ (42 + 5 * kP A ≤ q ∧ q < 42 + 5 * kP A + 5) → g1 q = g q) (e0 : g1 1 = nI (kP A + 1)) (e1 : g1 (42 + 5 * kP A) = nI (kN A c)) (e2 : g1 (42 + 5 * kP A + 1) = if v = 0 then 2 else 1) (e3 : g1 (42 + 5 * kP A + 2) = 0) (e4 : g1 (42 + 5 * kP A + 3) = g (2 + 5 * c + 3)) (e5 : g1 (42 + 5 * kP A + 4) = g (2 + 5 * c + 4)) : zGr (aPrec A c v) g1 := by
  obtain ⟨r0, r1, rc, rp⟩ := gr
  obtain ⟨hA, hv, hm, -⟩ := gA
  have hC8 := hA.1
  refine ⟨(e 0 (by omega) (by omega)).trans r0, e0, fun j hj => ?_, fun p hp => ?_⟩
  · have hj' : j < kC A := hj
    obtain ⟨a1, a2, a3, a4⟩ := rc j hj'
    have n16 := (hA.2.2 j (by omega)).1
    have eV : zvd (aPrec A c v) j = zvd A j := by
      unfold zvd
      show (if kR A j = -1 then 0 else zpd (aPrec A c v) (kR A j).toNatClampNeg) = _
      rcases hv j hj' with q | ⟨p, hp, q, -⟩
      · rw [if_pos q, if_pos q]
      · have nn : ¬ kR A j = -1 := by rw [q]; exact nI_ne p (by omega)
        rw [if_neg nn, if_neg nn, q, nI_clamp (by omega)]
        unfold zpd
        rw [show kT (aPrec A c v) p = kT A p from pk_un (by omega)]
    exact ⟨(e _ (by omega) (by omega)).trans a1, (e _ (by omega) (by omega)).trans (a2.trans eV.symm), (e _ (by omega) (by omega)).trans a3, fun k hk => (zdl_cg (e _ (by omega) (by have hk' : k < kN A j := hk; omega))).trans (a4 k hk)⟩
  · by_cases ep : p = kP A
    · subst ep
      have eM : zmk (aPrec A c v) (kP A) = c := (congrArg Int32.toNatClampNeg (show upd (kM A) (kP A) (nI c) (kP A) = nI c from pk_us)).trans (nI_clamp (by omega))
      have n16 := (hA.2.2 c (by omega)).1
      rw [eM]
      refine ⟨e1, e2.trans ?_, e3.trans ?_, fun k hk => ?_⟩
      · unfold zpd; rw [show kT (aPrec A c v) (kP A) = v from pk_us]
      · exact (show kA (aPrec A c v) (kP A) = 0 from pk_us).symm
      · replace hk : k < kN A c := hk
        have key : g1 (42 + 5 * kP A + 3 + k / 8) = g (2 + 5 * c + 3 + k / 8) := by
          obtain d | d : k / 8 = 0 ∨ k / 8 = 1 := by omega
          · rw [d]; exact e4
          · rw [d]; exact e5
        have : zdl g1 (42 + 5 * kP A) k = zdl g (2 + 5 * c) k := by unfold zdl; rw [key]
        exact this.trans ((rc c hc).2.2.2 k hk)
    · have hp' : p < kP A := by have : p < kP A + 1 := hp; omega
      obtain ⟨a1, a2, a3, a4⟩ := rp p hp'
      have b1 := (hm p hp').1
      have n16 := (hA.2.2 (zmk A p) (by omega)).1
      have eM : zmk (aPrec A c v) p = zmk A p := congrArg Int32.toNatClampNeg (show upd (kM A) (kP A) (nI c) p = kM A p from pk_un ep)
      rw [eM]
      refine ⟨(e _ (by omega) (by omega)).trans a1, (e _ (by omega) (by omega)).trans (a2.trans ?_), (e _ (by omega) (by omega)).trans (a3.trans ?_), fun k hk => (zdl_cg (e _ (by omega) (by have hk' : k < kN A (zmk A p) := hk; omega))).trans (a4 k hk)⟩
      · unfold zpd; rw [show kT (aPrec A c v) p = kT A p from pk_un ep]
      · exact (show kA (aPrec A c v) p = kA A p from pk_un ep).symm
theorem zGr.setR {A : zDk} {g g1 : Nat → Int32} {k p : Nat} (gr : zGr A g) (hA : zDw A) (hk : k < kC A) (hp : p < 8) (e : ∀ q, q ≠ 2 + 5 * k + 1 → q ≠ 2 + 5 * k + 2 → g1 q = g q) (e1 : g1 (2 + 5 * k + 1) = zpd A p) (e2 : g1 (2 + 5 * k + 2) = nI p) : zGr (aSetR A k (nI p)) g1 := by
  obtain ⟨r0, r1, rc, rp⟩ := gr
  have hC8 := hA.1
  have hP8 := hA.2.1
  refine ⟨(e 0 (by omega) (by omega)).trans r0, (e 1 (by omega) (by omega)).trans r1, fun j hj => ?_, fun q hq => ?_⟩
  · have hj' : j < kC A := hj
    obtain ⟨a1, a2, a3, a4⟩ := rc j hj'
    have n16 := (hA.2.2 j (by omega)).1
    refine ⟨(e _ (by omega) (by omega)).trans a1, ?_, ?_, fun t (ht : t < kN A j) => (zdl_cg (e _ (by omega) (by omega))).trans (a4 t ht)⟩
    · by_cases ej : j = k
      · subst ej
        rw [e1]; unfold zvd
        rw [show kR (aSetR A j (nI p)) j = nI p from pk_us, if_neg (nI_ne p (by omega)), nI_clamp (by omega)]; rfl
      · rw [e _ (by omega) (by omega), a2]; unfold zvd
        rw [show kR (aSetR A k (nI p)) j = kR A j from pk_un ej]; rfl
    · by_cases ej : j = k
      · subst ej; rw [e2]; exact (show kR (aSetR A j (nI p)) j = nI p from pk_us).symm
      · rw [e _ (by omega) (by omega), a3]; exact (show kR (aSetR A k (nI p)) j = kR A j from pk_un ej).symm
  · have hq' : q < kP A := hq
    obtain ⟨a1, a2, a3, a4⟩ := rp q hq'
    have n16 := (hA.2.2 (zmk A q) (hA.mk (i := q) (by omega)).1).1
    exact ⟨(e _ (by omega) (by omega)).trans a1, (e _ (by omega) (by omega)).trans a2, (e _ (by omega) (by omega)).trans a3, fun t ht => (zdl_cg (e _ (by omega) (by have ht' : t < kN A (zmk A q) := ht; omega))).trans (a4 t ht)⟩
theorem zGr.app {A B : zDk} {g g1 : Nat → Int32} {p : Nat} (gr : zGr A g) (hA : zDw A) (hp : p < kP A) (hC : kC B = kC A) (hP : kP B = kP A) (hR : kR B = kR A) (hM : kM B = kM A) (hN : kN B = kN A) (hL : kL B = kL A) (hT : ∀ q, q ≠ p → kT B q = kT A q) (hK : ∀ q, q ≠ p → kA B q = kA A q) (e : ∀ q, q ≠ 42 + 5 * p + 1 → q ≠ 42 + 5 * p + 2 → (∀ i, i < kC A → q ≠ 2 + 5 * i + 1) → g1 q = g q) (e1 : g1 (42 + 5 * p + 1) = zpd B p) (e2 : g1 (42 + 5 * p + 2) = kA B p) (e3 : ∀ i, i < kC A → g1 (2 + 5 * i + 1) = zvd B i) : zGr B g1 := by
  obtain ⟨r0, r1, rc, rp⟩ := gr
  have hC8 := hA.1
  have hP8 := hA.2.1
  refine ⟨by rw [hC]; exact (e 0 (by omega) (by omega) (fun i _ => by omega)).trans r0, by rw [hP]; exact (e 1 (by omega) (by omega) (fun i _ => by omega)).trans r1, fun j hj => ?_, fun q hq => ?_⟩
  · rw [hC] at hj
    obtain ⟨a1, a2, a3, a4⟩ := rc j hj
    have n16 := (hA.2.2 j (by omega)).1
    rw [hN, hR, hL]
    exact ⟨(e _ (by omega) (by omega) (fun i _ => by omega)).trans a1, e3 j hj, (e _ (by omega) (by omega) (fun i _ => by omega)).trans a3, fun t ht => (zdl_cg (e _ (by omega) (by omega) (fun i _ => by omega))).trans (a4 t ht)⟩
  · rw [hP] at hq
    obtain ⟨a1, a2, a3, a4⟩ := rp q hq
    have eM : zmk B q = zmk A q := by unfold zmk; rw [hM]
    have n16 := (hA.2.2 (zmk A q) (hA.mk (i := q) (by omega)).1).1
    rw [hN, hL, eM]
    refine ⟨(e _ (by omega) (by omega) (fun i _ => by omega)).trans a1, ?_, ?_, fun t ht => (zdl_cg (e _ (by omega) (by omega) (fun i _ => by omega))).trans (a4 t ht)⟩
    · by_cases eq : q = p
      · subst eq; exact e1
      · rw [e _ (by omega) (by omega) (fun i _ => by omega), a2]; unfold zpd; rw [hT q eq]
    · by_cases eq : q = p
      · subst eq; exact e2
      · rw [e _ (by omega) (by omega) (fun i _ => by omega), a3, hK q eq]
theorem zOb_2 {A : zDk} {c k : Nat} (h1 : 1 ≤ c) (h5 : c ≤ 5) (hk : k < kC A) (hr : ¬ kR A k = -1) : zOb A c k = 2 := by
  unfold zOb; rw [if_neg (by omega), if_neg (Classical.not_not.mpr hk), if_neg (by omega), if_pos hr]
theorem zOb_u {A : zDk} {c k : Nat} (h1 : 1 ≤ c) (h5 : c ≤ 5) (hk : k < kC A) (hr : kR A k = -1) : zOb A c k = if c = 1 then (if kN A k < 16 then 0 else 1) else if c = 2 then (if kN A k = 0 then 4 else 0) else if c = 4 then zOR (zRn 2000 [] (zWd A k)) else 0 := by
  unfold zOb; rw [if_neg (by omega), if_neg (Classical.not_not.mpr hk), if_neg (by omega), if_neg (Classical.not_not.mpr hr)]
theorem zOb_6 {A : zDk} {k : Nat} (hk : k < kC A) : zOb A 6 k = zOA A k := by
  unfold zOb; rw [if_neg (by omega), if_neg (Classical.not_not.mpr hk), if_pos rfl]
set_option maxHeartbeats 400000 in
set_option maxRecDepth 100000 in
theorem qX10_openCase {X : zX} (hX : X.1.stackTraces = false) {σ : zS} {y : Nat} {w tm cd dn : Int32} {K : zDk} {A S : zDk} {m : Nat} {U : Nat → zDk} {n : Nat} {T : Nat → Int32} {ll : Nat} {ln : Nat → Int32} {hs kf ld dt dc : Int32} (hM : zMo y w tm cd dn K A S m U n T ll ln hs kf ld dt dc σ) (gA : zGd A) (wU : ∀ t, t < m → zDw (U t)) (hc : kC A < 8) : zMet X mX10_openCase yX10_openCase 4 0 0 [.ref y] σ (zI (fun y_ s => y_ = nI (kC A) ∧ zFr σ s (zMq y) ∧ zMo y w tm 0 dn K (aCase A) S (mN w m) (UN w A U) n T ll ln hs kf ld dt dc s)) := by
  refine zMet_of (ls := [some (.ref y), none, none]) rfl (by decide +kernel) rfl (fun h => by cases h) hX (Nat.le_of_ble_eq_true rfl) rfl ?_
  obtain ⟨F, g, kp, sv, bf, ip, sg, td, h0, hf, h1, h2, h3, h4, h5, h6, h11, hWa, hC, hX9, hOt, gr, gS, gK, hm8, gU, hn60, hT, hll, hln⟩ := id hM
  obtain ⟨f4, f5, f6, f7, f8, f9, f10, f11, f13, f14, f16, f27⟩ := id hf
  have hA := gA.1
  obtain ⟨r0, r1, rc, rp⟩ := id gr
  obtain ⟨hC8, hP8, hW⟩ := id hA
  refine zr_aload_n dX10_openCase_0 rfl ?_
  refine zr_getM (v := .ref (y + 1)) dX10_openCase_1 fX10_7 h0 rfl ?_
  refine zr_iconst (v := 0) dX10_openCase_4 (by decide) ?_
  refine zr_iaload dX10_openCase_5 h1 (vp_in_nI (n := 0) (by omega) (by omega)) ?_
  rw [show (0 : Int32).toNatClampNeg = 0 from by decide]
  refine zr_eqi (x' := nI (kC A)) (r0) ?_
  refine zr_bipush (v := 8) dX10_openCase_6 (by decide) ?_
  refine zr_icmp_ne (tgt := 20) dX10_openCase_8 (by decide) (fun c_8 => ?_) (fun c_8 => absurd c_8 (fun h => absurd ((nI_eq (a := kC A) (b := 8) (by omega) (by omega)).mp h) (by omega)))
  refine zr_aload_n dX10_openCase_20 rfl ?_
  refine zr_aload_n dX10_openCase_21 rfl ?_
  refine zr_getM (v := .ref (y + 1)) dX10_openCase_22 fX10_7 h0 rfl ?_
  refine zr_callVv [] dX10_openCase_25 vX10_145 (qX10_keeps hX (r := y + 1) h0 h1 (by omega) (by omega) h2 f5 f6 hm8 gr hA gU wU) h0 (by decide) (by decide) (by decide) rfl rfl (Nat.le_of_ble_eq_true rfl) (by decide) rfl (fun s0 h_ => ?_)
  obtain ⟨F0, g00, kp1, kc1, gU1⟩ := h_
  have kh1 : s0.1 (y + 1) = .inl (0, 82, .inl g) := zFr.get F0 (by omega) h1
  have kh2 : s0.1 (y + 3) = .inl (0, 82, .inl sv) := zFr.get F0 (by omega) h3
  have kh3 : s0.1 (y + 4) = .inl (0, 82, .inl bf) := zFr.get F0 (by omega) h4
  have kh4 : s0.1 (y + 5) = .inl (0, 60, .inl ip) := zFr.get F0 (by omega) h5
  have kh5 : s0.1 (y + 6) = .inl (1, 400, .inl sg) := zFr.get F0 (by omega) h6
  have kh6 : s0.1 (y + 11) = .inl (0, 93, .inl td) := zFr.get F0 (by omega) h11
  have kR7 := zWa.fr hWa F0 (by intro q a b c; omega)
  have kR8 := zCy.fr hC F0 (by intro q a b c; omega)
  have kR9 := zXa.fr hX9 F0 (by intro q a b c; omega)
  have kR10 := zOa.fr hOt F0 (by intro q a b c; omega)
  have kF11 := zFr.tr zFr.rf (P := zMq y) F0 (by intro q hq; unfold zMq; omega)
  refine zr_aload_n dX10_openCase_28 rfl ?_
  refine zr_getM (v := .ref (y + 1)) dX10_openCase_29 fX10_7 g00 rfl ?_
  refine zr_iconst (v := 0) dX10_openCase_32 (by decide) ?_
  refine zr_iaload dX10_openCase_33 kh1 (vp_in_nI (n := 0) (by omega) (by omega)) ?_
  rw [show (0 : Int32).toNatClampNeg = 0 from by decide]
  refine zr_eqi (x' := nI (kC A)) (r0) ?_
  refine zr_pSi [] dX10_openCase_34 vX10_138 (qX10_caseAt hX (i := kC A)) (by decide) (by decide) (by decide) rfl rfl (Nat.le_of_ble_eq_true rfl) rfl ?_
  refine zr_istore_n (ls' := [some (.ref y), some (.int (nI (2 + 5 * (kC A)))), none]) dX10_openCase_37 rfl (by decide) rfl ?_
  refine zr_iconst (v := 0) dX10_openCase_38 (by decide) ?_
  refine zr_istore_n (ls' := [some (.ref y), some (.int (nI (2 + 5 * (kC A)))), some (.int 0)]) dX10_openCase_39 rfl (by decide) rfl ?_
  refine zr_iload_n dX10_openCase_40 rfl ?_
  refine zr_iconst (v := 5) dX10_openCase_41 (by decide) ?_
  refine zr_icmp_ge (tgt := 60) dX10_openCase_42 (by decide) (fun c_42 => absurd c_42 (by decide)) (fun c_42 => ?_)
  refine zr_aload_n dX10_openCase_45 rfl ?_
  refine zr_getM (v := .ref (y + 1)) dX10_openCase_46 fX10_7 g00 rfl ?_
  refine zr_iload_n dX10_openCase_49 rfl ?_
  refine zr_iload_n dX10_openCase_50 rfl ?_
  refine zr_iadd dX10_openCase_51 ?_
  refine zr_eqi (x' := nI ((2 + 5 * (kC A)) + 0)) (nI_add (2 + 5 * (kC A)) 0) ?_
  refine zr_iconst (v := 0) dX10_openCase_52 (by decide) ?_
  refine zr_iastore dX10_openCase_53 kh1 (vp_in_nI (n := (2 + 5 * (kC A)) + 0) (by omega) (by omega)) ?_
  rw [nI_clamp (n := (2 + 5 * (kC A)) + 0) (by omega)]
  refine zr_sig (fun ks12 e_ks12 => ?_)
  have kh13 : ks12.1 (y + 1) = .inl (0, 82, .inl (upd g ((2 + 5 * (kC A)) + 0) 0)) := by rw [e_ks12]; exact zup_at _ _ _
  have kh14 : ks12.1 (y + 3) = .inl (0, 82, .inl sv) := by rw [e_ks12, zup_ne _ _ (by omega)]; exact kh2
  have kh15 : ks12.1 (y + 4) = .inl (0, 82, .inl bf) := by rw [e_ks12, zup_ne _ _ (by omega)]; exact kh3
  have kh16 : ks12.1 (y + 5) = .inl (0, 60, .inl ip) := by rw [e_ks12, zup_ne _ _ (by omega)]; exact kh4
  have kh17 : ks12.1 (y + 6) = .inl (1, 400, .inl sg) := by rw [e_ks12, zup_ne _ _ (by omega)]; exact kh5
  have kh18 : ks12.1 (y + 11) = .inl (0, 93, .inl td) := by rw [e_ks12, zup_ne _ _ (by omega)]; exact kh6
  have kh19 : ks12.1 y = zmO y (upd (upd F 5 (nI (mN w m))) 8 0) := by rw [e_ks12, zup_ne _ _ (by omega)]; exact g00
  have kh20 : ks12.1 (y + 2) = .inl (0, 656, .inl kp1) := by rw [e_ks12, zup_ne _ _ (by omega)]; exact kc1
  have kF21 := zFr.put kF11 e_ks12 (by unfold zMq; omega)
  have kR22 : zWa y ks12 := zWa.fr kR7 (zFr.put (P := fun q => q = (y + 1)) zFr.rf e_ks12 rfl) (by intro q h1 h2 h3; (try simp only [zIn, zJf] at h3); omega)
  have kR23 : zCy y ks12 := zCy.fr kR8 (zFr.put (P := fun q => q = (y + 1)) zFr.rf e_ks12 rfl) (by intro q h1 h2 h3; (try simp only [zIn, zJf] at h3); omega)
  have kR24 : zXa y ks12 := zXa.fr kR9 (zFr.put (P := fun q => q = (y + 1)) zFr.rf e_ks12 rfl) (by intro q h1 h2 h3; (try simp only [zIn, zJf] at h3); omega)
  have kR25 : zOa y ks12 := zOa.fr kR10 (zFr.put (P := fun q => q = (y + 1)) zFr.rf e_ks12 rfl) (by intro q h1 h2 h3; (try simp only [zIn, zJf] at h3); omega)
  refine zr_iinc (v := 1) (ls' := [some (.ref y), some (.int (nI (2 + 5 * (kC A)))), some (.int 1)]) dX10_openCase_54 rfl (by decide) (by decide) rfl ?_
  refine zr_goto (tgt := 40) dX10_openCase_57 (by decide) ?_
  refine zr_iload_n dX10_openCase_40 rfl ?_
  refine zr_iconst (v := 5) dX10_openCase_41 (by decide) ?_
  refine zr_icmp_ge (tgt := 60) dX10_openCase_42 (by decide) (fun c_42 => absurd c_42 (by decide)) (fun c_42 => ?_)
  refine zr_aload_n dX10_openCase_45 rfl ?_
  refine zr_getM (v := .ref (y + 1)) dX10_openCase_46 fX10_7 kh19 rfl ?_
  refine zr_iload_n dX10_openCase_49 rfl ?_
  refine zr_iload_n dX10_openCase_50 rfl ?_
  refine zr_iadd dX10_openCase_51 ?_
  refine zr_eqi (x' := nI ((2 + 5 * (kC A)) + 1)) (nI_add (2 + 5 * (kC A)) 1) ?_
  refine zr_iconst (v := 0) dX10_openCase_52 (by decide) ?_
  refine zr_iastore dX10_openCase_53 kh13 (vp_in_nI (n := (2 + 5 * (kC A)) + 1) (by omega) (by omega)) ?_
  rw [nI_clamp (n := (2 + 5 * (kC A)) + 1) (by omega)]
  refine zr_sig (fun ks26 e_ks26 => ?_)
  have kh27 : ks26.1 (y + 1) = .inl (0, 82, .inl (upd (upd g ((2 + 5 * (kC A)) + 0) 0) ((2 + 5 * (kC A)) + 1) 0)) := by rw [e_ks26]; exact zup_at _ _ _
  have kh28 : ks26.1 (y + 3) = .inl (0, 82, .inl sv) := by rw [e_ks26, zup_ne _ _ (by omega)]; exact kh14
  have kh29 : ks26.1 (y + 4) = .inl (0, 82, .inl bf) := by rw [e_ks26, zup_ne _ _ (by omega)]; exact kh15
  have kh30 : ks26.1 (y + 5) = .inl (0, 60, .inl ip) := by rw [e_ks26, zup_ne _ _ (by omega)]; exact kh16
  have kh31 : ks26.1 (y + 6) = .inl (1, 400, .inl sg) := by rw [e_ks26, zup_ne _ _ (by omega)]; exact kh17
  have kh32 : ks26.1 (y + 11) = .inl (0, 93, .inl td) := by rw [e_ks26, zup_ne _ _ (by omega)]; exact kh18
  have kh33 : ks26.1 y = zmO y (upd (upd F 5 (nI (mN w m))) 8 0) := by rw [e_ks26, zup_ne _ _ (by omega)]; exact kh19
  have kh34 : ks26.1 (y + 2) = .inl (0, 656, .inl kp1) := by rw [e_ks26, zup_ne _ _ (by omega)]; exact kh20
  have kF35 := zFr.put kF21 e_ks26 (by unfold zMq; omega)
  have kR36 : zWa y ks26 := zWa.fr kR22 (zFr.put (P := fun q => q = (y + 1)) zFr.rf e_ks26 rfl) (by intro q h1 h2 h3; (try simp only [zIn, zJf] at h3); omega)
  have kR37 : zCy y ks26 := zCy.fr kR23 (zFr.put (P := fun q => q = (y + 1)) zFr.rf e_ks26 rfl) (by intro q h1 h2 h3; (try simp only [zIn, zJf] at h3); omega)
  have kR38 : zXa y ks26 := zXa.fr kR24 (zFr.put (P := fun q => q = (y + 1)) zFr.rf e_ks26 rfl) (by intro q h1 h2 h3; (try simp only [zIn, zJf] at h3); omega)
  have kR39 : zOa y ks26 := zOa.fr kR25 (zFr.put (P := fun q => q = (y + 1)) zFr.rf e_ks26 rfl) (by intro q h1 h2 h3; (try simp only [zIn, zJf] at h3); omega)
  refine zr_iinc (v := 2) (ls' := [some (.ref y), some (.int (nI (2 + 5 * (kC A)))), some (.int 2)]) dX10_openCase_54 rfl (by decide) (by decide) rfl ?_
  refine zr_goto (tgt := 40) dX10_openCase_57 (by decide) ?_
  refine zr_iload_n dX10_openCase_40 rfl ?_
  refine zr_iconst (v := 5) dX10_openCase_41 (by decide) ?_
  refine zr_icmp_ge (tgt := 60) dX10_openCase_42 (by decide) (fun c_42 => absurd c_42 (by decide)) (fun c_42 => ?_)
  refine zr_aload_n dX10_openCase_45 rfl ?_
  refine zr_getM (v := .ref (y + 1)) dX10_openCase_46 fX10_7 kh33 rfl ?_
  refine zr_iload_n dX10_openCase_49 rfl ?_
  refine zr_iload_n dX10_openCase_50 rfl ?_
  refine zr_iadd dX10_openCase_51 ?_
  refine zr_eqi (x' := nI ((2 + 5 * (kC A)) + 2)) (nI_add (2 + 5 * (kC A)) 2) ?_
  refine zr_iconst (v := 0) dX10_openCase_52 (by decide) ?_
  refine zr_iastore dX10_openCase_53 kh27 (vp_in_nI (n := (2 + 5 * (kC A)) + 2) (by omega) (by omega)) ?_
  rw [nI_clamp (n := (2 + 5 * (kC A)) + 2) (by omega)]
  refine zr_sig (fun ks40 e_ks40 => ?_)
  have kh41 : ks40.1 (y + 1) = .inl (0, 82, .inl (upd (upd (upd g ((2 + 5 * (kC A)) + 0) 0) ((2 + 5 * (kC A)) + 1) 0) ((2 + 5 * (kC A)) + 2) 0)) := by rw [e_ks40]; exact zup_at _ _ _
  have kh42 : ks40.1 (y + 3) = .inl (0, 82, .inl sv) := by rw [e_ks40, zup_ne _ _ (by omega)]; exact kh28
  have kh43 : ks40.1 (y + 4) = .inl (0, 82, .inl bf) := by rw [e_ks40, zup_ne _ _ (by omega)]; exact kh29
  have kh44 : ks40.1 (y + 5) = .inl (0, 60, .inl ip) := by rw [e_ks40, zup_ne _ _ (by omega)]; exact kh30
  have kh45 : ks40.1 (y + 6) = .inl (1, 400, .inl sg) := by rw [e_ks40, zup_ne _ _ (by omega)]; exact kh31
  have kh46 : ks40.1 (y + 11) = .inl (0, 93, .inl td) := by rw [e_ks40, zup_ne _ _ (by omega)]; exact kh32
  have kh47 : ks40.1 y = zmO y (upd (upd F 5 (nI (mN w m))) 8 0) := by rw [e_ks40, zup_ne _ _ (by omega)]; exact kh33
  have kh48 : ks40.1 (y + 2) = .inl (0, 656, .inl kp1) := by rw [e_ks40, zup_ne _ _ (by omega)]; exact kh34
  have kF49 := zFr.put kF35 e_ks40 (by unfold zMq; omega)
  have kR50 : zWa y ks40 := zWa.fr kR36 (zFr.put (P := fun q => q = (y + 1)) zFr.rf e_ks40 rfl) (by intro q h1 h2 h3; (try simp only [zIn, zJf] at h3); omega)
  have kR51 : zCy y ks40 := zCy.fr kR37 (zFr.put (P := fun q => q = (y + 1)) zFr.rf e_ks40 rfl) (by intro q h1 h2 h3; (try simp only [zIn, zJf] at h3); omega)
  have kR52 : zXa y ks40 := zXa.fr kR38 (zFr.put (P := fun q => q = (y + 1)) zFr.rf e_ks40 rfl) (by intro q h1 h2 h3; (try simp only [zIn, zJf] at h3); omega)
  have kR53 : zOa y ks40 := zOa.fr kR39 (zFr.put (P := fun q => q = (y + 1)) zFr.rf e_ks40 rfl) (by intro q h1 h2 h3; (try simp only [zIn, zJf] at h3); omega)
  refine zr_iinc (v := 3) (ls' := [some (.ref y), some (.int (nI (2 + 5 * (kC A)))), some (.int 3)]) dX10_openCase_54 rfl (by decide) (by decide) rfl ?_
  refine zr_goto (tgt := 40) dX10_openCase_57 (by decide) ?_
  refine zr_iload_n dX10_openCase_40 rfl ?_
  refine zr_iconst (v := 5) dX10_openCase_41 (by decide) ?_
  refine zr_icmp_ge (tgt := 60) dX10_openCase_42 (by decide) (fun c_42 => absurd c_42 (by decide)) (fun c_42 => ?_)
  refine zr_aload_n dX10_openCase_45 rfl ?_
  refine zr_getM (v := .ref (y + 1)) dX10_openCase_46 fX10_7 kh47 rfl ?_
  refine zr_iload_n dX10_openCase_49 rfl ?_
  refine zr_iload_n dX10_openCase_50 rfl ?_
  refine zr_iadd dX10_openCase_51 ?_
  refine zr_eqi (x' := nI ((2 + 5 * (kC A)) + 3)) (nI_add (2 + 5 * (kC A)) 3) ?_
  refine zr_iconst (v := 0) dX10_openCase_52 (by decide) ?_
  refine zr_iastore dX10_openCase_53 kh41 (vp_in_nI (n := (2 + 5 * (kC A)) + 3) (by omega) (by omega)) ?_
  rw [nI_clamp (n := (2 + 5 * (kC A)) + 3) (by omega)]
  refine zr_sig (fun ks54 e_ks54 => ?_)
  have kh55 : ks54.1 (y + 1) = .inl (0, 82, .inl (upd (upd (upd (upd g ((2 + 5 * (kC A)) + 0) 0) ((2 + 5 * (kC A)) + 1) 0) ((2 + 5 * (kC A)) + 2) 0) ((2 + 5 * (kC A)) + 3) 0)) := by rw [e_ks54]; exact zup_at _ _ _
  have kh56 : ks54.1 (y + 3) = .inl (0, 82, .inl sv) := by rw [e_ks54, zup_ne _ _ (by omega)]; exact kh42
  have kh57 : ks54.1 (y + 4) = .inl (0, 82, .inl bf) := by rw [e_ks54, zup_ne _ _ (by omega)]; exact kh43
  have kh58 : ks54.1 (y + 5) = .inl (0, 60, .inl ip) := by rw [e_ks54, zup_ne _ _ (by omega)]; exact kh44
  have kh59 : ks54.1 (y + 6) = .inl (1, 400, .inl sg) := by rw [e_ks54, zup_ne _ _ (by omega)]; exact kh45
  have kh60 : ks54.1 (y + 11) = .inl (0, 93, .inl td) := by rw [e_ks54, zup_ne _ _ (by omega)]; exact kh46
  have kh61 : ks54.1 y = zmO y (upd (upd F 5 (nI (mN w m))) 8 0) := by rw [e_ks54, zup_ne _ _ (by omega)]; exact kh47
  have kh62 : ks54.1 (y + 2) = .inl (0, 656, .inl kp1) := by rw [e_ks54, zup_ne _ _ (by omega)]; exact kh48
  have kF63 := zFr.put kF49 e_ks54 (by unfold zMq; omega)
  have kR64 : zWa y ks54 := zWa.fr kR50 (zFr.put (P := fun q => q = (y + 1)) zFr.rf e_ks54 rfl) (by intro q h1 h2 h3; (try simp only [zIn, zJf] at h3); omega)
  have kR65 : zCy y ks54 := zCy.fr kR51 (zFr.put (P := fun q => q = (y + 1)) zFr.rf e_ks54 rfl) (by intro q h1 h2 h3; (try simp only [zIn, zJf] at h3); omega)
  have kR66 : zXa y ks54 := zXa.fr kR52 (zFr.put (P := fun q => q = (y + 1)) zFr.rf e_ks54 rfl) (by intro q h1 h2 h3; (try simp only [zIn, zJf] at h3); omega)
  have kR67 : zOa y ks54 := zOa.fr kR53 (zFr.put (P := fun q => q = (y + 1)) zFr.rf e_ks54 rfl) (by intro q h1 h2 h3; (try simp only [zIn, zJf] at h3); omega)
  refine zr_iinc (v := 4) (ls' := [some (.ref y), some (.int (nI (2 + 5 * (kC A)))), some (.int 4)]) dX10_openCase_54 rfl (by decide) (by decide) rfl ?_
  refine zr_goto (tgt := 40) dX10_openCase_57 (by decide) ?_
  refine zr_iload_n dX10_openCase_40 rfl ?_
  refine zr_iconst (v := 5) dX10_openCase_41 (by decide) ?_
  refine zr_icmp_ge (tgt := 60) dX10_openCase_42 (by decide) (fun c_42 => absurd c_42 (by decide)) (fun c_42 => ?_)
  refine zr_aload_n dX10_openCase_45 rfl ?_
  refine zr_getM (v := .ref (y + 1)) dX10_openCase_46 fX10_7 kh61 rfl ?_
  refine zr_iload_n dX10_openCase_49 rfl ?_
  refine zr_iload_n dX10_openCase_50 rfl ?_
  refine zr_iadd dX10_openCase_51 ?_
  refine zr_eqi (x' := nI ((2 + 5 * (kC A)) + 4)) (nI_add (2 + 5 * (kC A)) 4) ?_
  refine zr_iconst (v := 0) dX10_openCase_52 (by decide) ?_
  refine zr_iastore dX10_openCase_53 kh55 (vp_in_nI (n := (2 + 5 * (kC A)) + 4) (by omega) (by omega)) ?_
  rw [nI_clamp (n := (2 + 5 * (kC A)) + 4) (by omega)]
  refine zr_sig (fun ks68 e_ks68 => ?_)
  have kh69 : ks68.1 (y + 1) = .inl (0, 82, .inl (upd (upd (upd (upd (upd g ((2 + 5 * (kC A)) + 0) 0) ((2 + 5 * (kC A)) + 1) 0) ((2 + 5 * (kC A)) + 2) 0) ((2 + 5 * (kC A)) + 3) 0) ((2 + 5 * (kC A)) + 4) 0)) := by rw [e_ks68]; exact zup_at _ _ _
  have kh70 : ks68.1 (y + 3) = .inl (0, 82, .inl sv) := by rw [e_ks68, zup_ne _ _ (by omega)]; exact kh56
  have kh71 : ks68.1 (y + 4) = .inl (0, 82, .inl bf) := by rw [e_ks68, zup_ne _ _ (by omega)]; exact kh57
  have kh72 : ks68.1 (y + 5) = .inl (0, 60, .inl ip) := by rw [e_ks68, zup_ne _ _ (by omega)]; exact kh58
  have kh73 : ks68.1 (y + 6) = .inl (1, 400, .inl sg) := by rw [e_ks68, zup_ne _ _ (by omega)]; exact kh59
  have kh74 : ks68.1 (y + 11) = .inl (0, 93, .inl td) := by rw [e_ks68, zup_ne _ _ (by omega)]; exact kh60
  have kh75 : ks68.1 y = zmO y (upd (upd F 5 (nI (mN w m))) 8 0) := by rw [e_ks68, zup_ne _ _ (by omega)]; exact kh61
  have kh76 : ks68.1 (y + 2) = .inl (0, 656, .inl kp1) := by rw [e_ks68, zup_ne _ _ (by omega)]; exact kh62
  have kF77 := zFr.put kF63 e_ks68 (by unfold zMq; omega)
  have kR78 : zWa y ks68 := zWa.fr kR64 (zFr.put (P := fun q => q = (y + 1)) zFr.rf e_ks68 rfl) (by intro q h1 h2 h3; (try simp only [zIn, zJf] at h3); omega)
  have kR79 : zCy y ks68 := zCy.fr kR65 (zFr.put (P := fun q => q = (y + 1)) zFr.rf e_ks68 rfl) (by intro q h1 h2 h3; (try simp only [zIn, zJf] at h3); omega)
  have kR80 : zXa y ks68 := zXa.fr kR66 (zFr.put (P := fun q => q = (y + 1)) zFr.rf e_ks68 rfl) (by intro q h1 h2 h3; (try simp only [zIn, zJf] at h3); omega)
  have kR81 : zOa y ks68 := zOa.fr kR67 (zFr.put (P := fun q => q = (y + 1)) zFr.rf e_ks68 rfl) (by intro q h1 h2 h3; (try simp only [zIn, zJf] at h3); omega)
  refine zr_iinc (v := 5) (ls' := [some (.ref y), some (.int (nI (2 + 5 * (kC A)))), some (.int 5)]) dX10_openCase_54 rfl (by decide) (by decide) rfl ?_
  refine zr_goto (tgt := 40) dX10_openCase_57 (by decide) ?_
  refine zr_iload_n dX10_openCase_40 rfl ?_
  refine zr_iconst (v := 5) dX10_openCase_41 (by decide) ?_
  refine zr_icmp_ge (tgt := 60) dX10_openCase_42 (by decide) (fun c_42 => ?_) (fun c_42 => absurd (by decide) c_42)
  refine zr_aload_n dX10_openCase_60 rfl ?_
  refine zr_getM (v := .ref (y + 1)) dX10_openCase_61 fX10_7 kh75 rfl ?_
  refine zr_iload_n dX10_openCase_64 rfl ?_
  refine zr_iconst (v := 2) dX10_openCase_65 (by decide) ?_
  refine zr_iadd dX10_openCase_66 ?_
  refine zr_eqi (x' := nI ((2 + 5 * (kC A)) + 2)) (nI_add (2 + 5 * (kC A)) 2) ?_
  refine zr_iconst (v := -1) dX10_openCase_67 (by decide) ?_
  refine zr_iastore dX10_openCase_68 kh69 (vp_in_nI (n := (2 + 5 * (kC A)) + 2) (by omega) (by omega)) ?_
  rw [nI_clamp (n := (2 + 5 * (kC A)) + 2) (by omega)]
  refine zr_sig (fun ks82 e_ks82 => ?_)
  have kh83 : ks82.1 (y + 1) = .inl (0, 82, .inl (upd (upd (upd (upd (upd (upd g ((2 + 5 * (kC A)) + 0) 0) ((2 + 5 * (kC A)) + 1) 0) ((2 + 5 * (kC A)) + 2) 0) ((2 + 5 * (kC A)) + 3) 0) ((2 + 5 * (kC A)) + 4) 0) ((2 + 5 * (kC A)) + 2) (-1))) := by rw [e_ks82]; exact zup_at _ _ _
  have kh84 : ks82.1 (y + 3) = .inl (0, 82, .inl sv) := by rw [e_ks82, zup_ne _ _ (by omega)]; exact kh70
  have kh85 : ks82.1 (y + 4) = .inl (0, 82, .inl bf) := by rw [e_ks82, zup_ne _ _ (by omega)]; exact kh71
  have kh86 : ks82.1 (y + 5) = .inl (0, 60, .inl ip) := by rw [e_ks82, zup_ne _ _ (by omega)]; exact kh72
  have kh87 : ks82.1 (y + 6) = .inl (1, 400, .inl sg) := by rw [e_ks82, zup_ne _ _ (by omega)]; exact kh73
  have kh88 : ks82.1 (y + 11) = .inl (0, 93, .inl td) := by rw [e_ks82, zup_ne _ _ (by omega)]; exact kh74
  have kh89 : ks82.1 y = zmO y (upd (upd F 5 (nI (mN w m))) 8 0) := by rw [e_ks82, zup_ne _ _ (by omega)]; exact kh75
  have kh90 : ks82.1 (y + 2) = .inl (0, 656, .inl kp1) := by rw [e_ks82, zup_ne _ _ (by omega)]; exact kh76
  have kF91 := zFr.put kF77 e_ks82 (by unfold zMq; omega)
  have kR92 : zWa y ks82 := zWa.fr kR78 (zFr.put (P := fun q => q = (y + 1)) zFr.rf e_ks82 rfl) (by intro q h1 h2 h3; (try simp only [zIn, zJf] at h3); omega)
  have kR93 : zCy y ks82 := zCy.fr kR79 (zFr.put (P := fun q => q = (y + 1)) zFr.rf e_ks82 rfl) (by intro q h1 h2 h3; (try simp only [zIn, zJf] at h3); omega)
  have kR94 : zXa y ks82 := zXa.fr kR80 (zFr.put (P := fun q => q = (y + 1)) zFr.rf e_ks82 rfl) (by intro q h1 h2 h3; (try simp only [zIn, zJf] at h3); omega)
  have kR95 : zOa y ks82 := zOa.fr kR81 (zFr.put (P := fun q => q = (y + 1)) zFr.rf e_ks82 rfl) (by intro q h1 h2 h3; (try simp only [zIn, zJf] at h3); omega)
  refine zr_aload_n dX10_openCase_69 rfl ?_
  refine zr_getM (v := .ref (y + 1)) dX10_openCase_70 fX10_7 kh89 rfl ?_
  refine zr_iconst (v := 0) dX10_openCase_73 (by decide) ?_
  refine zr_dup2 dX10_openCase_74 rfl rfl ?_
  refine zr_iaload dX10_openCase_75 kh83 (vp_in_nI (n := 0) (by omega) (by omega)) ?_
  rw [show (0 : Int32).toNatClampNeg = 0 from by decide]
  refine zr_eqi (x' := nI (kC A)) (by rw [upd_ne _ _ (by omega), upd_ne _ _ (by omega), upd_ne _ _ (by omega), upd_ne _ _ (by omega), upd_ne _ _ (by omega), upd_ne _ _ (by omega)]; exact r0) ?_
  refine zr_iconst (v := 1) dX10_openCase_76 (by decide) ?_
  refine zr_iadd dX10_openCase_77 ?_
  refine zr_eqi (x' := nI ((kC A) + 1)) (nI_add (kC A) 1) ?_
  refine zr_iastore dX10_openCase_78 kh83 (vp_in_nI (n := 0) (by omega) (by omega)) ?_
  rw [show (0 : Int32).toNatClampNeg = 0 from by decide]
  refine zr_sig (fun ks96 e_ks96 => ?_)
  have kh97 : ks96.1 (y + 1) = .inl (0, 82, .inl (upd (upd (upd (upd (upd (upd (upd g ((2 + 5 * (kC A)) + 0) 0) ((2 + 5 * (kC A)) + 1) 0) ((2 + 5 * (kC A)) + 2) 0) ((2 + 5 * (kC A)) + 3) 0) ((2 + 5 * (kC A)) + 4) 0) ((2 + 5 * (kC A)) + 2) (-1)) 0 (nI ((kC A) + 1)))) := by rw [e_ks96]; exact zup_at _ _ _
  have kh98 : ks96.1 (y + 3) = .inl (0, 82, .inl sv) := by rw [e_ks96, zup_ne _ _ (by omega)]; exact kh84
  have kh99 : ks96.1 (y + 4) = .inl (0, 82, .inl bf) := by rw [e_ks96, zup_ne _ _ (by omega)]; exact kh85
  have kh100 : ks96.1 (y + 5) = .inl (0, 60, .inl ip) := by rw [e_ks96, zup_ne _ _ (by omega)]; exact kh86
  have kh101 : ks96.1 (y + 6) = .inl (1, 400, .inl sg) := by rw [e_ks96, zup_ne _ _ (by omega)]; exact kh87
  have kh102 : ks96.1 (y + 11) = .inl (0, 93, .inl td) := by rw [e_ks96, zup_ne _ _ (by omega)]; exact kh88
  have kh103 : ks96.1 y = zmO y (upd (upd F 5 (nI (mN w m))) 8 0) := by rw [e_ks96, zup_ne _ _ (by omega)]; exact kh89
  have kh104 : ks96.1 (y + 2) = .inl (0, 656, .inl kp1) := by rw [e_ks96, zup_ne _ _ (by omega)]; exact kh90
  have kF105 := zFr.put kF91 e_ks96 (by unfold zMq; omega)
  have kR106 : zWa y ks96 := zWa.fr kR92 (zFr.put (P := fun q => q = (y + 1)) zFr.rf e_ks96 rfl) (by intro q h1 h2 h3; (try simp only [zIn, zJf] at h3); omega)
  have kR107 : zCy y ks96 := zCy.fr kR93 (zFr.put (P := fun q => q = (y + 1)) zFr.rf e_ks96 rfl) (by intro q h1 h2 h3; (try simp only [zIn, zJf] at h3); omega)
  have kR108 : zXa y ks96 := zXa.fr kR94 (zFr.put (P := fun q => q = (y + 1)) zFr.rf e_ks96 rfl) (by intro q h1 h2 h3; (try simp only [zIn, zJf] at h3); omega)
  have kR109 : zOa y ks96 := zOa.fr kR95 (zFr.put (P := fun q => q = (y + 1)) zFr.rf e_ks96 rfl) (by intro q h1 h2 h3; (try simp only [zIn, zJf] at h3); omega)
  refine zr_aload_n dX10_openCase_79 rfl ?_
  refine zr_getM (v := .ref (y + 1)) dX10_openCase_80 fX10_7 kh103 rfl ?_
  refine zr_iconst (v := 0) dX10_openCase_83 (by decide) ?_
  refine zr_iaload dX10_openCase_84 kh97 (vp_in_nI (n := 0) (by omega) (by omega)) ?_
  rw [show (0 : Int32).toNatClampNeg = 0 from by decide]
  refine zr_eqi (x' := nI (kC A + 1)) (upd_at _ _ _) ?_
  refine zr_iconst (v := 1) dX10_openCase_85 (by decide) ?_
  refine zr_isub dX10_openCase_86 ?_
  refine zr_eqi (x' := nI ((kC A + 1) - 1)) (pk_sub (a := (kC A + 1)) (b := 1) (by omega)) ?_
  exact zr_ireturn dX10_openCase_87 rfl (rfl) (⟨_, rfl, rfl, kF105, ⟨_, _, _, _, _, _, _, _, kh103, ⟨f4, rfl, f6, f7, rfl, f9, f10, f11, f13, f14, f16, f27⟩, kh97, kh104, kh98, kh99, kh100, kh101, kh102, kR106, kR107, kR108, kR109, (zGr.case gr gA hc (fun q a b => by rw [upd_ne _ _ (by omega), upd_ne _ _ (by omega), upd_ne _ _ (by omega), upd_ne _ _ (by omega), upd_ne _ _ (by omega), upd_ne _ _ (by omega), upd_ne _ _ (by omega)]) (upd_at _ _ _) (by rw [upd_ne _ _ (by omega), upd_ne _ _ (by omega), upd_ne _ _ (by omega), upd_ne _ _ (by omega), upd_ne _ _ (by omega), upd_ne _ _ (by omega)]; exact upd_at _ _ _) (by rw [upd_ne _ _ (by omega), upd_ne _ _ (by omega), upd_ne _ _ (by omega), upd_ne _ _ (by omega), upd_ne _ _ (by omega)]; exact upd_at _ _ _) (by rw [upd_ne _ _ (by omega)]; exact upd_at _ _ _)), gS, gK, (mN_8 hm8), gU1, hn60, hT, hll, hln⟩⟩)

set_option maxHeartbeats 400000 in
set_option maxRecDepth 100000 in
theorem qX10_openCaseD0 {X : zX} (hX : X.1.stackTraces = false) {σ : zS} {y : Nat} {w tm cd dn : Int32} {K : zDk} {A S : zDk} {m : Nat} {U : Nat → zDk} {n : Nat} {T : Nat → Int32} {ll : Nat} {ln : Nat → Int32} {hs kf ld dt dc : Int32} (hM : zMo y w tm cd dn K A S m U n T ll ln hs kf ld dt dc σ) (gA : zGd A) (hc : kC A = 8) : zMet X mX10_openCase yX10_openCase 4 0 0 [.ref y] σ (zI (fun y_ s => True ∧ zFr σ s (zMq y) ∧ zMo y w tm 1 1 K A S m U n T ll ln hs kf 1 8 0 s)) := by
  refine zMet_of (ls := [some (.ref y), none, none]) rfl (by decide +kernel) rfl (fun h => by cases h) hX (Nat.le_of_ble_eq_true rfl) rfl ?_
  obtain ⟨F, g, kp, sv, bf, ip, sg, td, h0, hf, h1, h2, h3, h4, h5, h6, h11, hWa, hC, hX9, hOt, gr, gS, gK, hm8, gU, hn60, hT, hll, hln⟩ := id hM
  obtain ⟨f4, f5, f6, f7, f8, f9, f10, f11, f13, f14, f16, f27⟩ := id hf
  have hA := gA.1
  obtain ⟨r0, r1, rc, rp⟩ := id gr
  obtain ⟨hC8, hP8, hW⟩ := id hA
  refine zr_aload_n dX10_openCase_0 rfl ?_
  refine zr_getM (v := .ref (y + 1)) dX10_openCase_1 fX10_7 h0 rfl ?_
  refine zr_iconst (v := 0) dX10_openCase_4 (by decide) ?_
  refine zr_iaload dX10_openCase_5 h1 (vp_in_nI (n := 0) (by omega) (by omega)) ?_
  rw [show (0 : Int32).toNatClampNeg = 0 from by decide]
  refine zr_eqi (x' := nI (kC A)) (r0) ?_
  refine zr_bipush (v := 8) dX10_openCase_6 (by decide) ?_
  refine zr_icmp_ne (tgt := 20) dX10_openCase_8 (by decide) (fun c_8 => absurd (by rw [hc]; rfl) c_8) (fun c_8 => ?_)
  refine zr_aload_n dX10_openCase_11 rfl ?_
  refine zr_iconst (v := 1) dX10_openCase_12 (by decide) ?_
  refine zr_iconst (v := 1) dX10_openCase_13 (by decide) ?_
  refine zr_bipush (v := 8) dX10_openCase_14 (by decide) ?_
  refine zr_callVi [] dX10_openCase_16 vX10_141 (qX10_denies hX (p := 1) (n := 1) (q := 8) h0) h0 (by decide) (by decide) (by decide) rfl rfl (Nat.le_of_ble_eq_true rfl) (by decide) rfl (fun kr1 s_kr1 h_kr1 => ?_)
  obtain ⟨e_kr1, F_kr1, g0_kr1⟩ := h_kr1
  have kh2 : s_kr1.1 (y + 1) = .inl (0, 82, .inl g) := zFr.get F_kr1 (by omega) h1
  have kh3 : s_kr1.1 (y + 2) = .inl (0, 656, .inl kp) := zFr.get F_kr1 (by omega) h2
  have kh4 : s_kr1.1 (y + 3) = .inl (0, 82, .inl sv) := zFr.get F_kr1 (by omega) h3
  have kh5 : s_kr1.1 (y + 4) = .inl (0, 82, .inl bf) := zFr.get F_kr1 (by omega) h4
  have kh6 : s_kr1.1 (y + 5) = .inl (0, 60, .inl ip) := zFr.get F_kr1 (by omega) h5
  have kh7 : s_kr1.1 (y + 6) = .inl (1, 400, .inl sg) := zFr.get F_kr1 (by omega) h6
  have kh8 : s_kr1.1 (y + 11) = .inl (0, 93, .inl td) := zFr.get F_kr1 (by omega) h11
  have kR9 : zWa y s_kr1 := zWa.fr hWa F_kr1 (by intro q h1 h2 h3; (try simp only [zIn, zJf] at h3); omega)
  have kR10 : zCy y s_kr1 := zCy.fr hC F_kr1 (by intro q h1 h2 h3; (try simp only [zIn, zJf] at h3); omega)
  have kR11 : zXa y s_kr1 := zXa.fr hX9 F_kr1 (by intro q h1 h2 h3; (try simp only [zIn, zJf] at h3); omega)
  have kR12 : zOa y s_kr1 := zOa.fr hOt F_kr1 (by intro q h1 h2 h3; (try simp only [zIn, zJf] at h3); omega)
  have kF13 := zFr.tr zFr.rf (P := zMq y) F_kr1 (by intro q hq; unfold zMq; omega)
  obtain rfl := e_kr1.symm
  exact zr_ireturn dX10_openCase_19 rfl (rfl) (⟨_, rfl, trivial, kF13, ⟨_, _, _, _, _, _, _, _, g0_kr1, ⟨f4, f5, f6, rfl, rfl, rfl, rfl, rfl, f13, f14, f16, f27⟩, kh2, kh3, kh4, kh5, kh6, kh7, kh8, kR9, kR10, kR11, kR12, gr, gS, gK, hm8, gU, hn60, hT, hll, hln⟩⟩)

set_option maxHeartbeats 400000 in
set_option maxRecDepth 100000 in
theorem qX10_cross {X : zX} (hX : X.1.stackTraces = false) {σ : zS} {y : Nat} {w tm cd dn : Int32} {K : zDk} {A S : zDk} {m : Nat} {U : Nat → zDk} {n : Nat} {T : Nat → Int32} {ll : Nat} {ln : Nat → Int32} {hs kf ld dt dc : Int32} {i : Nat} {c : Int32} (hM : zMo y w tm cd dn K A S m U n T ll ln hs kf ld dt dc σ) (gA : zGd A) (hi : i < kC A) (hl : ¬ zlet c = 0) (hr : kR A i = -1) (hn : kN A i < 16) (wU : ∀ t, t < m → zDw (U t)) : zMet X mX10_cross yX10_cross 4 0 0 [.ref y, .int (nI i), .int c] σ (zI (fun y_ s => y_ = nI (kN A i + 1) ∧ zFr σ s (zMq y) ∧ zMo y w tm 0 0 K (aWord A i (kN A i + 1) (upd (kL A i) (kN A i) (zlet c))) S (mN w m) (UN w A U) n T ll ln hs kf ld dt dc s)) := by
  refine zMet_of (ls := [some (.ref y), some (.int (nI i)), some (.int c), none]) rfl (by decide +kernel) rfl (fun h => by cases h) hX (Nat.le_of_ble_eq_true rfl) rfl ?_
  obtain ⟨F, g, kp, sv, bf, ip, sg, td, h0, hf, h1, h2, h3, h4, h5, h6, h11, hWa, hC, hX9, hOt, gr, gS, gK, hm8, gU, hn60, hT, hll, hln⟩ := id hM
  obtain ⟨f4, f5, f6, f7, f8, f9, f10, f11, f13, f14, f16, f27⟩ := id hf
  have hA := gA.1
  obtain ⟨r0, r1, rc, rp⟩ := id gr
  obtain ⟨hC8, hP8, hW⟩ := id hA
  refine zr_iload_n dX10_cross_0 rfl ?_
  refine zr_pSi [] dX10_cross_1 vX10_152 (qX10_read hX (c := c)) (by decide) (by decide) (by decide) rfl rfl (Nat.le_of_ble_eq_true rfl) rfl ?_
  refine zr_istore_n (ls' := [some (.ref y), some (.int (nI i)), some (.int c), some (.int ((zlet c)))]) dX10_cross_4 rfl (by decide) rfl ?_
  refine zr_aload_n dX10_cross_5 rfl ?_
  refine zr_aload_n dX10_cross_6 rfl ?_
  refine zr_iload_n dX10_cross_7 rfl ?_
  refine zr_pVi [.ref y] dX10_cross_8 vX10_131 (qX10_isCase hX (p := nI i) h0 h1 r0 (by omega)) h0 (by decide) (by decide) (by decide) rfl rfl (Nat.le_of_ble_eq_true rfl) (by decide) rfl ?_
  refine zr_if_ne (tgt := 18) dX10_cross_11 (by decide) (fun c_11 => ?_) (fun c_11 => absurd c_11 (fun q => ite10.mp q (isin_y hi (by omega))))
  refine zr_iload_n dX10_cross_18 rfl ?_
  refine zr_if_ne (tgt := 26) dX10_cross_19 (by decide) (fun c_19 => ?_) (fun c_19 => absurd c_19 (hl))
  refine zr_iconst (v := 0) dX10_cross_26 (by decide) ?_
  refine zr_callVi [] dX10_cross_27 vX10_135 (qX10_fails hX (p := 0) h0) h0 (by decide) (by decide) (by decide) rfl rfl (Nat.le_of_ble_eq_true rfl) (by decide) rfl (fun kr1 s_kr1 h_kr1 => ?_)
  obtain ⟨e_kr1, F_kr1, g0_kr1⟩ := h_kr1
  have kh2 : s_kr1.1 (y + 1) = .inl (0, 82, .inl g) := zFr.get F_kr1 (by omega) h1
  have kh3 : s_kr1.1 (y + 2) = .inl (0, 656, .inl kp) := zFr.get F_kr1 (by omega) h2
  have kh4 : s_kr1.1 (y + 3) = .inl (0, 82, .inl sv) := zFr.get F_kr1 (by omega) h3
  have kh5 : s_kr1.1 (y + 4) = .inl (0, 82, .inl bf) := zFr.get F_kr1 (by omega) h4
  have kh6 : s_kr1.1 (y + 5) = .inl (0, 60, .inl ip) := zFr.get F_kr1 (by omega) h5
  have kh7 : s_kr1.1 (y + 6) = .inl (1, 400, .inl sg) := zFr.get F_kr1 (by omega) h6
  have kh8 : s_kr1.1 (y + 11) = .inl (0, 93, .inl td) := zFr.get F_kr1 (by omega) h11
  have kR9 : zWa y s_kr1 := zWa.fr hWa F_kr1 (by intro q h1 h2 h3; (try simp only [zIn, zJf] at h3); omega)
  have kR10 : zCy y s_kr1 := zCy.fr hC F_kr1 (by intro q h1 h2 h3; (try simp only [zIn, zJf] at h3); omega)
  have kR11 : zXa y s_kr1 := zXa.fr hX9 F_kr1 (by intro q h1 h2 h3; (try simp only [zIn, zJf] at h3); omega)
  have kR12 : zOa y s_kr1 := zOa.fr hOt F_kr1 (by intro q h1 h2 h3; (try simp only [zIn, zJf] at h3); omega)
  have kF13 := zFr.tr zFr.rf (P := zMq y) F_kr1 (by intro q hq; unfold zMq; omega)
  replace e_kr1 := e_kr1.trans (if_pos (by decide) : (_ : Int32) = 0)
  obtain rfl := e_kr1.symm
  refine zr_if_eq (tgt := 35) dX10_cross_30 (by decide) (fun c_30 => ?_) (fun c_30 => absurd (by decide) c_30)
  refine zr_aload_n dX10_cross_35 rfl ?_
  refine zr_iload_n dX10_cross_36 rfl ?_
  refine zr_iconst (v := 1) dX10_cross_37 (by decide) ?_
  refine zr_pVi [] dX10_cross_38 vX10_149 (qX10_of hX (i := i) (k := 1) g0_kr1 kh2 (by omega)) g0_kr1 (by decide) (by decide) (by decide) rfl rfl (Nat.le_of_ble_eq_true rfl) (by decide) rfl ?_
  refine zr_eqi (x' := (zvd A i)) ((rc i hi).2.1) ?_
  refine zr_if_le (tgt := 57) dX10_cross_41 (by decide) (fun c_41 => ?_) (fun c_41 => absurd ((zvd_le A i).mpr hr) c_41)
  refine zr_aload_n dX10_cross_57 rfl ?_
  refine zr_iload_n dX10_cross_58 rfl ?_
  refine zr_iconst (v := 0) dX10_cross_59 (by decide) ?_
  refine zr_pVi [] dX10_cross_60 vX10_149 (qX10_of hX (i := i) (k := 0) g0_kr1 kh2 (by omega)) g0_kr1 (by decide) (by decide) (by decide) rfl rfl (Nat.le_of_ble_eq_true rfl) (by decide) rfl ?_
  refine zr_eqi (x' := nI (kN A i)) ((rc i hi).1) ?_
  refine zr_bipush (v := 16) dX10_cross_63 (by decide) ?_
  refine zr_icmp_ne (tgt := 77) dX10_cross_65 (by decide) (fun c_65 => ?_) (fun c_65 => absurd c_65 (fun h => absurd ((nI_eq (a := kN A i) (b := 16) (by omega) (by omega)).mp h) (by omega)))
  refine zr_aload_n dX10_cross_77 rfl ?_
  refine zr_aload_n dX10_cross_78 rfl ?_
  refine zr_getM (v := .ref (y + 1)) dX10_cross_79 fX10_7 g0_kr1 rfl ?_
  refine zr_callVv [] dX10_cross_82 vX10_145 (qX10_keeps hX (r := y + 1) g0_kr1 kh2 (by omega) (by omega) kh3 f5 f6 hm8 gr hA gU wU) g0_kr1 (by decide) (by decide) (by decide) rfl rfl (Nat.le_of_ble_eq_true rfl) (by decide) rfl (fun s0 h_ => ?_)
  obtain ⟨F0, g00, kp1, kc1, gU1⟩ := h_
  have kh14 : s0.1 (y + 1) = .inl (0, 82, .inl g) := zFr.get F0 (by omega) kh2
  have kh15 : s0.1 (y + 3) = .inl (0, 82, .inl sv) := zFr.get F0 (by omega) kh4
  have kh16 : s0.1 (y + 4) = .inl (0, 82, .inl bf) := zFr.get F0 (by omega) kh5
  have kh17 : s0.1 (y + 5) = .inl (0, 60, .inl ip) := zFr.get F0 (by omega) kh6
  have kh18 : s0.1 (y + 6) = .inl (1, 400, .inl sg) := zFr.get F0 (by omega) kh7
  have kh19 : s0.1 (y + 11) = .inl (0, 93, .inl td) := zFr.get F0 (by omega) kh8
  have kR20 := zWa.fr kR9 F0 (by intro q a b c; omega)
  have kR21 := zCy.fr kR10 F0 (by intro q a b c; omega)
  have kR22 := zXa.fr kR11 F0 (by intro q a b c; omega)
  have kR23 := zOa.fr kR12 F0 (by intro q a b c; omega)
  have kF24 := zFr.tr kF13 F0 (by intro q hq; unfold zMq; omega)
  refine zr_aload_n dX10_cross_85 rfl ?_
  refine zr_iload_n dX10_cross_86 rfl ?_
  refine zr_pSi [.ref y] dX10_cross_87 vX10_138 (qX10_caseAt hX (i := i)) (by decide) (by decide) (by decide) rfl rfl (Nat.le_of_ble_eq_true rfl) rfl ?_
  refine zr_aload_n dX10_cross_90 rfl ?_
  refine zr_iload_n dX10_cross_91 rfl ?_
  refine zr_iconst (v := 0) dX10_cross_92 (by decide) ?_
  refine zr_pVi [.int (nI (2 + 5 * i)), .ref y] dX10_cross_93 vX10_149 (qX10_of hX (i := i) (k := 0) g00 kh14 (by omega)) g00 (by decide) (by decide) (by decide) rfl rfl (Nat.le_of_ble_eq_true rfl) (by decide) rfl ?_
  refine zr_eqi (x' := nI (kN A i)) ((rc i hi).1) ?_
  refine zr_iload_n dX10_cross_96 rfl ?_
  refine zr_callVv [] dX10_cross_97 vX10_90 (qX10_lays hX (w := 2 + 5 * i) (k := kN A i) (l := (zlet c)) g00 kh14 (by omega) (by omega)) g00 (by decide) (by decide) (by decide) rfl rfl (Nat.le_of_ble_eq_true rfl) (by decide) rfl (fun s_kr25 h_kr25 => ?_)
  obtain ⟨F_kr25, g0_kr25⟩ := h_kr25
  have kh26 : s_kr25.1 (y + 3) = .inl (0, 82, .inl sv) := zFr.get F_kr25 (by omega) kh15
  have kh27 : s_kr25.1 (y + 4) = .inl (0, 82, .inl bf) := zFr.get F_kr25 (by omega) kh16
  have kh28 : s_kr25.1 (y + 5) = .inl (0, 60, .inl ip) := zFr.get F_kr25 (by omega) kh17
  have kh29 : s_kr25.1 (y + 6) = .inl (1, 400, .inl sg) := zFr.get F_kr25 (by omega) kh18
  have kh30 : s_kr25.1 (y + 11) = .inl (0, 93, .inl td) := zFr.get F_kr25 (by omega) kh19
  have kh31 : s_kr25.1 y = zmO y (upd (upd (upd F 5 (nI (mN w m))) 7 0) 8 0) := zFr.get F_kr25 (by omega) g00
  have kh32 : s_kr25.1 (y + 2) = .inl (0, 656, .inl kp1) := zFr.get F_kr25 (by omega) kc1
  have kR33 : zWa y s_kr25 := zWa.fr kR20 F_kr25 (by intro q h1 h2 h3; (try simp only [zIn, zJf] at h3); omega)
  have kR34 : zCy y s_kr25 := zCy.fr kR21 F_kr25 (by intro q h1 h2 h3; (try simp only [zIn, zJf] at h3); omega)
  have kR35 : zXa y s_kr25 := zXa.fr kR22 F_kr25 (by intro q h1 h2 h3; (try simp only [zIn, zJf] at h3); omega)
  have kR36 : zOa y s_kr25 := zOa.fr kR23 F_kr25 (by intro q h1 h2 h3; (try simp only [zIn, zJf] at h3); omega)
  have kF37 := zFr.tr kF24 F_kr25 (by intro q hq; unfold zMq; omega)
  refine zr_aload_n dX10_cross_100 rfl ?_
  refine zr_getM (v := .ref (y + 1)) dX10_cross_101 fX10_7 kh31 rfl ?_
  refine zr_iload_n dX10_cross_104 rfl ?_
  refine zr_pSi [.ref ((y + 1))] dX10_cross_105 vX10_138 (qX10_caseAt hX (i := i)) (by decide) (by decide) (by decide) rfl rfl (Nat.le_of_ble_eq_true rfl) rfl ?_
  refine zr_iconst (v := 0) dX10_cross_108 (by decide) ?_
  refine zr_iadd dX10_cross_109 ?_
  refine zr_eqi (x' := nI ((2 + 5 * i) + 0)) (nI_add (2 + 5 * i) 0) ?_
  refine zr_dup2 dX10_cross_110 rfl rfl ?_
  refine zr_iaload dX10_cross_111 g0_kr25 (vp_in_nI (n := (2 + 5 * i) + 0) (by omega) (by omega)) ?_
  rw [nI_clamp (n := (2 + 5 * i) + 0) (by omega)]
  refine zr_eqi (x' := nI (kN A i)) ((zlg_o g (2 + 5 * i) (kN A i) (zlet c) (by omega)).trans (rc i hi).1) ?_
  refine zr_iconst (v := 1) dX10_cross_112 (by decide) ?_
  refine zr_iadd dX10_cross_113 ?_
  refine zr_eqi (x' := nI ((kN A i) + 1)) (nI_add (kN A i) 1) ?_
  refine zr_iastore dX10_cross_114 g0_kr25 (vp_in_nI (n := (2 + 5 * i) + 0) (by omega) (by omega)) ?_
  rw [nI_clamp (n := (2 + 5 * i) + 0) (by omega)]
  refine zr_sig (fun ks38 e_ks38 => ?_)
  have kh39 : ks38.1 (y + 1) = .inl (0, 82, .inl (upd (zlg g (2 + 5 * i) (kN A i) (zlet c)) ((2 + 5 * i) + 0) (nI ((kN A i) + 1)))) := by rw [e_ks38]; exact zup_at _ _ _
  have kh40 : ks38.1 (y + 3) = .inl (0, 82, .inl sv) := by rw [e_ks38, zup_ne _ _ (by omega)]; exact kh26
  have kh41 : ks38.1 (y + 4) = .inl (0, 82, .inl bf) := by rw [e_ks38, zup_ne _ _ (by omega)]; exact kh27
  have kh42 : ks38.1 (y + 5) = .inl (0, 60, .inl ip) := by rw [e_ks38, zup_ne _ _ (by omega)]; exact kh28
  have kh43 : ks38.1 (y + 6) = .inl (1, 400, .inl sg) := by rw [e_ks38, zup_ne _ _ (by omega)]; exact kh29
  have kh44 : ks38.1 (y + 11) = .inl (0, 93, .inl td) := by rw [e_ks38, zup_ne _ _ (by omega)]; exact kh30
  have kh45 : ks38.1 y = zmO y (upd (upd (upd F 5 (nI (mN w m))) 7 0) 8 0) := by rw [e_ks38, zup_ne _ _ (by omega)]; exact kh31
  have kh46 : ks38.1 (y + 2) = .inl (0, 656, .inl kp1) := by rw [e_ks38, zup_ne _ _ (by omega)]; exact kh32
  have kF47 := zFr.put kF37 e_ks38 (by unfold zMq; omega)
  have kR48 : zWa y ks38 := zWa.fr kR33 (zFr.put (P := fun q => q = (y + 1)) zFr.rf e_ks38 rfl) (by intro q h1 h2 h3; (try simp only [zIn, zJf] at h3); omega)
  have kR49 : zCy y ks38 := zCy.fr kR34 (zFr.put (P := fun q => q = (y + 1)) zFr.rf e_ks38 rfl) (by intro q h1 h2 h3; (try simp only [zIn, zJf] at h3); omega)
  have kR50 : zXa y ks38 := zXa.fr kR35 (zFr.put (P := fun q => q = (y + 1)) zFr.rf e_ks38 rfl) (by intro q h1 h2 h3; (try simp only [zIn, zJf] at h3); omega)
  have kR51 : zOa y ks38 := zOa.fr kR36 (zFr.put (P := fun q => q = (y + 1)) zFr.rf e_ks38 rfl) (by intro q h1 h2 h3; (try simp only [zIn, zJf] at h3); omega)
  refine zr_aload_n dX10_cross_115 rfl ?_
  refine zr_iload_n dX10_cross_116 rfl ?_
  refine zr_iconst (v := 0) dX10_cross_117 (by decide) ?_
  refine zr_pVi [] dX10_cross_118 vX10_149 (qX10_of hX (i := i) (k := 0) kh45 kh39 (by omega)) kh45 (by decide) (by decide) (by decide) rfl rfl (Nat.le_of_ble_eq_true rfl) (by decide) rfl ?_
  refine zr_eqi (x' := nI (kN A i + 1)) (upd_at _ _ _) ?_
  exact zr_ireturn dX10_cross_121 rfl (rfl) (⟨_, rfl, rfl, kF47, ⟨_, _, _, _, _, _, _, _, kh45, ⟨f4, rfl, f6, rfl, rfl, f9, f10, f11, f13, f14, f16, f27⟩, kh39, kh46, kh40, kh41, kh42, kh43, kh44, kR48, kR49, kR50, kR51, (gr.cross gA hi hr hn (zlet_lt hl)), gS, gK, (mN_8 hm8), gU1, hn60, hT, hll, hln⟩⟩)

set_option maxHeartbeats 400000 in
set_option maxRecDepth 100000 in
theorem qX10_crossD2 {X : zX} (hX : X.1.stackTraces = false) {σ : zS} {y : Nat} {w tm cd dn : Int32} {K : zDk} {A S : zDk} {m : Nat} {U : Nat → zDk} {n : Nat} {T : Nat → Int32} {ll : Nat} {ln : Nat → Int32} {hs kf ld dt dc : Int32} {i : Nat} {c : Int32} (hM : zMo y w tm cd dn K A S m U n T ll ln hs kf ld dt dc σ) (gA : zGd A) (hi : i < kC A) (hl : ¬ zlet c = 0) (hr : ¬ kR A i = -1) : zMet X mX10_cross yX10_cross 4 0 0 [.ref y, .int (nI i), .int c] σ (zI (fun y_ s => True ∧ zFr σ s (zMq y) ∧ zMo y w tm 3 1 K A S m U n T ll ln hs kf 2 (kR A i) 0 s)) := by
  refine zMet_of (ls := [some (.ref y), some (.int (nI i)), some (.int c), none]) rfl (by decide +kernel) rfl (fun h => by cases h) hX (Nat.le_of_ble_eq_true rfl) rfl ?_
  obtain ⟨F, g, kp, sv, bf, ip, sg, td, h0, hf, h1, h2, h3, h4, h5, h6, h11, hWa, hC, hX9, hOt, gr, gS, gK, hm8, gU, hn60, hT, hll, hln⟩ := id hM
  obtain ⟨f4, f5, f6, f7, f8, f9, f10, f11, f13, f14, f16, f27⟩ := id hf
  have hA := gA.1
  obtain ⟨r0, r1, rc, rp⟩ := id gr
  obtain ⟨hC8, hP8, hW⟩ := id hA
  refine zr_iload_n dX10_cross_0 rfl ?_
  refine zr_pSi [] dX10_cross_1 vX10_152 (qX10_read hX (c := c)) (by decide) (by decide) (by decide) rfl rfl (Nat.le_of_ble_eq_true rfl) rfl ?_
  refine zr_istore_n (ls' := [some (.ref y), some (.int (nI i)), some (.int c), some (.int ((zlet c)))]) dX10_cross_4 rfl (by decide) rfl ?_
  refine zr_aload_n dX10_cross_5 rfl ?_
  refine zr_aload_n dX10_cross_6 rfl ?_
  refine zr_iload_n dX10_cross_7 rfl ?_
  refine zr_pVi [.ref y] dX10_cross_8 vX10_131 (qX10_isCase hX (p := nI i) h0 h1 r0 (by omega)) h0 (by decide) (by decide) (by decide) rfl rfl (Nat.le_of_ble_eq_true rfl) (by decide) rfl ?_
  refine zr_if_ne (tgt := 18) dX10_cross_11 (by decide) (fun c_11 => ?_) (fun c_11 => absurd c_11 (fun q => ite10.mp q (isin_y hi (by omega))))
  refine zr_iload_n dX10_cross_18 rfl ?_
  refine zr_if_ne (tgt := 26) dX10_cross_19 (by decide) (fun c_19 => ?_) (fun c_19 => absurd c_19 (hl))
  refine zr_iconst (v := 0) dX10_cross_26 (by decide) ?_
  refine zr_callVi [] dX10_cross_27 vX10_135 (qX10_fails hX (p := 0) h0) h0 (by decide) (by decide) (by decide) rfl rfl (Nat.le_of_ble_eq_true rfl) (by decide) rfl (fun kr1 s_kr1 h_kr1 => ?_)
  obtain ⟨e_kr1, F_kr1, g0_kr1⟩ := h_kr1
  have kh2 : s_kr1.1 (y + 1) = .inl (0, 82, .inl g) := zFr.get F_kr1 (by omega) h1
  have kh3 : s_kr1.1 (y + 2) = .inl (0, 656, .inl kp) := zFr.get F_kr1 (by omega) h2
  have kh4 : s_kr1.1 (y + 3) = .inl (0, 82, .inl sv) := zFr.get F_kr1 (by omega) h3
  have kh5 : s_kr1.1 (y + 4) = .inl (0, 82, .inl bf) := zFr.get F_kr1 (by omega) h4
  have kh6 : s_kr1.1 (y + 5) = .inl (0, 60, .inl ip) := zFr.get F_kr1 (by omega) h5
  have kh7 : s_kr1.1 (y + 6) = .inl (1, 400, .inl sg) := zFr.get F_kr1 (by omega) h6
  have kh8 : s_kr1.1 (y + 11) = .inl (0, 93, .inl td) := zFr.get F_kr1 (by omega) h11
  have kR9 : zWa y s_kr1 := zWa.fr hWa F_kr1 (by intro q h1 h2 h3; (try simp only [zIn, zJf] at h3); omega)
  have kR10 : zCy y s_kr1 := zCy.fr hC F_kr1 (by intro q h1 h2 h3; (try simp only [zIn, zJf] at h3); omega)
  have kR11 : zXa y s_kr1 := zXa.fr hX9 F_kr1 (by intro q h1 h2 h3; (try simp only [zIn, zJf] at h3); omega)
  have kR12 : zOa y s_kr1 := zOa.fr hOt F_kr1 (by intro q h1 h2 h3; (try simp only [zIn, zJf] at h3); omega)
  have kF13 := zFr.tr zFr.rf (P := zMq y) F_kr1 (by intro q hq; unfold zMq; omega)
  replace e_kr1 := e_kr1.trans (if_pos (by decide) : (_ : Int32) = 0)
  obtain rfl := e_kr1.symm
  refine zr_if_eq (tgt := 35) dX10_cross_30 (by decide) (fun c_30 => ?_) (fun c_30 => absurd (by decide) c_30)
  refine zr_aload_n dX10_cross_35 rfl ?_
  refine zr_iload_n dX10_cross_36 rfl ?_
  refine zr_iconst (v := 1) dX10_cross_37 (by decide) ?_
  refine zr_pVi [] dX10_cross_38 vX10_149 (qX10_of hX (i := i) (k := 1) g0_kr1 kh2 (by omega)) g0_kr1 (by decide) (by decide) (by decide) rfl rfl (Nat.le_of_ble_eq_true rfl) (by decide) rfl ?_
  refine zr_eqi (x' := (zvd A i)) ((rc i hi).2.1) ?_
  refine zr_if_le (tgt := 57) dX10_cross_41 (by decide) (fun c_41 => absurd c_41 (fun q => hr ((zvd_le A i).mp q))) (fun c_41 => ?_)
  refine zr_aload_n dX10_cross_44 rfl ?_
  refine zr_iconst (v := 3) dX10_cross_45 (by decide) ?_
  refine zr_iconst (v := 2) dX10_cross_46 (by decide) ?_
  refine zr_aload_n dX10_cross_47 rfl ?_
  refine zr_iload_n dX10_cross_48 rfl ?_
  refine zr_iconst (v := 2) dX10_cross_49 (by decide) ?_
  refine zr_pVi [.int 2, .int 3, .ref y] dX10_cross_50 vX10_149 (qX10_of hX (i := i) (k := 2) g0_kr1 kh2 (by omega)) g0_kr1 (by decide) (by decide) (by decide) rfl rfl (Nat.le_of_ble_eq_true rfl) (by decide) rfl ?_
  refine zr_eqi (x' := (kR A i)) ((rc i hi).2.2.1) ?_
  refine zr_callVi [] dX10_cross_53 vX10_141 (qX10_denies hX (p := 3) (n := 2) (q := (kR A i)) g0_kr1) g0_kr1 (by decide) (by decide) (by decide) rfl rfl (Nat.le_of_ble_eq_true rfl) (by decide) rfl (fun kr14 s_kr14 h_kr14 => ?_)
  obtain ⟨e_kr14, F_kr14, g0_kr14⟩ := h_kr14
  have kh15 : s_kr14.1 (y + 1) = .inl (0, 82, .inl g) := zFr.get F_kr14 (by omega) kh2
  have kh16 : s_kr14.1 (y + 2) = .inl (0, 656, .inl kp) := zFr.get F_kr14 (by omega) kh3
  have kh17 : s_kr14.1 (y + 3) = .inl (0, 82, .inl sv) := zFr.get F_kr14 (by omega) kh4
  have kh18 : s_kr14.1 (y + 4) = .inl (0, 82, .inl bf) := zFr.get F_kr14 (by omega) kh5
  have kh19 : s_kr14.1 (y + 5) = .inl (0, 60, .inl ip) := zFr.get F_kr14 (by omega) kh6
  have kh20 : s_kr14.1 (y + 6) = .inl (1, 400, .inl sg) := zFr.get F_kr14 (by omega) kh7
  have kh21 : s_kr14.1 (y + 11) = .inl (0, 93, .inl td) := zFr.get F_kr14 (by omega) kh8
  have kR22 : zWa y s_kr14 := zWa.fr kR9 F_kr14 (by intro q h1 h2 h3; (try simp only [zIn, zJf] at h3); omega)
  have kR23 : zCy y s_kr14 := zCy.fr kR10 F_kr14 (by intro q h1 h2 h3; (try simp only [zIn, zJf] at h3); omega)
  have kR24 : zXa y s_kr14 := zXa.fr kR11 F_kr14 (by intro q h1 h2 h3; (try simp only [zIn, zJf] at h3); omega)
  have kR25 : zOa y s_kr14 := zOa.fr kR12 F_kr14 (by intro q h1 h2 h3; (try simp only [zIn, zJf] at h3); omega)
  have kF26 := zFr.tr kF13 F_kr14 (by intro q hq; unfold zMq; omega)
  obtain rfl := e_kr14.symm
  exact zr_ireturn dX10_cross_56 rfl (rfl) (⟨_, rfl, trivial, kF26, ⟨_, _, _, _, _, _, _, _, g0_kr14, ⟨f4, f5, f6, rfl, rfl, rfl, rfl, rfl, f13, f14, f16, f27⟩, kh15, kh16, kh17, kh18, kh19, kh20, kh21, kR22, kR23, kR24, kR25, gr, gS, gK, hm8, gU, hn60, hT, hll, hln⟩⟩)

set_option maxHeartbeats 400000 in
set_option maxRecDepth 100000 in
theorem qX10_crossD1 {X : zX} (hX : X.1.stackTraces = false) {σ : zS} {y : Nat} {w tm cd dn : Int32} {K : zDk} {A S : zDk} {m : Nat} {U : Nat → zDk} {n : Nat} {T : Nat → Int32} {ll : Nat} {ln : Nat → Int32} {hs kf ld dt dc : Int32} {i : Nat} {c : Int32} (hM : zMo y w tm cd dn K A S m U n T ll ln hs kf ld dt dc σ) (gA : zGd A) (hi : i < kC A) (hl : ¬ zlet c = 0) (hr : kR A i = -1) (hn : kN A i = 16) : zMet X mX10_cross yX10_cross 4 0 0 [.ref y, .int (nI i), .int c] σ (zI (fun y_ s => True ∧ zFr σ s (zMq y) ∧ zMo y w tm 3 1 K A S m U n T ll ln hs kf 1 16 0 s)) := by
  refine zMet_of (ls := [some (.ref y), some (.int (nI i)), some (.int c), none]) rfl (by decide +kernel) rfl (fun h => by cases h) hX (Nat.le_of_ble_eq_true rfl) rfl ?_
  obtain ⟨F, g, kp, sv, bf, ip, sg, td, h0, hf, h1, h2, h3, h4, h5, h6, h11, hWa, hC, hX9, hOt, gr, gS, gK, hm8, gU, hn60, hT, hll, hln⟩ := id hM
  obtain ⟨f4, f5, f6, f7, f8, f9, f10, f11, f13, f14, f16, f27⟩ := id hf
  have hA := gA.1
  obtain ⟨r0, r1, rc, rp⟩ := id gr
  obtain ⟨hC8, hP8, hW⟩ := id hA
  refine zr_iload_n dX10_cross_0 rfl ?_
  refine zr_pSi [] dX10_cross_1 vX10_152 (qX10_read hX (c := c)) (by decide) (by decide) (by decide) rfl rfl (Nat.le_of_ble_eq_true rfl) rfl ?_
  refine zr_istore_n (ls' := [some (.ref y), some (.int (nI i)), some (.int c), some (.int ((zlet c)))]) dX10_cross_4 rfl (by decide) rfl ?_
  refine zr_aload_n dX10_cross_5 rfl ?_
  refine zr_aload_n dX10_cross_6 rfl ?_
  refine zr_iload_n dX10_cross_7 rfl ?_
  refine zr_pVi [.ref y] dX10_cross_8 vX10_131 (qX10_isCase hX (p := nI i) h0 h1 r0 (by omega)) h0 (by decide) (by decide) (by decide) rfl rfl (Nat.le_of_ble_eq_true rfl) (by decide) rfl ?_
  refine zr_if_ne (tgt := 18) dX10_cross_11 (by decide) (fun c_11 => ?_) (fun c_11 => absurd c_11 (fun q => ite10.mp q (isin_y hi (by omega))))
  refine zr_iload_n dX10_cross_18 rfl ?_
  refine zr_if_ne (tgt := 26) dX10_cross_19 (by decide) (fun c_19 => ?_) (fun c_19 => absurd c_19 (hl))
  refine zr_iconst (v := 0) dX10_cross_26 (by decide) ?_
  refine zr_callVi [] dX10_cross_27 vX10_135 (qX10_fails hX (p := 0) h0) h0 (by decide) (by decide) (by decide) rfl rfl (Nat.le_of_ble_eq_true rfl) (by decide) rfl (fun kr1 s_kr1 h_kr1 => ?_)
  obtain ⟨e_kr1, F_kr1, g0_kr1⟩ := h_kr1
  have kh2 : s_kr1.1 (y + 1) = .inl (0, 82, .inl g) := zFr.get F_kr1 (by omega) h1
  have kh3 : s_kr1.1 (y + 2) = .inl (0, 656, .inl kp) := zFr.get F_kr1 (by omega) h2
  have kh4 : s_kr1.1 (y + 3) = .inl (0, 82, .inl sv) := zFr.get F_kr1 (by omega) h3
  have kh5 : s_kr1.1 (y + 4) = .inl (0, 82, .inl bf) := zFr.get F_kr1 (by omega) h4
  have kh6 : s_kr1.1 (y + 5) = .inl (0, 60, .inl ip) := zFr.get F_kr1 (by omega) h5
  have kh7 : s_kr1.1 (y + 6) = .inl (1, 400, .inl sg) := zFr.get F_kr1 (by omega) h6
  have kh8 : s_kr1.1 (y + 11) = .inl (0, 93, .inl td) := zFr.get F_kr1 (by omega) h11
  have kR9 : zWa y s_kr1 := zWa.fr hWa F_kr1 (by intro q h1 h2 h3; (try simp only [zIn, zJf] at h3); omega)
  have kR10 : zCy y s_kr1 := zCy.fr hC F_kr1 (by intro q h1 h2 h3; (try simp only [zIn, zJf] at h3); omega)
  have kR11 : zXa y s_kr1 := zXa.fr hX9 F_kr1 (by intro q h1 h2 h3; (try simp only [zIn, zJf] at h3); omega)
  have kR12 : zOa y s_kr1 := zOa.fr hOt F_kr1 (by intro q h1 h2 h3; (try simp only [zIn, zJf] at h3); omega)
  have kF13 := zFr.tr zFr.rf (P := zMq y) F_kr1 (by intro q hq; unfold zMq; omega)
  replace e_kr1 := e_kr1.trans (if_pos (by decide) : (_ : Int32) = 0)
  obtain rfl := e_kr1.symm
  refine zr_if_eq (tgt := 35) dX10_cross_30 (by decide) (fun c_30 => ?_) (fun c_30 => absurd (by decide) c_30)
  refine zr_aload_n dX10_cross_35 rfl ?_
  refine zr_iload_n dX10_cross_36 rfl ?_
  refine zr_iconst (v := 1) dX10_cross_37 (by decide) ?_
  refine zr_pVi [] dX10_cross_38 vX10_149 (qX10_of hX (i := i) (k := 1) g0_kr1 kh2 (by omega)) g0_kr1 (by decide) (by decide) (by decide) rfl rfl (Nat.le_of_ble_eq_true rfl) (by decide) rfl ?_
  refine zr_eqi (x' := (zvd A i)) ((rc i hi).2.1) ?_
  refine zr_if_le (tgt := 57) dX10_cross_41 (by decide) (fun c_41 => ?_) (fun c_41 => absurd ((zvd_le A i).mpr hr) c_41)
  refine zr_aload_n dX10_cross_57 rfl ?_
  refine zr_iload_n dX10_cross_58 rfl ?_
  refine zr_iconst (v := 0) dX10_cross_59 (by decide) ?_
  refine zr_pVi [] dX10_cross_60 vX10_149 (qX10_of hX (i := i) (k := 0) g0_kr1 kh2 (by omega)) g0_kr1 (by decide) (by decide) (by decide) rfl rfl (Nat.le_of_ble_eq_true rfl) (by decide) rfl ?_
  refine zr_eqi (x' := nI (kN A i)) ((rc i hi).1) ?_
  refine zr_bipush (v := 16) dX10_cross_63 (by decide) ?_
  refine zr_icmp_ne (tgt := 77) dX10_cross_65 (by decide) (fun c_65 => absurd (by rw [hn]; rfl) c_65) (fun c_65 => ?_)
  refine zr_aload_n dX10_cross_68 rfl ?_
  refine zr_iconst (v := 3) dX10_cross_69 (by decide) ?_
  refine zr_iconst (v := 1) dX10_cross_70 (by decide) ?_
  refine zr_bipush (v := 16) dX10_cross_71 (by decide) ?_
  refine zr_callVi [] dX10_cross_73 vX10_141 (qX10_denies hX (p := 3) (n := 1) (q := 16) g0_kr1) g0_kr1 (by decide) (by decide) (by decide) rfl rfl (Nat.le_of_ble_eq_true rfl) (by decide) rfl (fun kr14 s_kr14 h_kr14 => ?_)
  obtain ⟨e_kr14, F_kr14, g0_kr14⟩ := h_kr14
  have kh15 : s_kr14.1 (y + 1) = .inl (0, 82, .inl g) := zFr.get F_kr14 (by omega) kh2
  have kh16 : s_kr14.1 (y + 2) = .inl (0, 656, .inl kp) := zFr.get F_kr14 (by omega) kh3
  have kh17 : s_kr14.1 (y + 3) = .inl (0, 82, .inl sv) := zFr.get F_kr14 (by omega) kh4
  have kh18 : s_kr14.1 (y + 4) = .inl (0, 82, .inl bf) := zFr.get F_kr14 (by omega) kh5
  have kh19 : s_kr14.1 (y + 5) = .inl (0, 60, .inl ip) := zFr.get F_kr14 (by omega) kh6
  have kh20 : s_kr14.1 (y + 6) = .inl (1, 400, .inl sg) := zFr.get F_kr14 (by omega) kh7
  have kh21 : s_kr14.1 (y + 11) = .inl (0, 93, .inl td) := zFr.get F_kr14 (by omega) kh8
  have kR22 : zWa y s_kr14 := zWa.fr kR9 F_kr14 (by intro q h1 h2 h3; (try simp only [zIn, zJf] at h3); omega)
  have kR23 : zCy y s_kr14 := zCy.fr kR10 F_kr14 (by intro q h1 h2 h3; (try simp only [zIn, zJf] at h3); omega)
  have kR24 : zXa y s_kr14 := zXa.fr kR11 F_kr14 (by intro q h1 h2 h3; (try simp only [zIn, zJf] at h3); omega)
  have kR25 : zOa y s_kr14 := zOa.fr kR12 F_kr14 (by intro q h1 h2 h3; (try simp only [zIn, zJf] at h3); omega)
  have kF26 := zFr.tr kF13 F_kr14 (by intro q hq; unfold zMq; omega)
  obtain rfl := e_kr14.symm
  exact zr_ireturn dX10_cross_76 rfl (rfl) (⟨_, rfl, trivial, kF26, ⟨_, _, _, _, _, _, _, _, g0_kr14, ⟨f4, f5, f6, rfl, rfl, rfl, rfl, rfl, f13, f14, f16, f27⟩, kh15, kh16, kh17, kh18, kh19, kh20, kh21, kR22, kR23, kR24, kR25, gr, gS, gK, hm8, gU, hn60, hT, hll, hln⟩⟩)

set_option maxHeartbeats 400000 in
set_option maxRecDepth 100000 in
theorem qX10_crossN {X : zX} (hX : X.1.stackTraces = false) {σ : zS} {y : Nat} {w tm cd dn : Int32} {K : zDk} {A S : zDk} {m : Nat} {U : Nat → zDk} {n : Nat} {T : Nat → Int32} {ll : Nat} {ln : Nat → Int32} {hs kf ld dt dc : Int32} {i : Nat} {c : Int32} (hM : zMo y w tm cd dn K A S m U n T ll ln hs kf ld dt dc σ) (gA : zGd A) (hi : i < kC A) (hl : zlet c = 0) : zMet X mX10_cross yX10_cross 4 0 0 [.ref y, .int (nI i), .int c] σ (zI (fun y_ s => True ∧ zFr σ s (zMq y) ∧ zMo y w tm 2 0 K A S m U n T ll ln hs kf ld dt dc s)) := by
  refine zMet_of (ls := [some (.ref y), some (.int (nI i)), some (.int c), none]) rfl (by decide +kernel) rfl (fun h => by cases h) hX (Nat.le_of_ble_eq_true rfl) rfl ?_
  obtain ⟨F, g, kp, sv, bf, ip, sg, td, h0, hf, h1, h2, h3, h4, h5, h6, h11, hWa, hC, hX9, hOt, gr, gS, gK, hm8, gU, hn60, hT, hll, hln⟩ := id hM
  obtain ⟨f4, f5, f6, f7, f8, f9, f10, f11, f13, f14, f16, f27⟩ := id hf
  have hA := gA.1
  obtain ⟨r0, r1, rc, rp⟩ := id gr
  obtain ⟨hC8, hP8, hW⟩ := id hA
  refine zr_iload_n dX10_cross_0 rfl ?_
  refine zr_pSi [] dX10_cross_1 vX10_152 (qX10_read hX (c := c)) (by decide) (by decide) (by decide) rfl rfl (Nat.le_of_ble_eq_true rfl) rfl ?_
  refine zr_istore_n (ls' := [some (.ref y), some (.int (nI i)), some (.int c), some (.int ((zlet c)))]) dX10_cross_4 rfl (by decide) rfl ?_
  refine zr_aload_n dX10_cross_5 rfl ?_
  refine zr_aload_n dX10_cross_6 rfl ?_
  refine zr_iload_n dX10_cross_7 rfl ?_
  refine zr_pVi [.ref y] dX10_cross_8 vX10_131 (qX10_isCase hX (p := nI i) h0 h1 r0 (by omega)) h0 (by decide) (by decide) (by decide) rfl rfl (Nat.le_of_ble_eq_true rfl) (by decide) rfl ?_
  refine zr_if_ne (tgt := 18) dX10_cross_11 (by decide) (fun c_11 => ?_) (fun c_11 => absurd c_11 (fun q => ite10.mp q (isin_y hi (by omega))))
  refine zr_iload_n dX10_cross_18 rfl ?_
  refine zr_if_ne (tgt := 26) dX10_cross_19 (by decide) (fun c_19 => absurd (hl) c_19) (fun c_19 => ?_)
  refine zr_iconst (v := 2) dX10_cross_22 (by decide) ?_
  refine zr_goto (tgt := 27) dX10_cross_23 (by decide) ?_
  refine zr_callVi [] dX10_cross_27 vX10_135 (qX10_fails hX (p := 2) h0) h0 (by decide) (by decide) (by decide) rfl rfl (Nat.le_of_ble_eq_true rfl) (by decide) rfl (fun kr1 s_kr1 h_kr1 => ?_)
  obtain ⟨e_kr1, F_kr1, g0_kr1⟩ := h_kr1
  have kh2 : s_kr1.1 (y + 1) = .inl (0, 82, .inl g) := zFr.get F_kr1 (by omega) h1
  have kh3 : s_kr1.1 (y + 2) = .inl (0, 656, .inl kp) := zFr.get F_kr1 (by omega) h2
  have kh4 : s_kr1.1 (y + 3) = .inl (0, 82, .inl sv) := zFr.get F_kr1 (by omega) h3
  have kh5 : s_kr1.1 (y + 4) = .inl (0, 82, .inl bf) := zFr.get F_kr1 (by omega) h4
  have kh6 : s_kr1.1 (y + 5) = .inl (0, 60, .inl ip) := zFr.get F_kr1 (by omega) h5
  have kh7 : s_kr1.1 (y + 6) = .inl (1, 400, .inl sg) := zFr.get F_kr1 (by omega) h6
  have kh8 : s_kr1.1 (y + 11) = .inl (0, 93, .inl td) := zFr.get F_kr1 (by omega) h11
  have kR9 : zWa y s_kr1 := zWa.fr hWa F_kr1 (by intro q h1 h2 h3; (try simp only [zIn, zJf] at h3); omega)
  have kR10 : zCy y s_kr1 := zCy.fr hC F_kr1 (by intro q h1 h2 h3; (try simp only [zIn, zJf] at h3); omega)
  have kR11 : zXa y s_kr1 := zXa.fr hX9 F_kr1 (by intro q h1 h2 h3; (try simp only [zIn, zJf] at h3); omega)
  have kR12 : zOa y s_kr1 := zOa.fr hOt F_kr1 (by intro q h1 h2 h3; (try simp only [zIn, zJf] at h3); omega)
  have kF13 := zFr.tr zFr.rf (P := zMq y) F_kr1 (by intro q hq; unfold zMq; omega)
  replace e_kr1 := e_kr1.trans (if_neg (by decide) : (_ : Int32) = 1)
  obtain rfl := e_kr1.symm
  refine zr_if_eq (tgt := 35) dX10_cross_30 (by decide) (fun c_30 => absurd c_30 (by decide)) (fun c_30 => ?_)
  refine zr_iconst (v := 0) dX10_cross_33 (by decide) ?_
  exact zr_ireturn dX10_cross_34 rfl (rfl) (⟨_, rfl, trivial, kF13, ⟨_, _, _, _, _, _, _, _, g0_kr1, ⟨f4, f5, f6, rfl, rfl, f9, f10, f11, f13, f14, f16, f27⟩, kh2, kh3, kh4, kh5, kh6, kh7, kh8, kR9, kR10, kR11, kR12, gr, gS, gK, hm8, gU, hn60, hT, hll, hln⟩⟩)

set_option maxHeartbeats 400000 in
set_option maxRecDepth 100000 in
theorem qX10_crossX {X : zX} (hX : X.1.stackTraces = false) {σ : zS} {y : Nat} {w tm cd dn : Int32} {K : zDk} {A S : zDk} {m : Nat} {U : Nat → zDk} {n : Nat} {T : Nat → Int32} {ll : Nat} {ln : Nat → Int32} {hs kf ld dt dc : Int32} {p : Int32} {c : Int32} (hM : zMo y w tm cd dn K A S m U n T ll ln hs kf ld dt dc σ) (gA : zGd A) (hno : ¬ (¬ p < 0 ∧ p < nI (kC A))) : zMet X mX10_cross yX10_cross 4 0 0 [.ref y, .int p, .int c] σ (zI (fun y_ s => True ∧ zFr σ s (zMq y) ∧ zMo y w tm 1 0 K A S m U n T ll ln hs kf ld dt dc s)) := by
  refine zMet_of (ls := [some (.ref y), some (.int p), some (.int c), none]) rfl (by decide +kernel) rfl (fun h => by cases h) hX (Nat.le_of_ble_eq_true rfl) rfl ?_
  obtain ⟨F, g, kp, sv, bf, ip, sg, td, h0, hf, h1, h2, h3, h4, h5, h6, h11, hWa, hC, hX9, hOt, gr, gS, gK, hm8, gU, hn60, hT, hll, hln⟩ := id hM
  obtain ⟨f4, f5, f6, f7, f8, f9, f10, f11, f13, f14, f16, f27⟩ := id hf
  have hA := gA.1
  obtain ⟨r0, r1, rc, rp⟩ := id gr
  obtain ⟨hC8, hP8, hW⟩ := id hA
  refine zr_iload_n dX10_cross_0 rfl ?_
  refine zr_pSi [] dX10_cross_1 vX10_152 (qX10_read hX (c := c)) (by decide) (by decide) (by decide) rfl rfl (Nat.le_of_ble_eq_true rfl) rfl ?_
  refine zr_istore_n (ls' := [some (.ref y), some (.int p), some (.int c), some (.int ((zlet c)))]) dX10_cross_4 rfl (by decide) rfl ?_
  refine zr_aload_n dX10_cross_5 rfl ?_
  refine zr_aload_n dX10_cross_6 rfl ?_
  refine zr_iload_n dX10_cross_7 rfl ?_
  refine zr_pVi [.ref y] dX10_cross_8 vX10_131 (qX10_isCase hX (p := p) h0 h1 r0 (by omega)) h0 (by decide) (by decide) (by decide) rfl rfl (Nat.le_of_ble_eq_true rfl) (by decide) rfl ?_
  refine zr_if_ne (tgt := 18) dX10_cross_11 (by decide) (fun c_11 => absurd (ite10.mpr hno) c_11) (fun c_11 => ?_)
  refine zr_iconst (v := 1) dX10_cross_14 (by decide) ?_
  refine zr_goto (tgt := 27) dX10_cross_15 (by decide) ?_
  refine zr_callVi [] dX10_cross_27 vX10_135 (qX10_fails hX (p := 1) h0) h0 (by decide) (by decide) (by decide) rfl rfl (Nat.le_of_ble_eq_true rfl) (by decide) rfl (fun kr1 s_kr1 h_kr1 => ?_)
  obtain ⟨e_kr1, F_kr1, g0_kr1⟩ := h_kr1
  have kh2 : s_kr1.1 (y + 1) = .inl (0, 82, .inl g) := zFr.get F_kr1 (by omega) h1
  have kh3 : s_kr1.1 (y + 2) = .inl (0, 656, .inl kp) := zFr.get F_kr1 (by omega) h2
  have kh4 : s_kr1.1 (y + 3) = .inl (0, 82, .inl sv) := zFr.get F_kr1 (by omega) h3
  have kh5 : s_kr1.1 (y + 4) = .inl (0, 82, .inl bf) := zFr.get F_kr1 (by omega) h4
  have kh6 : s_kr1.1 (y + 5) = .inl (0, 60, .inl ip) := zFr.get F_kr1 (by omega) h5
  have kh7 : s_kr1.1 (y + 6) = .inl (1, 400, .inl sg) := zFr.get F_kr1 (by omega) h6
  have kh8 : s_kr1.1 (y + 11) = .inl (0, 93, .inl td) := zFr.get F_kr1 (by omega) h11
  have kR9 : zWa y s_kr1 := zWa.fr hWa F_kr1 (by intro q h1 h2 h3; (try simp only [zIn, zJf] at h3); omega)
  have kR10 : zCy y s_kr1 := zCy.fr hC F_kr1 (by intro q h1 h2 h3; (try simp only [zIn, zJf] at h3); omega)
  have kR11 : zXa y s_kr1 := zXa.fr hX9 F_kr1 (by intro q h1 h2 h3; (try simp only [zIn, zJf] at h3); omega)
  have kR12 : zOa y s_kr1 := zOa.fr hOt F_kr1 (by intro q h1 h2 h3; (try simp only [zIn, zJf] at h3); omega)
  have kF13 := zFr.tr zFr.rf (P := zMq y) F_kr1 (by intro q hq; unfold zMq; omega)
  replace e_kr1 := e_kr1.trans (if_neg (by decide) : (_ : Int32) = 1)
  obtain rfl := e_kr1.symm
  refine zr_if_eq (tgt := 35) dX10_cross_30 (by decide) (fun c_30 => absurd c_30 (by decide)) (fun c_30 => ?_)
  refine zr_iconst (v := 0) dX10_cross_33 (by decide) ?_
  exact zr_ireturn dX10_cross_34 rfl (rfl) (⟨_, rfl, trivial, kF13, ⟨_, _, _, _, _, _, _, _, g0_kr1, ⟨f4, f5, f6, rfl, rfl, f9, f10, f11, f13, f14, f16, f27⟩, kh2, kh3, kh4, kh5, kh6, kh7, kh8, kR9, kR10, kR11, kR12, gr, gS, gK, hm8, gU, hn60, hT, hll, hln⟩⟩)

set_option maxHeartbeats 400000 in
set_option maxRecDepth 100000 in
theorem qX10_cutLast {X : zX} (hX : X.1.stackTraces = false) {σ : zS} {y : Nat} {w tm cd dn : Int32} {K : zDk} {A S : zDk} {m : Nat} {U : Nat → zDk} {n : Nat} {T : Nat → Int32} {ll : Nat} {ln : Nat → Int32} {hs kf ld dt dc : Int32} {i : Nat} (hM : zMo y w tm cd dn K A S m U n T ll ln hs kf ld dt dc σ) (gA : zGd A) (hi : i < kC A) (hr : kR A i = -1) (hn : 0 < kN A i) (wU : ∀ t, t < m → zDw (U t)) : zMet X mX10_cutLast yX10_cutLast 4 0 0 [.ref y, .int (nI i)] σ (zI (fun y_ s => y_ = zchr (kL A i (kN A i - 1)) ∧ zFr σ s (zMq y) ∧ zMo y w tm 0 0 K (aWord A i (kN A i - 1) (kL A i)) S (mN w m) (UN w A U) n T ll ln hs kf ld dt dc s)) := by
  refine zMet_of (ls := [some (.ref y), some (.int (nI i)), none, none]) rfl (by decide +kernel) rfl (fun h => by cases h) hX (Nat.le_of_ble_eq_true rfl) rfl ?_
  obtain ⟨F, g, kp, sv, bf, ip, sg, td, h0, hf, h1, h2, h3, h4, h5, h6, h11, hWa, hC, hX9, hOt, gr, gS, gK, hm8, gU, hn60, hT, hll, hln⟩ := id hM
  obtain ⟨f4, f5, f6, f7, f8, f9, f10, f11, f13, f14, f16, f27⟩ := id hf
  have hA := gA.1
  obtain ⟨r0, r1, rc, rp⟩ := id gr
  obtain ⟨hC8, hP8, hW⟩ := id hA
  have n16 := (hW i (by omega)).1
  refine zr_aload_n dX10_cutLast_0 rfl ?_
  refine zr_iload_n dX10_cutLast_1 rfl ?_
  refine zr_callVi [] dX10_cutLast_2 vX10_155 (qX10_isNone hX (i := i) h0 h1 r0 (by omega) hi) h0 (by decide) (by decide) (by decide) rfl rfl (Nat.le_of_ble_eq_true rfl) (by decide) rfl (fun kr1 s_kr1 h_kr1 => ?_)
  obtain ⟨e_kr1, F_kr1, g0_kr1⟩ := h_kr1
  have kh2 : s_kr1.1 (y + 1) = .inl (0, 82, .inl g) := zFr.get F_kr1 (by omega) h1
  have kh3 : s_kr1.1 (y + 2) = .inl (0, 656, .inl kp) := zFr.get F_kr1 (by omega) h2
  have kh4 : s_kr1.1 (y + 3) = .inl (0, 82, .inl sv) := zFr.get F_kr1 (by omega) h3
  have kh5 : s_kr1.1 (y + 4) = .inl (0, 82, .inl bf) := zFr.get F_kr1 (by omega) h4
  have kh6 : s_kr1.1 (y + 5) = .inl (0, 60, .inl ip) := zFr.get F_kr1 (by omega) h5
  have kh7 : s_kr1.1 (y + 6) = .inl (1, 400, .inl sg) := zFr.get F_kr1 (by omega) h6
  have kh8 : s_kr1.1 (y + 11) = .inl (0, 93, .inl td) := zFr.get F_kr1 (by omega) h11
  have kR9 : zWa y s_kr1 := zWa.fr hWa F_kr1 (by intro q h1 h2 h3; (try simp only [zIn, zJf] at h3); omega)
  have kR10 : zCy y s_kr1 := zCy.fr hC F_kr1 (by intro q h1 h2 h3; (try simp only [zIn, zJf] at h3); omega)
  have kR11 : zXa y s_kr1 := zXa.fr hX9 F_kr1 (by intro q h1 h2 h3; (try simp only [zIn, zJf] at h3); omega)
  have kR12 : zOa y s_kr1 := zOa.fr hOt F_kr1 (by intro q h1 h2 h3; (try simp only [zIn, zJf] at h3); omega)
  have kF13 := zFr.tr zFr.rf (P := zMq y) F_kr1 (by intro q hq; unfold zMq; omega)
  obtain rfl := e_kr1.symm
  refine zr_if_ne (tgt := 16) dX10_cutLast_5 (by decide) (fun c_5 => absurd (by decide) c_5) (fun c_5 => ?_)
  refine zr_aload_n dX10_cutLast_8 rfl ?_
  refine zr_iload_n dX10_cutLast_9 rfl ?_
  refine zr_pVi [] dX10_cutLast_10 vX10_158 (qX10_isClosed hX (i := i) g0_kr1 kh2 gr hA hi hr) g0_kr1 (by decide) (by decide) (by decide) rfl rfl (Nat.le_of_ble_eq_true rfl) (by decide) rfl ?_
  refine zr_if_eq (tgt := 19) dX10_cutLast_13 (by decide) (fun c_13 => ?_) (fun c_13 => absurd (by decide) c_13)
  refine zr_aload_n dX10_cutLast_19 rfl ?_
  refine zr_iload_n dX10_cutLast_20 rfl ?_
  refine zr_iconst (v := 0) dX10_cutLast_21 (by decide) ?_
  refine zr_pVi [] dX10_cutLast_22 vX10_149 (qX10_of hX (i := i) (k := 0) g0_kr1 kh2 (by omega)) g0_kr1 (by decide) (by decide) (by decide) rfl rfl (Nat.le_of_ble_eq_true rfl) (by decide) rfl ?_
  refine zr_eqi (x' := nI (kN A i)) ((rc i hi).1) ?_
  refine zr_if_ne (tgt := 39) dX10_cutLast_25 (by decide) (fun c_25 => ?_) (fun c_25 => absurd c_25 (nI_ne0 hn (by omega)))
  refine zr_aload_n dX10_cutLast_39 rfl ?_
  refine zr_aload_n dX10_cutLast_40 rfl ?_
  refine zr_getM (v := .ref (y + 1)) dX10_cutLast_41 fX10_7 g0_kr1 rfl ?_
  refine zr_callVv [] dX10_cutLast_44 vX10_145 (qX10_keeps hX (r := y + 1) g0_kr1 kh2 (by omega) (by omega) kh3 f5 f6 hm8 gr hA gU wU) g0_kr1 (by decide) (by decide) (by decide) rfl rfl (Nat.le_of_ble_eq_true rfl) (by decide) rfl (fun s0 h_ => ?_)
  obtain ⟨F0, g00, kp1, kc1, gU1⟩ := h_
  have kh14 : s0.1 (y + 1) = .inl (0, 82, .inl g) := zFr.get F0 (by omega) kh2
  have kh15 : s0.1 (y + 3) = .inl (0, 82, .inl sv) := zFr.get F0 (by omega) kh4
  have kh16 : s0.1 (y + 4) = .inl (0, 82, .inl bf) := zFr.get F0 (by omega) kh5
  have kh17 : s0.1 (y + 5) = .inl (0, 60, .inl ip) := zFr.get F0 (by omega) kh6
  have kh18 : s0.1 (y + 6) = .inl (1, 400, .inl sg) := zFr.get F0 (by omega) kh7
  have kh19 : s0.1 (y + 11) = .inl (0, 93, .inl td) := zFr.get F0 (by omega) kh8
  have kR20 := zWa.fr kR9 F0 (by intro q a b c; omega)
  have kR21 := zCy.fr kR10 F0 (by intro q a b c; omega)
  have kR22 := zXa.fr kR11 F0 (by intro q a b c; omega)
  have kR23 := zOa.fr kR12 F0 (by intro q a b c; omega)
  have kF24 := zFr.tr kF13 F0 (by intro q hq; unfold zMq; omega)
  refine zr_aload_n dX10_cutLast_47 rfl ?_
  refine zr_iload_n dX10_cutLast_48 rfl ?_
  refine zr_iconst (v := 0) dX10_cutLast_49 (by decide) ?_
  refine zr_pVi [] dX10_cutLast_50 vX10_149 (qX10_of hX (i := i) (k := 0) g00 kh14 (by omega)) g00 (by decide) (by decide) (by decide) rfl rfl (Nat.le_of_ble_eq_true rfl) (by decide) rfl ?_
  refine zr_eqi (x' := nI (kN A i)) ((rc i hi).1) ?_
  refine zr_iconst (v := 1) dX10_cutLast_53 (by decide) ?_
  refine zr_isub dX10_cutLast_54 ?_
  refine zr_eqi (x' := nI ((kN A i) - 1)) (pk_sub (a := (kN A i)) (b := 1) (by omega)) ?_
  refine zr_istore_n (ls' := [some (.ref y), some (.int (nI i)), some (.int (nI ((kN A i) - 1))), none]) dX10_cutLast_55 rfl (by decide) rfl ?_
  refine zr_aload_n dX10_cutLast_56 rfl ?_
  refine zr_iload_n dX10_cutLast_57 rfl ?_
  refine zr_pSi [.ref y] dX10_cutLast_58 vX10_138 (qX10_caseAt hX (i := i)) (by decide) (by decide) (by decide) rfl rfl (Nat.le_of_ble_eq_true rfl) rfl ?_
  refine zr_iload_n dX10_cutLast_61 rfl ?_
  refine zr_pVi [] dX10_cutLast_62 vX10_86 (qX10_letter hX (w := 2 + 5 * i) (k := (kN A i) - 1) g00 kh14 (by omega) (by omega)) g00 (by decide) (by decide) (by decide) rfl rfl (Nat.le_of_ble_eq_true rfl) (by decide) rfl ?_
  refine zr_eqi (x' := (kL A i (kN A i - 1))) ((rc i hi).2.2.2 _ (by omega)) ?_
  refine zr_istore_n (ls' := [some (.ref y), some (.int (nI i)), some (.int (nI ((kN A i) - 1))), some (.int ((kL A i (kN A i - 1))))]) dX10_cutLast_65 rfl (by decide) rfl ?_
  refine zr_aload_n dX10_cutLast_66 rfl ?_
  refine zr_iload_n dX10_cutLast_67 rfl ?_
  refine zr_pSi [.ref y] dX10_cutLast_68 vX10_138 (qX10_caseAt hX (i := i)) (by decide) (by decide) (by decide) rfl rfl (Nat.le_of_ble_eq_true rfl) rfl ?_
  refine zr_iload_n dX10_cutLast_71 rfl ?_
  refine zr_iconst (v := 1) dX10_cutLast_72 (by decide) ?_
  refine zr_callVv [] dX10_cutLast_73 vX10_90 (qX10_lays hX (w := 2 + 5 * i) (k := (kN A i) - 1) (l := 1) g00 kh14 (by omega) (by omega)) g00 (by decide) (by decide) (by decide) rfl rfl (Nat.le_of_ble_eq_true rfl) (by decide) rfl (fun s_kr25 h_kr25 => ?_)
  obtain ⟨F_kr25, g0_kr25⟩ := h_kr25
  have kh26 : s_kr25.1 (y + 3) = .inl (0, 82, .inl sv) := zFr.get F_kr25 (by omega) kh15
  have kh27 : s_kr25.1 (y + 4) = .inl (0, 82, .inl bf) := zFr.get F_kr25 (by omega) kh16
  have kh28 : s_kr25.1 (y + 5) = .inl (0, 60, .inl ip) := zFr.get F_kr25 (by omega) kh17
  have kh29 : s_kr25.1 (y + 6) = .inl (1, 400, .inl sg) := zFr.get F_kr25 (by omega) kh18
  have kh30 : s_kr25.1 (y + 11) = .inl (0, 93, .inl td) := zFr.get F_kr25 (by omega) kh19
  have kh31 : s_kr25.1 y = zmO y (upd (upd (upd F 5 (nI (mN w m))) 7 0) 8 0) := zFr.get F_kr25 (by omega) g00
  have kh32 : s_kr25.1 (y + 2) = .inl (0, 656, .inl kp1) := zFr.get F_kr25 (by omega) kc1
  have kR33 : zWa y s_kr25 := zWa.fr kR20 F_kr25 (by intro q h1 h2 h3; (try simp only [zIn, zJf] at h3); omega)
  have kR34 : zCy y s_kr25 := zCy.fr kR21 F_kr25 (by intro q h1 h2 h3; (try simp only [zIn, zJf] at h3); omega)
  have kR35 : zXa y s_kr25 := zXa.fr kR22 F_kr25 (by intro q h1 h2 h3; (try simp only [zIn, zJf] at h3); omega)
  have kR36 : zOa y s_kr25 := zOa.fr kR23 F_kr25 (by intro q h1 h2 h3; (try simp only [zIn, zJf] at h3); omega)
  have kF37 := zFr.tr kF24 F_kr25 (by intro q hq; unfold zMq; omega)
  refine zr_aload_n dX10_cutLast_76 rfl ?_
  refine zr_getM (v := .ref (y + 1)) dX10_cutLast_77 fX10_7 kh31 rfl ?_
  refine zr_iload_n dX10_cutLast_80 rfl ?_
  refine zr_pSi [.ref ((y + 1))] dX10_cutLast_81 vX10_138 (qX10_caseAt hX (i := i)) (by decide) (by decide) (by decide) rfl rfl (Nat.le_of_ble_eq_true rfl) rfl ?_
  refine zr_iconst (v := 0) dX10_cutLast_84 (by decide) ?_
  refine zr_iadd dX10_cutLast_85 ?_
  refine zr_eqi (x' := nI ((2 + 5 * i) + 0)) (nI_add (2 + 5 * i) 0) ?_
  refine zr_iload_n dX10_cutLast_86 rfl ?_
  refine zr_iastore dX10_cutLast_87 g0_kr25 (vp_in_nI (n := (2 + 5 * i) + 0) (by omega) (by omega)) ?_
  rw [nI_clamp (n := (2 + 5 * i) + 0) (by omega)]
  refine zr_sig (fun ks38 e_ks38 => ?_)
  have kh39 : ks38.1 (y + 1) = .inl (0, 82, .inl (upd (zlg g (2 + 5 * i) ((kN A i) - 1) 1) ((2 + 5 * i) + 0) (nI ((kN A i) - 1)))) := by rw [e_ks38]; exact zup_at _ _ _
  have kh40 : ks38.1 (y + 3) = .inl (0, 82, .inl sv) := by rw [e_ks38, zup_ne _ _ (by omega)]; exact kh26
  have kh41 : ks38.1 (y + 4) = .inl (0, 82, .inl bf) := by rw [e_ks38, zup_ne _ _ (by omega)]; exact kh27
  have kh42 : ks38.1 (y + 5) = .inl (0, 60, .inl ip) := by rw [e_ks38, zup_ne _ _ (by omega)]; exact kh28
  have kh43 : ks38.1 (y + 6) = .inl (1, 400, .inl sg) := by rw [e_ks38, zup_ne _ _ (by omega)]; exact kh29
  have kh44 : ks38.1 (y + 11) = .inl (0, 93, .inl td) := by rw [e_ks38, zup_ne _ _ (by omega)]; exact kh30
  have kh45 : ks38.1 y = zmO y (upd (upd (upd F 5 (nI (mN w m))) 7 0) 8 0) := by rw [e_ks38, zup_ne _ _ (by omega)]; exact kh31
  have kh46 : ks38.1 (y + 2) = .inl (0, 656, .inl kp1) := by rw [e_ks38, zup_ne _ _ (by omega)]; exact kh32
  have kF47 := zFr.put kF37 e_ks38 (by unfold zMq; omega)
  have kR48 : zWa y ks38 := zWa.fr kR33 (zFr.put (P := fun q => q = (y + 1)) zFr.rf e_ks38 rfl) (by intro q h1 h2 h3; (try simp only [zIn, zJf] at h3); omega)
  have kR49 : zCy y ks38 := zCy.fr kR34 (zFr.put (P := fun q => q = (y + 1)) zFr.rf e_ks38 rfl) (by intro q h1 h2 h3; (try simp only [zIn, zJf] at h3); omega)
  have kR50 : zXa y ks38 := zXa.fr kR35 (zFr.put (P := fun q => q = (y + 1)) zFr.rf e_ks38 rfl) (by intro q h1 h2 h3; (try simp only [zIn, zJf] at h3); omega)
  have kR51 : zOa y ks38 := zOa.fr kR36 (zFr.put (P := fun q => q = (y + 1)) zFr.rf e_ks38 rfl) (by intro q h1 h2 h3; (try simp only [zIn, zJf] at h3); omega)
  refine zr_iload_n dX10_cutLast_88 rfl ?_
  refine zr_pSi [] dX10_cutLast_89 vX10_161 (qX10_written hX (l := (kL A i (kN A i - 1)))) (by decide) (by decide) (by decide) rfl rfl (Nat.le_of_ble_eq_true rfl) rfl ?_
  exact zr_ireturn dX10_cutLast_92 rfl (zchr_nar _) (⟨_, rfl, rfl, kF47, ⟨_, _, _, _, _, _, _, _, kh45, ⟨f4, rfl, f6, rfl, rfl, f9, f10, f11, f13, f14, f16, f27⟩, kh39, kh46, kh40, kh41, kh42, kh43, kh44, kR48, kR49, kR50, kR51, (gr.cut gA hi hr hn), gS, gK, (mN_8 hm8), gU1, hn60, hT, hll, hln⟩⟩)

set_option maxHeartbeats 400000 in
set_option maxRecDepth 100000 in
theorem qX10_cutLastD2 {X : zX} (hX : X.1.stackTraces = false) {σ : zS} {y : Nat} {w tm cd dn : Int32} {K : zDk} {A S : zDk} {m : Nat} {U : Nat → zDk} {n : Nat} {T : Nat → Int32} {ll : Nat} {ln : Nat → Int32} {hs kf ld dt dc : Int32} {i : Nat} (hM : zMo y w tm cd dn K A S m U n T ll ln hs kf ld dt dc σ) (gA : zGd A) (hi : i < kC A) (hr : ¬ kR A i = -1) : zMet X mX10_cutLast yX10_cutLast 4 0 0 [.ref y, .int (nI i)] σ (zI (fun y_ s => True ∧ zFr σ s (zMq y) ∧ zMo y w tm 2 1 K A S m U n T ll ln hs kf 2 (kR A i) 0 s)) := by
  refine zMet_of (ls := [some (.ref y), some (.int (nI i)), none, none]) rfl (by decide +kernel) rfl (fun h => by cases h) hX (Nat.le_of_ble_eq_true rfl) rfl ?_
  obtain ⟨F, g, kp, sv, bf, ip, sg, td, h0, hf, h1, h2, h3, h4, h5, h6, h11, hWa, hC, hX9, hOt, gr, gS, gK, hm8, gU, hn60, hT, hll, hln⟩ := id hM
  obtain ⟨f4, f5, f6, f7, f8, f9, f10, f11, f13, f14, f16, f27⟩ := id hf
  have hA := gA.1
  obtain ⟨r0, r1, rc, rp⟩ := id gr
  obtain ⟨hC8, hP8, hW⟩ := id hA
  refine zr_aload_n dX10_cutLast_0 rfl ?_
  refine zr_iload_n dX10_cutLast_1 rfl ?_
  refine zr_callVi [] dX10_cutLast_2 vX10_155 (qX10_isNone hX (i := i) h0 h1 r0 (by omega) hi) h0 (by decide) (by decide) (by decide) rfl rfl (Nat.le_of_ble_eq_true rfl) (by decide) rfl (fun kr1 s_kr1 h_kr1 => ?_)
  obtain ⟨e_kr1, F_kr1, g0_kr1⟩ := h_kr1
  have kh2 : s_kr1.1 (y + 1) = .inl (0, 82, .inl g) := zFr.get F_kr1 (by omega) h1
  have kh3 : s_kr1.1 (y + 2) = .inl (0, 656, .inl kp) := zFr.get F_kr1 (by omega) h2
  have kh4 : s_kr1.1 (y + 3) = .inl (0, 82, .inl sv) := zFr.get F_kr1 (by omega) h3
  have kh5 : s_kr1.1 (y + 4) = .inl (0, 82, .inl bf) := zFr.get F_kr1 (by omega) h4
  have kh6 : s_kr1.1 (y + 5) = .inl (0, 60, .inl ip) := zFr.get F_kr1 (by omega) h5
  have kh7 : s_kr1.1 (y + 6) = .inl (1, 400, .inl sg) := zFr.get F_kr1 (by omega) h6
  have kh8 : s_kr1.1 (y + 11) = .inl (0, 93, .inl td) := zFr.get F_kr1 (by omega) h11
  have kR9 : zWa y s_kr1 := zWa.fr hWa F_kr1 (by intro q h1 h2 h3; (try simp only [zIn, zJf] at h3); omega)
  have kR10 : zCy y s_kr1 := zCy.fr hC F_kr1 (by intro q h1 h2 h3; (try simp only [zIn, zJf] at h3); omega)
  have kR11 : zXa y s_kr1 := zXa.fr hX9 F_kr1 (by intro q h1 h2 h3; (try simp only [zIn, zJf] at h3); omega)
  have kR12 : zOa y s_kr1 := zOa.fr hOt F_kr1 (by intro q h1 h2 h3; (try simp only [zIn, zJf] at h3); omega)
  have kF13 := zFr.tr zFr.rf (P := zMq y) F_kr1 (by intro q hq; unfold zMq; omega)
  obtain rfl := e_kr1.symm
  refine zr_if_ne (tgt := 16) dX10_cutLast_5 (by decide) (fun c_5 => absurd (by decide) c_5) (fun c_5 => ?_)
  refine zr_aload_n dX10_cutLast_8 rfl ?_
  refine zr_iload_n dX10_cutLast_9 rfl ?_
  refine zr_callVi [] dX10_cutLast_10 vX10_158 (qX10_isClosedX hX (i := i) g0_kr1 kh2 gr hA hi hr) g0_kr1 (by decide) (by decide) (by decide) rfl rfl (Nat.le_of_ble_eq_true rfl) (by decide) rfl (fun kr14 s_kr14 h_kr14 => ?_)
  obtain ⟨e_kr14, F_kr14, g0_kr14⟩ := h_kr14
  have kh15 : s_kr14.1 (y + 1) = .inl (0, 82, .inl g) := zFr.get F_kr14 (by omega) kh2
  have kh16 : s_kr14.1 (y + 2) = .inl (0, 656, .inl kp) := zFr.get F_kr14 (by omega) kh3
  have kh17 : s_kr14.1 (y + 3) = .inl (0, 82, .inl sv) := zFr.get F_kr14 (by omega) kh4
  have kh18 : s_kr14.1 (y + 4) = .inl (0, 82, .inl bf) := zFr.get F_kr14 (by omega) kh5
  have kh19 : s_kr14.1 (y + 5) = .inl (0, 60, .inl ip) := zFr.get F_kr14 (by omega) kh6
  have kh20 : s_kr14.1 (y + 6) = .inl (1, 400, .inl sg) := zFr.get F_kr14 (by omega) kh7
  have kh21 : s_kr14.1 (y + 11) = .inl (0, 93, .inl td) := zFr.get F_kr14 (by omega) kh8
  have kR22 : zWa y s_kr14 := zWa.fr kR9 F_kr14 (by intro q h1 h2 h3; (try simp only [zIn, zJf] at h3); omega)
  have kR23 : zCy y s_kr14 := zCy.fr kR10 F_kr14 (by intro q h1 h2 h3; (try simp only [zIn, zJf] at h3); omega)
  have kR24 : zXa y s_kr14 := zXa.fr kR11 F_kr14 (by intro q h1 h2 h3; (try simp only [zIn, zJf] at h3); omega)
  have kR25 : zOa y s_kr14 := zOa.fr kR12 F_kr14 (by intro q h1 h2 h3; (try simp only [zIn, zJf] at h3); omega)
  have kF26 := zFr.tr kF13 F_kr14 (by intro q hq; unfold zMq; omega)
  obtain rfl := e_kr14.symm
  refine zr_if_eq (tgt := 19) dX10_cutLast_13 (by decide) (fun c_13 => absurd c_13 (by decide)) (fun c_13 => ?_)
  refine zr_bipush (v := 32) dX10_cutLast_16 (by decide) ?_
  exact zr_ireturn dX10_cutLast_18 rfl (rfl) (⟨_, rfl, trivial, kF26, ⟨_, _, _, _, _, _, _, _, g0_kr14, ⟨f4, f5, f6, rfl, rfl, rfl, rfl, rfl, f13, f14, f16, f27⟩, kh15, kh16, kh17, kh18, kh19, kh20, kh21, kR22, kR23, kR24, kR25, gr, gS, gK, hm8, gU, hn60, hT, hll, hln⟩⟩)

set_option maxHeartbeats 400000 in
set_option maxRecDepth 100000 in
theorem qX10_cutLastD4 {X : zX} (hX : X.1.stackTraces = false) {σ : zS} {y : Nat} {w tm cd dn : Int32} {K : zDk} {A S : zDk} {m : Nat} {U : Nat → zDk} {n : Nat} {T : Nat → Int32} {ll : Nat} {ln : Nat → Int32} {hs kf ld dt dc : Int32} {i : Nat} (hM : zMo y w tm cd dn K A S m U n T ll ln hs kf ld dt dc σ) (gA : zGd A) (hi : i < kC A) (hr : kR A i = -1) (hn : kN A i = 0) : zMet X mX10_cutLast yX10_cutLast 4 0 0 [.ref y, .int (nI i)] σ (zI (fun y_ s => True ∧ zFr σ s (zMq y) ∧ zMo y w tm 2 1 K A S m U n T ll ln hs kf 4 (nI i) 0 s)) := by
  refine zMet_of (ls := [some (.ref y), some (.int (nI i)), none, none]) rfl (by decide +kernel) rfl (fun h => by cases h) hX (Nat.le_of_ble_eq_true rfl) rfl ?_
  obtain ⟨F, g, kp, sv, bf, ip, sg, td, h0, hf, h1, h2, h3, h4, h5, h6, h11, hWa, hC, hX9, hOt, gr, gS, gK, hm8, gU, hn60, hT, hll, hln⟩ := id hM
  obtain ⟨f4, f5, f6, f7, f8, f9, f10, f11, f13, f14, f16, f27⟩ := id hf
  have hA := gA.1
  obtain ⟨r0, r1, rc, rp⟩ := id gr
  obtain ⟨hC8, hP8, hW⟩ := id hA
  refine zr_aload_n dX10_cutLast_0 rfl ?_
  refine zr_iload_n dX10_cutLast_1 rfl ?_
  refine zr_callVi [] dX10_cutLast_2 vX10_155 (qX10_isNone hX (i := i) h0 h1 r0 (by omega) hi) h0 (by decide) (by decide) (by decide) rfl rfl (Nat.le_of_ble_eq_true rfl) (by decide) rfl (fun kr1 s_kr1 h_kr1 => ?_)
  obtain ⟨e_kr1, F_kr1, g0_kr1⟩ := h_kr1
  have kh2 : s_kr1.1 (y + 1) = .inl (0, 82, .inl g) := zFr.get F_kr1 (by omega) h1
  have kh3 : s_kr1.1 (y + 2) = .inl (0, 656, .inl kp) := zFr.get F_kr1 (by omega) h2
  have kh4 : s_kr1.1 (y + 3) = .inl (0, 82, .inl sv) := zFr.get F_kr1 (by omega) h3
  have kh5 : s_kr1.1 (y + 4) = .inl (0, 82, .inl bf) := zFr.get F_kr1 (by omega) h4
  have kh6 : s_kr1.1 (y + 5) = .inl (0, 60, .inl ip) := zFr.get F_kr1 (by omega) h5
  have kh7 : s_kr1.1 (y + 6) = .inl (1, 400, .inl sg) := zFr.get F_kr1 (by omega) h6
  have kh8 : s_kr1.1 (y + 11) = .inl (0, 93, .inl td) := zFr.get F_kr1 (by omega) h11
  have kR9 : zWa y s_kr1 := zWa.fr hWa F_kr1 (by intro q h1 h2 h3; (try simp only [zIn, zJf] at h3); omega)
  have kR10 : zCy y s_kr1 := zCy.fr hC F_kr1 (by intro q h1 h2 h3; (try simp only [zIn, zJf] at h3); omega)
  have kR11 : zXa y s_kr1 := zXa.fr hX9 F_kr1 (by intro q h1 h2 h3; (try simp only [zIn, zJf] at h3); omega)
  have kR12 : zOa y s_kr1 := zOa.fr hOt F_kr1 (by intro q h1 h2 h3; (try simp only [zIn, zJf] at h3); omega)
  have kF13 := zFr.tr zFr.rf (P := zMq y) F_kr1 (by intro q hq; unfold zMq; omega)
  obtain rfl := e_kr1.symm
  refine zr_if_ne (tgt := 16) dX10_cutLast_5 (by decide) (fun c_5 => absurd (by decide) c_5) (fun c_5 => ?_)
  refine zr_aload_n dX10_cutLast_8 rfl ?_
  refine zr_iload_n dX10_cutLast_9 rfl ?_
  refine zr_pVi [] dX10_cutLast_10 vX10_158 (qX10_isClosed hX (i := i) g0_kr1 kh2 gr hA hi hr) g0_kr1 (by decide) (by decide) (by decide) rfl rfl (Nat.le_of_ble_eq_true rfl) (by decide) rfl ?_
  refine zr_if_eq (tgt := 19) dX10_cutLast_13 (by decide) (fun c_13 => ?_) (fun c_13 => absurd (by decide) c_13)
  refine zr_aload_n dX10_cutLast_19 rfl ?_
  refine zr_iload_n dX10_cutLast_20 rfl ?_
  refine zr_iconst (v := 0) dX10_cutLast_21 (by decide) ?_
  refine zr_pVi [] dX10_cutLast_22 vX10_149 (qX10_of hX (i := i) (k := 0) g0_kr1 kh2 (by omega)) g0_kr1 (by decide) (by decide) (by decide) rfl rfl (Nat.le_of_ble_eq_true rfl) (by decide) rfl ?_
  refine zr_eqi (x' := nI (kN A i)) ((rc i hi).1) ?_
  refine zr_if_ne (tgt := 39) dX10_cutLast_25 (by decide) (fun c_25 => absurd (by rw [hn]; rfl) c_25) (fun c_25 => ?_)
  refine zr_aload_n dX10_cutLast_28 rfl ?_
  refine zr_iconst (v := 2) dX10_cutLast_29 (by decide) ?_
  refine zr_iconst (v := 4) dX10_cutLast_30 (by decide) ?_
  refine zr_iload_n dX10_cutLast_31 rfl ?_
  refine zr_callVi [] dX10_cutLast_32 vX10_141 (qX10_denies hX (p := 2) (n := 4) (q := nI i) g0_kr1) g0_kr1 (by decide) (by decide) (by decide) rfl rfl (Nat.le_of_ble_eq_true rfl) (by decide) rfl (fun kr14 s_kr14 h_kr14 => ?_)
  obtain ⟨e_kr14, F_kr14, g0_kr14⟩ := h_kr14
  have kh15 : s_kr14.1 (y + 1) = .inl (0, 82, .inl g) := zFr.get F_kr14 (by omega) kh2
  have kh16 : s_kr14.1 (y + 2) = .inl (0, 656, .inl kp) := zFr.get F_kr14 (by omega) kh3
  have kh17 : s_kr14.1 (y + 3) = .inl (0, 82, .inl sv) := zFr.get F_kr14 (by omega) kh4
  have kh18 : s_kr14.1 (y + 4) = .inl (0, 82, .inl bf) := zFr.get F_kr14 (by omega) kh5
  have kh19 : s_kr14.1 (y + 5) = .inl (0, 60, .inl ip) := zFr.get F_kr14 (by omega) kh6
  have kh20 : s_kr14.1 (y + 6) = .inl (1, 400, .inl sg) := zFr.get F_kr14 (by omega) kh7
  have kh21 : s_kr14.1 (y + 11) = .inl (0, 93, .inl td) := zFr.get F_kr14 (by omega) kh8
  have kR22 : zWa y s_kr14 := zWa.fr kR9 F_kr14 (by intro q h1 h2 h3; (try simp only [zIn, zJf] at h3); omega)
  have kR23 : zCy y s_kr14 := zCy.fr kR10 F_kr14 (by intro q h1 h2 h3; (try simp only [zIn, zJf] at h3); omega)
  have kR24 : zXa y s_kr14 := zXa.fr kR11 F_kr14 (by intro q h1 h2 h3; (try simp only [zIn, zJf] at h3); omega)
  have kR25 : zOa y s_kr14 := zOa.fr kR12 F_kr14 (by intro q h1 h2 h3; (try simp only [zIn, zJf] at h3); omega)
  have kF26 := zFr.tr kF13 F_kr14 (by intro q hq; unfold zMq; omega)
  obtain rfl := e_kr14.symm
  refine zr_pop dX10_cutLast_35 rfl ?_
  refine zr_bipush (v := 32) dX10_cutLast_36 (by decide) ?_
  exact zr_ireturn dX10_cutLast_38 rfl (rfl) (⟨_, rfl, trivial, kF26, ⟨_, _, _, _, _, _, _, _, g0_kr14, ⟨f4, f5, f6, rfl, rfl, rfl, rfl, rfl, f13, f14, f16, f27⟩, kh15, kh16, kh17, kh18, kh19, kh20, kh21, kR22, kR23, kR24, kR25, gr, gS, gK, hm8, gU, hn60, hT, hll, hln⟩⟩)

set_option maxHeartbeats 400000 in
set_option maxRecDepth 100000 in
theorem qX10_cutLastX {X : zX} (hX : X.1.stackTraces = false) {σ : zS} {y : Nat} {w tm cd dn : Int32} {K : zDk} {A S : zDk} {m : Nat} {U : Nat → zDk} {n : Nat} {T : Nat → Int32} {ll : Nat} {ln : Nat → Int32} {hs kf ld dt dc : Int32} {p : Int32} (hM : zMo y w tm cd dn K A S m U n T ll ln hs kf ld dt dc σ) (gA : zGd A) (hno : ¬ (¬ p < 0 ∧ p < nI (kC A))) : zMet X mX10_cutLast yX10_cutLast 4 0 0 [.ref y, .int p] σ (zI (fun y_ s => True ∧ zFr σ s (zMq y) ∧ zMo y w tm 1 0 K A S m U n T ll ln hs kf ld dt dc s)) := by
  refine zMet_of (ls := [some (.ref y), some (.int p), none, none]) rfl (by decide +kernel) rfl (fun h => by cases h) hX (Nat.le_of_ble_eq_true rfl) rfl ?_
  obtain ⟨F, g, kp, sv, bf, ip, sg, td, h0, hf, h1, h2, h3, h4, h5, h6, h11, hWa, hC, hX9, hOt, gr, gS, gK, hm8, gU, hn60, hT, hll, hln⟩ := id hM
  obtain ⟨f4, f5, f6, f7, f8, f9, f10, f11, f13, f14, f16, f27⟩ := id hf
  have hA := gA.1
  obtain ⟨r0, r1, rc, rp⟩ := id gr
  obtain ⟨hC8, hP8, hW⟩ := id hA
  refine zr_aload_n dX10_cutLast_0 rfl ?_
  refine zr_iload_n dX10_cutLast_1 rfl ?_
  refine zr_callVi [] dX10_cutLast_2 vX10_155 (qX10_isNoneX hX h0 h1 r0 (by omega) hno) h0 (by decide) (by decide) (by decide) rfl rfl (Nat.le_of_ble_eq_true rfl) (by decide) rfl (fun kr1 s_kr1 h_kr1 => ?_)
  obtain ⟨e_kr1, F_kr1, g0_kr1⟩ := h_kr1
  have kh2 : s_kr1.1 (y + 1) = .inl (0, 82, .inl g) := zFr.get F_kr1 (by omega) h1
  have kh3 : s_kr1.1 (y + 2) = .inl (0, 656, .inl kp) := zFr.get F_kr1 (by omega) h2
  have kh4 : s_kr1.1 (y + 3) = .inl (0, 82, .inl sv) := zFr.get F_kr1 (by omega) h3
  have kh5 : s_kr1.1 (y + 4) = .inl (0, 82, .inl bf) := zFr.get F_kr1 (by omega) h4
  have kh6 : s_kr1.1 (y + 5) = .inl (0, 60, .inl ip) := zFr.get F_kr1 (by omega) h5
  have kh7 : s_kr1.1 (y + 6) = .inl (1, 400, .inl sg) := zFr.get F_kr1 (by omega) h6
  have kh8 : s_kr1.1 (y + 11) = .inl (0, 93, .inl td) := zFr.get F_kr1 (by omega) h11
  have kR9 : zWa y s_kr1 := zWa.fr hWa F_kr1 (by intro q h1 h2 h3; (try simp only [zIn, zJf] at h3); omega)
  have kR10 : zCy y s_kr1 := zCy.fr hC F_kr1 (by intro q h1 h2 h3; (try simp only [zIn, zJf] at h3); omega)
  have kR11 : zXa y s_kr1 := zXa.fr hX9 F_kr1 (by intro q h1 h2 h3; (try simp only [zIn, zJf] at h3); omega)
  have kR12 : zOa y s_kr1 := zOa.fr hOt F_kr1 (by intro q h1 h2 h3; (try simp only [zIn, zJf] at h3); omega)
  have kF13 := zFr.tr zFr.rf (P := zMq y) F_kr1 (by intro q hq; unfold zMq; omega)
  obtain rfl := e_kr1.symm
  refine zr_if_ne (tgt := 16) dX10_cutLast_5 (by decide) (fun c_5 => ?_) (fun c_5 => absurd c_5 (by decide))
  refine zr_bipush (v := 32) dX10_cutLast_16 (by decide) ?_
  exact zr_ireturn dX10_cutLast_18 rfl (rfl) (⟨_, rfl, trivial, kF13, ⟨_, _, _, _, _, _, _, _, g0_kr1, ⟨f4, f5, f6, rfl, rfl, f9, f10, f11, f13, f14, f16, f27⟩, kh2, kh3, kh4, kh5, kh6, kh7, kh8, kR9, kR10, kR11, kR12, gr, gS, gK, hm8, gU, hn60, hT, hll, hln⟩⟩)

set_option maxHeartbeats 400000 in
set_option maxRecDepth 100000 in
theorem l_cc {X : zX} (hX : X.1.stackTraces = false) {σ : zS} {y : Nat} {F : Nat → Int32} {A : zDk} {i : Nat} {Q : zO → zS → Prop} (h0 : σ.1 y = zmO y F) (h19 : F 19 = nI (kN A i)) (n16 : kN A i ≤ 16) (kk : ∀ (s : zS) (wk : Nat → Int32) (x3 : Option Value), zFr σ s (fun q => q = y + 7) → s.1 (y + 7) = .inl (0, 1300, .inl wk) → (∀ t, t < kN A i → wk t = (zRP (kL A i) (kN A i)).2 t) → zW X mX10_cancel 4 0 0 Q 95 [some (.ref y), some (.int (nI i)), some (.int (nI (zRP (kL A i) (kN A i)).1)), x3] [] s) : ∀ (j k : Nat) (s : zS) (wk : Nat → Int32) (u : Nat), k + j = (kN A i) → (zFr σ s (fun q => q = y + 7)) → (s.1 (y + 7) = .inl (0, 1300, .inl wk)) → (∀ t, t < kN A i → wk t = (zRP (kL A i) k).2 t) → (u = (zRP (kL A i) k).1) → zW X mX10_cancel 4 0 0 (Q) 38 [some (.ref y), some (.int (nI i)), some (.int (nI u)), some (.int (nI k))] [] s := by
  intro j
  induction j with
  | zero =>
    intro k s wk u hk hFr kw hm hu
    have k0 := zFr.get hFr (by omega) h0
    have le := zRP_le (kL A i) k
    refine zr_iload_n dX10_cancel_38 rfl ?_
    refine zr_aload_n dX10_cancel_39 rfl ?_
    refine zr_getM (v := .int (F 19)) dX10_cancel_40 fX10_79 k0 rfl ?_
    refine zr_eqi (x' := nI (kN A i)) (h19) ?_
    refine zr_icmp_ge (tgt := 95) dX10_cancel_43 (by decide) (fun c_43 => ?_) (fun c_43 => absurd ((nI_leI (a := kN A i) (b := k) (by omega) (by omega)).mpr (by omega)) c_43)
    have e1 : k = kN A i := (by omega); rw [e1] at hm hu; rw [hu]; exact kk s wk _ hFr kw hm
  | succ j ih =>
    intro k s wk u hk hFr kw hm hu
    have k0 := zFr.get hFr (by omega) h0
    have le := zRP_le (kL A i) k
    refine zr_iload_n dX10_cancel_38 rfl ?_
    refine zr_aload_n dX10_cancel_39 rfl ?_
    refine zr_getM (v := .int (F 19)) dX10_cancel_40 fX10_79 k0 rfl ?_
    refine zr_eqi (x' := nI (kN A i)) (h19) ?_
    refine zr_icmp_ge (tgt := 95) dX10_cancel_43 (by decide) (fun c_43 => absurd c_43 (fun h => absurd ((nI_leI (a := kN A i) (b := k) (by omega) (by omega)).mp h) (by omega))) (fun c_43 => ?_)
    refine zr_iload_n dX10_cancel_46 rfl ?_
    refine zr_if_le (tgt := 74) dX10_cancel_47 (by decide) (fun c_47 => ?_) (fun c_47 => ?_)
    · have cnd : ¬ (0 < (zRP (kL A i) k).1 ∧ (zRP (kL A i) k).2 ((zRP (kL A i) k).1 - 1) = -((zRP (kL A i) k).2 k)) := fun q => by have z := (nI_leI (b := 0) (by omega) (by omega)).mp c_47; omega
      refine zr_aload_n dX10_cancel_74 rfl ?_
      refine zr_getM (v := .ref (y + 7)) dX10_cancel_75 fX10_33 k0 rfl ?_
      refine zr_iload_n dX10_cancel_78 rfl ?_
      refine zr_aload_n dX10_cancel_79 rfl ?_
      refine zr_getM (v := .ref (y + 7)) dX10_cancel_80 fX10_33 k0 rfl ?_
      refine zr_iload_n dX10_cancel_83 rfl ?_
      refine zr_iaload dX10_cancel_84 kw (vp_in_nI (n := k) (by omega) (by omega)) ?_
      rw [nI_clamp (n := k) (by omega)]
      refine zr_iastore dX10_cancel_85 kw (vp_in_nI (n := u) (by omega) (by omega)) ?_
      rw [nI_clamp (n := u) (by omega)]
      refine zr_sig (fun ks1 e_ks1 => ?_)
      have kh2 : ks1.1 y = zmO y F := by rw [e_ks1, zup_ne _ _ (by omega)]; exact k0
      have kh3 : ks1.1 (y + 7) = .inl (0, 1300, .inl (upd wk u (wk k))) := by rw [e_ks1]; exact zup_at _ _ _
      have kF4 := zFr.put hFr e_ks1 rfl
      refine zr_iinc (v := nI (u + 1)) (ls' := [some (.ref y), some (.int (nI i)), some (.int (nI (u + 1))), some (.int (nI k))]) dX10_cancel_86 rfl (nI_1 _) (by decide) rfl ?_
      refine zr_iinc (v := nI (k + 1)) (ls' := [some (.ref y), some (.int (nI i)), some (.int (nI (u + 1))), some (.int (nI (k + 1)))]) dX10_cancel_89 rfl (nI_1 _) (by decide) rfl ?_
      refine zr_goto (tgt := 38) dX10_cancel_92 (by decide) ?_
      exact ih (k + 1) _ _ _ (by omega) (kF4) (kh3) (fun t ht => by simp only [zRP]; rw [if_neg cnd]; simp only [upd]; rw [hu]; split; (exact hm k (by omega)); exact hm t ht) (by simp only [zRP]; rw [if_neg cnd, hu])
    · have u0 : 0 < u := Nat.pos_of_ne_zero (fun q => c_47 (by rw [q]; exact Int32.le_refl _))
      refine zr_aload_n dX10_cancel_50 rfl ?_
      refine zr_getM (v := .ref (y + 7)) dX10_cancel_51 fX10_33 k0 rfl ?_
      refine zr_iload_n dX10_cancel_54 rfl ?_
      refine zr_iconst (v := 1) dX10_cancel_55 (by decide) ?_
      refine zr_isub dX10_cancel_56 ?_
      refine zr_eqi (x' := nI (u - 1)) (pk_sub (a := u) (b := 1) (by omega)) ?_
      refine zr_iaload dX10_cancel_57 kw (vp_in_nI (n := u - 1) (by omega) (by omega)) ?_
      rw [nI_clamp (n := u - 1) (by omega)]
      refine zr_aload_n dX10_cancel_58 rfl ?_
      refine zr_getM (v := .ref (y + 7)) dX10_cancel_59 fX10_33 k0 rfl ?_
      refine zr_iload_n dX10_cancel_62 rfl ?_
      refine zr_iaload dX10_cancel_63 kw (vp_in_nI (n := k) (by omega) (by omega)) ?_
      rw [nI_clamp (n := k) (by omega)]
      refine zr_ineg dX10_cancel_64 ?_
      refine zr_icmp_ne (tgt := 74) dX10_cancel_65 (by decide) (fun c_65 => ?_) (fun c_65 => ?_)
      · have cnd : ¬ (0 < (zRP (kL A i) k).1 ∧ (zRP (kL A i) k).2 ((zRP (kL A i) k).1 - 1) = -((zRP (kL A i) k).2 k)) := fun q => c_65 (by have z := q.2; rw [← hm _ (by omega), ← hm k (by omega), ← hu] at z; exact z)
        refine zr_aload_n dX10_cancel_74 rfl ?_
        refine zr_getM (v := .ref (y + 7)) dX10_cancel_75 fX10_33 k0 rfl ?_
        refine zr_iload_n dX10_cancel_78 rfl ?_
        refine zr_aload_n dX10_cancel_79 rfl ?_
        refine zr_getM (v := .ref (y + 7)) dX10_cancel_80 fX10_33 k0 rfl ?_
        refine zr_iload_n dX10_cancel_83 rfl ?_
        refine zr_iaload dX10_cancel_84 kw (vp_in_nI (n := k) (by omega) (by omega)) ?_
        rw [nI_clamp (n := k) (by omega)]
        refine zr_iastore dX10_cancel_85 kw (vp_in_nI (n := u) (by omega) (by omega)) ?_
        rw [nI_clamp (n := u) (by omega)]
        refine zr_sig (fun ks5 e_ks5 => ?_)
        have kh6 : ks5.1 y = zmO y F := by rw [e_ks5, zup_ne _ _ (by omega)]; exact k0
        have kh7 : ks5.1 (y + 7) = .inl (0, 1300, .inl (upd wk u (wk k))) := by rw [e_ks5]; exact zup_at _ _ _
        have kF8 := zFr.put hFr e_ks5 rfl
        refine zr_iinc (v := nI (u + 1)) (ls' := [some (.ref y), some (.int (nI i)), some (.int (nI (u + 1))), some (.int (nI k))]) dX10_cancel_86 rfl (nI_1 _) (by decide) rfl ?_
        refine zr_iinc (v := nI (k + 1)) (ls' := [some (.ref y), some (.int (nI i)), some (.int (nI (u + 1))), some (.int (nI (k + 1)))]) dX10_cancel_89 rfl (nI_1 _) (by decide) rfl ?_
        refine zr_goto (tgt := 38) dX10_cancel_92 (by decide) ?_
        exact ih (k + 1) _ _ _ (by omega) (kF8) (kh7) (fun t ht => by simp only [zRP]; rw [if_neg cnd]; simp only [upd]; rw [hu]; split; (exact hm k (by omega)); exact hm t ht) (by simp only [zRP]; rw [if_neg cnd, hu])
      · have cnd : 0 < (zRP (kL A i) k).1 ∧ (zRP (kL A i) k).2 ((zRP (kL A i) k).1 - 1) = -((zRP (kL A i) k).2 k) := ⟨by omega, by rw [← hm _ (by omega), ← hm k (by omega), ← hu]; exact c_65⟩
        refine zr_iinc (v := nI (u - 1)) (ls' := [some (.ref y), some (.int (nI i)), some (.int (nI (u - 1))), some (.int (nI k))]) dX10_cancel_68 rfl ((z_m1 _).trans (pk_sub (a := u) (b := 1) (by omega))) (by decide) rfl ?_
        refine zr_goto (tgt := 89) dX10_cancel_71 (by decide) ?_
        refine zr_iinc (v := nI (k + 1)) (ls' := [some (.ref y), some (.int (nI i)), some (.int (nI (u - 1))), some (.int (nI (k + 1)))]) dX10_cancel_89 rfl (nI_1 _) (by decide) rfl ?_
        refine zr_goto (tgt := 38) dX10_cancel_92 (by decide) ?_
        exact ih (k + 1) _ _ _ (by omega) (hFr) (kw) (fun t ht => by simp only [zRP]; rw [if_pos cnd]; exact hm t ht) (by simp only [zRP]; rw [if_pos cnd, hu])

set_option maxHeartbeats 400000 in
set_option maxRecDepth 100000 in
theorem qX10_cancel {X : zX} (hX : X.1.stackTraces = false) {σ : zS} {y : Nat} {w tm cd dn : Int32} {K : zDk} {A S : zDk} {m : Nat} {U : Nat → zDk} {n : Nat} {T : Nat → Int32} {ll : Nat} {ln : Nat → Int32} {hs kf ld dt dc : Int32} {i : Nat} (hM : zMo y w tm cd dn K A S m U n T ll ln hs kf ld dt dc σ) (gA : zGd A) (hi : i < kC A) (hr : kR A i = -1) (wU : ∀ t, t < m → zDw (U t)) : zMet X mX10_cancel yX10_cancel 4 0 0 [.ref y, .int (nI i)] σ (zI (fun y_ s => y_ = nI (kN A i - (zRP (kL A i) (kN A i)).1) ∧ zFr σ s (zMq y) ∧ zMo y w tm 0 0 K (aWord A i (zRP (kL A i) (kN A i)).1 (zRP (kL A i) (kN A i)).2) S (mN w m) (UN w A U) n T ll ln hs kf ld dt dc s)) := by
  refine zMet_of (ls := [some (.ref y), some (.int (nI i)), none, none]) rfl (by decide +kernel) rfl (fun h => by cases h) hX (Nat.le_of_ble_eq_true rfl) rfl ?_
  obtain ⟨F, g, kp, sv, bf, ip, sg, td, h0, hf, h1, h2, h3, h4, h5, h6, h11, hWa, hC, hX9, hOt, gr, gS, gK, hm8, gU, hn60, hT, hll, hln⟩ := id hM
  obtain ⟨f4, f5, f6, f7, f8, f9, f10, f11, f13, f14, f16, f27⟩ := id hf
  have hA := gA.1
  obtain ⟨r0, r1, rc, rp⟩ := id gr
  obtain ⟨hC8, hP8, hW⟩ := id hA
  have n16 := (hW i (by omega)).1
  refine zr_aload_n dX10_cancel_0 rfl ?_
  refine zr_iload_n dX10_cancel_1 rfl ?_
  refine zr_callVi [] dX10_cancel_2 vX10_155 (qX10_isNone hX (i := i) h0 h1 r0 (by omega) hi) h0 (by decide) (by decide) (by decide) rfl rfl (Nat.le_of_ble_eq_true rfl) (by decide) rfl (fun kr1 s_kr1 h_kr1 => ?_)
  obtain ⟨e_kr1, F_kr1, g0_kr1⟩ := h_kr1
  have kh2 : s_kr1.1 (y + 1) = .inl (0, 82, .inl g) := zFr.get F_kr1 (by omega) h1
  have kh3 : s_kr1.1 (y + 2) = .inl (0, 656, .inl kp) := zFr.get F_kr1 (by omega) h2
  have kh4 : s_kr1.1 (y + 3) = .inl (0, 82, .inl sv) := zFr.get F_kr1 (by omega) h3
  have kh5 : s_kr1.1 (y + 4) = .inl (0, 82, .inl bf) := zFr.get F_kr1 (by omega) h4
  have kh6 : s_kr1.1 (y + 5) = .inl (0, 60, .inl ip) := zFr.get F_kr1 (by omega) h5
  have kh7 : s_kr1.1 (y + 6) = .inl (1, 400, .inl sg) := zFr.get F_kr1 (by omega) h6
  have kh8 : s_kr1.1 (y + 11) = .inl (0, 93, .inl td) := zFr.get F_kr1 (by omega) h11
  have kR9 : zWa y s_kr1 := zWa.fr hWa F_kr1 (by intro q h1 h2 h3; (try simp only [zIn, zJf] at h3); omega)
  have kR10 : zCy y s_kr1 := zCy.fr hC F_kr1 (by intro q h1 h2 h3; (try simp only [zIn, zJf] at h3); omega)
  have kR11 : zXa y s_kr1 := zXa.fr hX9 F_kr1 (by intro q h1 h2 h3; (try simp only [zIn, zJf] at h3); omega)
  have kR12 : zOa y s_kr1 := zOa.fr hOt F_kr1 (by intro q h1 h2 h3; (try simp only [zIn, zJf] at h3); omega)
  have kF13 := zFr.tr zFr.rf (P := zMq y) F_kr1 (by intro q hq; unfold zMq; omega)
  obtain rfl := e_kr1.symm
  refine zr_if_ne (tgt := 16) dX10_cancel_5 (by decide) (fun c_5 => absurd (by decide) c_5) (fun c_5 => ?_)
  refine zr_aload_n dX10_cancel_8 rfl ?_
  refine zr_iload_n dX10_cancel_9 rfl ?_
  refine zr_pVi [] dX10_cancel_10 vX10_158 (qX10_isClosed hX (i := i) g0_kr1 kh2 gr hA hi hr) g0_kr1 (by decide) (by decide) (by decide) rfl rfl (Nat.le_of_ble_eq_true rfl) (by decide) rfl ?_
  refine zr_if_eq (tgt := 18) dX10_cancel_13 (by decide) (fun c_13 => ?_) (fun c_13 => absurd (by decide) c_13)
  refine zr_aload_n dX10_cancel_18 rfl ?_
  refine zr_aload_n dX10_cancel_19 rfl ?_
  refine zr_getM (v := .ref (y + 1)) dX10_cancel_20 fX10_7 g0_kr1 rfl ?_
  refine zr_callVv [] dX10_cancel_23 vX10_145 (qX10_keeps hX (r := y + 1) g0_kr1 kh2 (by omega) (by omega) kh3 f5 f6 hm8 gr hA gU wU) g0_kr1 (by decide) (by decide) (by decide) rfl rfl (Nat.le_of_ble_eq_true rfl) (by decide) rfl (fun s0 h_ => ?_)
  obtain ⟨F0, g00, kp1, kc1, gU1⟩ := h_
  have kh14 : s0.1 (y + 1) = .inl (0, 82, .inl g) := zFr.get F0 (by omega) kh2
  have kh15 : s0.1 (y + 3) = .inl (0, 82, .inl sv) := zFr.get F0 (by omega) kh4
  have kh16 : s0.1 (y + 4) = .inl (0, 82, .inl bf) := zFr.get F0 (by omega) kh5
  have kh17 : s0.1 (y + 5) = .inl (0, 60, .inl ip) := zFr.get F0 (by omega) kh6
  have kh18 : s0.1 (y + 6) = .inl (1, 400, .inl sg) := zFr.get F0 (by omega) kh7
  have kh19 : s0.1 (y + 11) = .inl (0, 93, .inl td) := zFr.get F0 (by omega) kh8
  have kR20 := zWa.fr kR9 F0 (by intro q a b c; omega)
  have kR21 := zCy.fr kR10 F0 (by intro q a b c; omega)
  have kR22 := zXa.fr kR11 F0 (by intro q a b c; omega)
  have kR23 := zOa.fr kR12 F0 (by intro q a b c; omega)
  have kF24 := zFr.tr kF13 F0 (by intro q hq; unfold zMq; omega)
  refine zr_aload_n dX10_cancel_26 rfl ?_
  refine zr_iload_n dX10_cancel_27 rfl ?_
  refine zr_pSi [.ref y] dX10_cancel_28 vX10_138 (qX10_caseAt hX (i := i)) (by decide) (by decide) (by decide) rfl rfl (Nat.le_of_ble_eq_true rfl) rfl ?_
  refine zr_callVv [] dX10_cancel_31 vX10_128 (qM_take hX (i := i) g00 kh14 gr hA (by omega) kR20) g00 (by decide) (by decide) (by decide) rfl rfl (Nat.le_of_ble_eq_true rfl) (by decide) rfl (fun s_kr25 h_kr25 => ?_)
  obtain ⟨F_kr25, g0_kr25, r0_kr25⟩ := h_kr25
  have kh26 : s_kr25.1 (y + 1) = .inl (0, 82, .inl g) := zFr.get F_kr25 (by omega) kh14
  have kh27 : s_kr25.1 (y + 3) = .inl (0, 82, .inl sv) := zFr.get F_kr25 (by omega) kh15
  have kh28 : s_kr25.1 (y + 4) = .inl (0, 82, .inl bf) := zFr.get F_kr25 (by omega) kh16
  have kh29 : s_kr25.1 (y + 5) = .inl (0, 60, .inl ip) := zFr.get F_kr25 (by omega) kh17
  have kh30 : s_kr25.1 (y + 6) = .inl (1, 400, .inl sg) := zFr.get F_kr25 (by omega) kh18
  have kh31 : s_kr25.1 (y + 11) = .inl (0, 93, .inl td) := zFr.get F_kr25 (by omega) kh19
  have kh32 : s_kr25.1 (y + 2) = .inl (0, 656, .inl kp1) := zFr.get F_kr25 (by omega) kc1
  have kR33 : zCy y s_kr25 := zCy.fr kR21 F_kr25 (by intro q h1 h2 h3; (try simp only [zIn, zJf] at h3); omega)
  have kR34 : zXa y s_kr25 := zXa.fr kR22 F_kr25 (by intro q h1 h2 h3; (try simp only [zIn, zJf] at h3); omega)
  have kR35 : zOa y s_kr25 := zOa.fr kR23 F_kr25 (by intro q h1 h2 h3; (try simp only [zIn, zJf] at h3); omega)
  have kF36 := zFr.tr kF24 F_kr25 (by intro q hq; unfold zMq; omega)
  refine zr_iconst (v := 0) dX10_cancel_34 (by decide) ?_
  refine zr_istore_n (ls' := [some (.ref y), some (.int (nI i)), some (.int 0), none]) dX10_cancel_35 rfl (by decide) rfl ?_
  refine zr_iconst (v := 0) dX10_cancel_36 (by decide) ?_
  refine zr_istore_n (ls' := [some (.ref y), some (.int (nI i)), some (.int 0), some (.int 0)]) dX10_cancel_37 rfl (by decide) rfl ?_
  obtain ⟨wk, w7, w8⟩ := r0_kr25
  rw [zWd_l] at w8
  refine l_cc hX g0_kr25 rfl n16 (fun s2 wk2 x3 hF2 kw2 hm2 => ?_) (kN A i) 0 _ wk 0 (by omega) zFr.rf w7 (fun t ht => by have z : (zWd A i).getD t 0 = wk t := (by rw [← w8]; exact zP_get (f := wk) ht); rw [← z]; exact zP_get (f := kL A i) ht) rfl
  have kh37 : s2.1 (y + 1) = .inl (0, 82, .inl g) := zFr.get hF2 (by omega) kh26
  have kh38 : s2.1 (y + 3) = .inl (0, 82, .inl sv) := zFr.get hF2 (by omega) kh27
  have kh39 : s2.1 (y + 4) = .inl (0, 82, .inl bf) := zFr.get hF2 (by omega) kh28
  have kh40 : s2.1 (y + 5) = .inl (0, 60, .inl ip) := zFr.get hF2 (by omega) kh29
  have kh41 : s2.1 (y + 6) = .inl (1, 400, .inl sg) := zFr.get hF2 (by omega) kh30
  have kh42 : s2.1 (y + 11) = .inl (0, 93, .inl td) := zFr.get hF2 (by omega) kh31
  have kh43 : s2.1 y = zmO y (upd (upd (upd (upd F 5 (nI (mN w m))) 7 0) 8 0) 19 (nI (kN A i))) := zFr.get hF2 (by omega) g0_kr25
  have kh44 : s2.1 (y + 2) = .inl (0, 656, .inl kp1) := zFr.get hF2 (by omega) kh32
  have kR45 := zCy.fr kR33 hF2 (by intro q a b c; omega)
  have kR46 := zXa.fr kR34 hF2 (by intro q a b c; omega)
  have kR47 := zOa.fr kR35 hF2 (by intro q a b c; omega)
  have le2 := zRP_le (kL A i) (kN A i)
  have kW2 : zWk y (zP wk2 (zRP (kL A i) (kN A i)).1) s2 := ⟨wk2, kw2, by rw [zP_len]⟩
  have kF48 := zFr.tr kF36 hF2 (by intro q hq; unfold zMq; omega)
  refine zr_aload_n dX10_cancel_95 rfl ?_
  refine zr_getM (v := .int (nI (kN A i))) dX10_cancel_96 fX10_79 kh43 rfl ?_
  refine zr_iload_n dX10_cancel_99 rfl ?_
  refine zr_isub dX10_cancel_100 ?_
  refine zr_eqi (x' := nI ((kN A i) - ((zRP (kL A i) (kN A i)).1))) (pk_sub (a := (kN A i)) (b := ((zRP (kL A i) (kN A i)).1)) (by omega)) ?_
  refine zr_istore_n (ls' := [some (.ref y), some (.int (nI i)), some (.int (nI ((zRP (kL A i) (kN A i)).1))), some (.int (nI ((kN A i) - ((zRP (kL A i) (kN A i)).1))))]) dX10_cancel_101 rfl (by decide) rfl ?_
  refine zr_aload_n dX10_cancel_102 rfl ?_
  refine zr_iload_n dX10_cancel_103 rfl ?_
  refine zr_putM (v := nI ((zRP (kL A i) (kN A i)).1)) dX10_cancel_104 pX10_79 kh43 (rfl) (rfl) (Nat.le_of_ble_eq_true rfl) (zms_19 _ _ _) ?_
  refine zr_sig (fun ks49 e_ks49 => ?_)
  have kh50 : ks49.1 (y + 1) = .inl (0, 82, .inl g) := by rw [e_ks49, zup_ne _ _ (by omega)]; exact kh37
  have kh51 : ks49.1 (y + 3) = .inl (0, 82, .inl sv) := by rw [e_ks49, zup_ne _ _ (by omega)]; exact kh38
  have kh52 : ks49.1 (y + 4) = .inl (0, 82, .inl bf) := by rw [e_ks49, zup_ne _ _ (by omega)]; exact kh39
  have kh53 : ks49.1 (y + 5) = .inl (0, 60, .inl ip) := by rw [e_ks49, zup_ne _ _ (by omega)]; exact kh40
  have kh54 : ks49.1 (y + 6) = .inl (1, 400, .inl sg) := by rw [e_ks49, zup_ne _ _ (by omega)]; exact kh41
  have kh55 : ks49.1 (y + 11) = .inl (0, 93, .inl td) := by rw [e_ks49, zup_ne _ _ (by omega)]; exact kh42
  have kh56 : ks49.1 y = zmO y (upd (upd (upd (upd F 5 (nI (mN w m))) 7 0) 8 0) 19 (nI ((zRP (kL A i) (kN A i)).1))) := by rw [e_ks49]; exact zup_at _ _ _
  have kh57 : ks49.1 (y + 2) = .inl (0, 656, .inl kp1) := by rw [e_ks49, zup_ne _ _ (by omega)]; exact kh44
  have kF58 := zFr.put kF48 e_ks49 (by unfold zMq; omega)
  have kR59 : zCy y ks49 := zCy.fr kR45 (zFr.put (P := fun q => q = y) zFr.rf e_ks49 rfl) (by intro q h1 h2 h3; (try simp only [zIn, zJf] at h3); omega)
  have kR60 : zXa y ks49 := zXa.fr kR46 (zFr.put (P := fun q => q = y) zFr.rf e_ks49 rfl) (by intro q h1 h2 h3; (try simp only [zIn, zJf] at h3); omega)
  have kR61 : zOa y ks49 := zOa.fr kR47 (zFr.put (P := fun q => q = y) zFr.rf e_ks49 rfl) (by intro q h1 h2 h3; (try simp only [zIn, zJf] at h3); omega)
  have kR62 : zWk y (zP wk2 (zRP (kL A i) (kN A i)).1) ks49 := zWk.fr kW2 (zFr.put (P := fun q => q = y) zFr.rf e_ks49 rfl) (by intro q h1 h2 h3; (try simp only [zIn, zJf] at h3); omega)
  refine zr_aload_n dX10_cancel_107 rfl ?_
  refine zr_iload_n dX10_cancel_108 rfl ?_
  refine zr_pSi [.ref y] dX10_cancel_109 vX10_138 (qX10_caseAt hX (i := i)) (by decide) (by decide) (by decide) rfl rfl (Nat.le_of_ble_eq_true rfl) rfl ?_
  refine zr_callVv [] dX10_cancel_112 vX10_165 (qX10_keepsWord hX (L := (zP wk2 (zRP (kL A i) (kN A i)).1)) kh56 kh50 (by rw [zP_len]; rfl) kR62 (by rw [zP_len]; omega) (zP_all (fun k hk => by rw [hm2 k (by omega)]; exact zRP_lt (hW i (by omega)).2.1 _ (Nat.le_refl _) k (by omega))) (by omega)) kh56 (by decide) (by decide) (by decide) rfl rfl (Nat.le_of_ble_eq_true rfl) (by decide) rfl (fun s3 h_ => ?_)
  obtain ⟨F3, g3, c3, kq3⟩ := h_
  have kh63 : s3.1 (y + 3) = .inl (0, 82, .inl sv) := zFr.get F3 (by omega) kh51
  have kh64 : s3.1 (y + 4) = .inl (0, 82, .inl bf) := zFr.get F3 (by omega) kh52
  have kh65 : s3.1 (y + 5) = .inl (0, 60, .inl ip) := zFr.get F3 (by omega) kh53
  have kh66 : s3.1 (y + 6) = .inl (1, 400, .inl sg) := zFr.get F3 (by omega) kh54
  have kh67 : s3.1 (y + 11) = .inl (0, 93, .inl td) := zFr.get F3 (by omega) kh55
  have kh68 : s3.1 y = zmO y (upd (upd (upd (upd F 5 (nI (mN w m))) 7 0) 8 0) 19 (nI ((zRP (kL A i) (kN A i)).1))) := zFr.get F3 (by omega) kh56
  have kh69 : s3.1 (y + 2) = .inl (0, 656, .inl kp1) := zFr.get F3 (by omega) kh57
  have kR70 := zCy.fr kR59 F3 (by intro q a b c; omega)
  have kR71 := zXa.fr kR60 F3 (by intro q a b c; omega)
  have kR72 := zOa.fr kR61 F3 (by intro q a b c; omega)
  have kR73 := zWk.fr kR62 F3 (by intro q a b c; omega)
  have kF74 := zFr.tr kF58 F3 (by intro q hq; unfold zMq; omega)
  refine zr_iload_n dX10_cancel_115 rfl ?_
  exact zr_ireturn dX10_cancel_116 rfl (rfl) (⟨_, rfl, rfl, kF74, ⟨_, _, _, _, _, _, _, _, kh68, ⟨f4, rfl, f6, rfl, rfl, f9, f10, f11, f13, f14, f16, f27⟩, c3, kh69, kh63, kh64, kh65, kh66, kh67, (kR73).wa, kR70, kR71, kR72, (gr.kw gA hi hr (by omega) kq3 (by rw [zP_len]) (fun k hk => by rw [← hm2 k (by omega)]; exact zP_get (f := wk2) hk)), gS, gK, (mN_8 hm8), gU1, hn60, hT, hll, hln⟩⟩)
  

set_option maxHeartbeats 400000 in
set_option maxRecDepth 100000 in
theorem qX10_cancelD2 {X : zX} (hX : X.1.stackTraces = false) {σ : zS} {y : Nat} {w tm cd dn : Int32} {K : zDk} {A S : zDk} {m : Nat} {U : Nat → zDk} {n : Nat} {T : Nat → Int32} {ll : Nat} {ln : Nat → Int32} {hs kf ld dt dc : Int32} {i : Nat} (hM : zMo y w tm cd dn K A S m U n T ll ln hs kf ld dt dc σ) (gA : zGd A) (hi : i < kC A) (hr : ¬ kR A i = -1) : zMet X mX10_cancel yX10_cancel 4 0 0 [.ref y, .int (nI i)] σ (zI (fun y_ s => True ∧ zFr σ s (zMq y) ∧ zMo y w tm 2 1 K A S m U n T ll ln hs kf 2 (kR A i) 0 s)) := by
  refine zMet_of (ls := [some (.ref y), some (.int (nI i)), none, none]) rfl (by decide +kernel) rfl (fun h => by cases h) hX (Nat.le_of_ble_eq_true rfl) rfl ?_
  obtain ⟨F, g, kp, sv, bf, ip, sg, td, h0, hf, h1, h2, h3, h4, h5, h6, h11, hWa, hC, hX9, hOt, gr, gS, gK, hm8, gU, hn60, hT, hll, hln⟩ := id hM
  obtain ⟨f4, f5, f6, f7, f8, f9, f10, f11, f13, f14, f16, f27⟩ := id hf
  have hA := gA.1
  obtain ⟨r0, r1, rc, rp⟩ := id gr
  obtain ⟨hC8, hP8, hW⟩ := id hA
  refine zr_aload_n dX10_cancel_0 rfl ?_
  refine zr_iload_n dX10_cancel_1 rfl ?_
  refine zr_callVi [] dX10_cancel_2 vX10_155 (qX10_isNone hX (i := i) h0 h1 r0 (by omega) hi) h0 (by decide) (by decide) (by decide) rfl rfl (Nat.le_of_ble_eq_true rfl) (by decide) rfl (fun kr1 s_kr1 h_kr1 => ?_)
  obtain ⟨e_kr1, F_kr1, g0_kr1⟩ := h_kr1
  have kh2 : s_kr1.1 (y + 1) = .inl (0, 82, .inl g) := zFr.get F_kr1 (by omega) h1
  have kh3 : s_kr1.1 (y + 2) = .inl (0, 656, .inl kp) := zFr.get F_kr1 (by omega) h2
  have kh4 : s_kr1.1 (y + 3) = .inl (0, 82, .inl sv) := zFr.get F_kr1 (by omega) h3
  have kh5 : s_kr1.1 (y + 4) = .inl (0, 82, .inl bf) := zFr.get F_kr1 (by omega) h4
  have kh6 : s_kr1.1 (y + 5) = .inl (0, 60, .inl ip) := zFr.get F_kr1 (by omega) h5
  have kh7 : s_kr1.1 (y + 6) = .inl (1, 400, .inl sg) := zFr.get F_kr1 (by omega) h6
  have kh8 : s_kr1.1 (y + 11) = .inl (0, 93, .inl td) := zFr.get F_kr1 (by omega) h11
  have kR9 : zWa y s_kr1 := zWa.fr hWa F_kr1 (by intro q h1 h2 h3; (try simp only [zIn, zJf] at h3); omega)
  have kR10 : zCy y s_kr1 := zCy.fr hC F_kr1 (by intro q h1 h2 h3; (try simp only [zIn, zJf] at h3); omega)
  have kR11 : zXa y s_kr1 := zXa.fr hX9 F_kr1 (by intro q h1 h2 h3; (try simp only [zIn, zJf] at h3); omega)
  have kR12 : zOa y s_kr1 := zOa.fr hOt F_kr1 (by intro q h1 h2 h3; (try simp only [zIn, zJf] at h3); omega)
  have kF13 := zFr.tr zFr.rf (P := zMq y) F_kr1 (by intro q hq; unfold zMq; omega)
  obtain rfl := e_kr1.symm
  refine zr_if_ne (tgt := 16) dX10_cancel_5 (by decide) (fun c_5 => absurd (by decide) c_5) (fun c_5 => ?_)
  refine zr_aload_n dX10_cancel_8 rfl ?_
  refine zr_iload_n dX10_cancel_9 rfl ?_
  refine zr_callVi [] dX10_cancel_10 vX10_158 (qX10_isClosedX hX (i := i) g0_kr1 kh2 gr hA hi hr) g0_kr1 (by decide) (by decide) (by decide) rfl rfl (Nat.le_of_ble_eq_true rfl) (by decide) rfl (fun kr14 s_kr14 h_kr14 => ?_)
  obtain ⟨e_kr14, F_kr14, g0_kr14⟩ := h_kr14
  have kh15 : s_kr14.1 (y + 1) = .inl (0, 82, .inl g) := zFr.get F_kr14 (by omega) kh2
  have kh16 : s_kr14.1 (y + 2) = .inl (0, 656, .inl kp) := zFr.get F_kr14 (by omega) kh3
  have kh17 : s_kr14.1 (y + 3) = .inl (0, 82, .inl sv) := zFr.get F_kr14 (by omega) kh4
  have kh18 : s_kr14.1 (y + 4) = .inl (0, 82, .inl bf) := zFr.get F_kr14 (by omega) kh5
  have kh19 : s_kr14.1 (y + 5) = .inl (0, 60, .inl ip) := zFr.get F_kr14 (by omega) kh6
  have kh20 : s_kr14.1 (y + 6) = .inl (1, 400, .inl sg) := zFr.get F_kr14 (by omega) kh7
  have kh21 : s_kr14.1 (y + 11) = .inl (0, 93, .inl td) := zFr.get F_kr14 (by omega) kh8
  have kR22 : zWa y s_kr14 := zWa.fr kR9 F_kr14 (by intro q h1 h2 h3; (try simp only [zIn, zJf] at h3); omega)
  have kR23 : zCy y s_kr14 := zCy.fr kR10 F_kr14 (by intro q h1 h2 h3; (try simp only [zIn, zJf] at h3); omega)
  have kR24 : zXa y s_kr14 := zXa.fr kR11 F_kr14 (by intro q h1 h2 h3; (try simp only [zIn, zJf] at h3); omega)
  have kR25 : zOa y s_kr14 := zOa.fr kR12 F_kr14 (by intro q h1 h2 h3; (try simp only [zIn, zJf] at h3); omega)
  have kF26 := zFr.tr kF13 F_kr14 (by intro q hq; unfold zMq; omega)
  obtain rfl := e_kr14.symm
  refine zr_if_eq (tgt := 18) dX10_cancel_13 (by decide) (fun c_13 => absurd c_13 (by decide)) (fun c_13 => ?_)
  refine zr_iconst (v := 0) dX10_cancel_16 (by decide) ?_
  exact zr_ireturn dX10_cancel_17 rfl (rfl) (⟨_, rfl, trivial, kF26, ⟨_, _, _, _, _, _, _, _, g0_kr14, ⟨f4, f5, f6, rfl, rfl, rfl, rfl, rfl, f13, f14, f16, f27⟩, kh15, kh16, kh17, kh18, kh19, kh20, kh21, kR22, kR23, kR24, kR25, gr, gS, gK, hm8, gU, hn60, hT, hll, hln⟩⟩)

set_option maxHeartbeats 400000 in
set_option maxRecDepth 100000 in
theorem qX10_cancelX {X : zX} (hX : X.1.stackTraces = false) {σ : zS} {y : Nat} {w tm cd dn : Int32} {K : zDk} {A S : zDk} {m : Nat} {U : Nat → zDk} {n : Nat} {T : Nat → Int32} {ll : Nat} {ln : Nat → Int32} {hs kf ld dt dc : Int32} {p : Int32} (hM : zMo y w tm cd dn K A S m U n T ll ln hs kf ld dt dc σ) (gA : zGd A) (hno : ¬ (¬ p < 0 ∧ p < nI (kC A))) : zMet X mX10_cancel yX10_cancel 4 0 0 [.ref y, .int p] σ (zI (fun y_ s => True ∧ zFr σ s (zMq y) ∧ zMo y w tm 1 0 K A S m U n T ll ln hs kf ld dt dc s)) := by
  refine zMet_of (ls := [some (.ref y), some (.int p), none, none]) rfl (by decide +kernel) rfl (fun h => by cases h) hX (Nat.le_of_ble_eq_true rfl) rfl ?_
  obtain ⟨F, g, kp, sv, bf, ip, sg, td, h0, hf, h1, h2, h3, h4, h5, h6, h11, hWa, hC, hX9, hOt, gr, gS, gK, hm8, gU, hn60, hT, hll, hln⟩ := id hM
  obtain ⟨f4, f5, f6, f7, f8, f9, f10, f11, f13, f14, f16, f27⟩ := id hf
  have hA := gA.1
  obtain ⟨r0, r1, rc, rp⟩ := id gr
  obtain ⟨hC8, hP8, hW⟩ := id hA
  refine zr_aload_n dX10_cancel_0 rfl ?_
  refine zr_iload_n dX10_cancel_1 rfl ?_
  refine zr_callVi [] dX10_cancel_2 vX10_155 (qX10_isNoneX hX h0 h1 r0 (by omega) hno) h0 (by decide) (by decide) (by decide) rfl rfl (Nat.le_of_ble_eq_true rfl) (by decide) rfl (fun kr1 s_kr1 h_kr1 => ?_)
  obtain ⟨e_kr1, F_kr1, g0_kr1⟩ := h_kr1
  have kh2 : s_kr1.1 (y + 1) = .inl (0, 82, .inl g) := zFr.get F_kr1 (by omega) h1
  have kh3 : s_kr1.1 (y + 2) = .inl (0, 656, .inl kp) := zFr.get F_kr1 (by omega) h2
  have kh4 : s_kr1.1 (y + 3) = .inl (0, 82, .inl sv) := zFr.get F_kr1 (by omega) h3
  have kh5 : s_kr1.1 (y + 4) = .inl (0, 82, .inl bf) := zFr.get F_kr1 (by omega) h4
  have kh6 : s_kr1.1 (y + 5) = .inl (0, 60, .inl ip) := zFr.get F_kr1 (by omega) h5
  have kh7 : s_kr1.1 (y + 6) = .inl (1, 400, .inl sg) := zFr.get F_kr1 (by omega) h6
  have kh8 : s_kr1.1 (y + 11) = .inl (0, 93, .inl td) := zFr.get F_kr1 (by omega) h11
  have kR9 : zWa y s_kr1 := zWa.fr hWa F_kr1 (by intro q h1 h2 h3; (try simp only [zIn, zJf] at h3); omega)
  have kR10 : zCy y s_kr1 := zCy.fr hC F_kr1 (by intro q h1 h2 h3; (try simp only [zIn, zJf] at h3); omega)
  have kR11 : zXa y s_kr1 := zXa.fr hX9 F_kr1 (by intro q h1 h2 h3; (try simp only [zIn, zJf] at h3); omega)
  have kR12 : zOa y s_kr1 := zOa.fr hOt F_kr1 (by intro q h1 h2 h3; (try simp only [zIn, zJf] at h3); omega)
  have kF13 := zFr.tr zFr.rf (P := zMq y) F_kr1 (by intro q hq; unfold zMq; omega)
  obtain rfl := e_kr1.symm
  refine zr_if_ne (tgt := 16) dX10_cancel_5 (by decide) (fun c_5 => ?_) (fun c_5 => absurd c_5 (by decide))
  refine zr_iconst (v := 0) dX10_cancel_16 (by decide) ?_
  exact zr_ireturn dX10_cancel_17 rfl (rfl) (⟨_, rfl, trivial, kF13, ⟨_, _, _, _, _, _, _, _, g0_kr1, ⟨f4, f5, f6, rfl, rfl, f9, f10, f11, f13, f14, f16, f27⟩, kh2, kh3, kh4, kh5, kh6, kh7, kh8, kR9, kR10, kR11, kR12, gr, gS, gK, hm8, gU, hn60, hT, hll, hln⟩⟩)

set_option maxHeartbeats 400000 in
set_option maxRecDepth 100000 in
theorem qX10_relax {X : zX} (hX : X.1.stackTraces = false) {σ : zS} {y : Nat} {w tm cd dn : Int32} {K : zDk} {A S : zDk} {m : Nat} {U : Nat → zDk} {n : Nat} {T : Nat → Int32} {ll : Nat} {ln : Nat → Int32} {hs kf ld dt dc : Int32} {i q : Nat} {W : List Int32} (hM : zMo y w tm cd dn K A S m U n T ll ln hs kf ld dt dc σ) (gA : zGd A) (hi : i < kC A) (hr : kR A i = -1) (hO : zRn 2000 [] (zWd A i) = some (q, W)) (hL : W.length ≤ 16) (wU : ∀ t, t < m → zDw (U t)) : zMet X mX10_relax yX10_relax 5 0 0 [.ref y, .int (nI i)] σ (zI (fun y_ s => y_ = nI (2000 - q) ∧ zFr σ s (zMq y) ∧ zMo y w tm 0 0 K (aWord A i W.length (wv W)) S (mN w m) (UN w A U) n T ll ln hs kf ld dt dc s)) := by
  refine zMet_of (ls := [some (.ref y), some (.int (nI i)), none]) rfl (by decide +kernel) rfl (fun h => by cases h) hX (Nat.le_of_ble_eq_true rfl) rfl ?_
  obtain ⟨F, g, kp, sv, bf, ip, sg, td, h0, hf, h1, h2, h3, h4, h5, h6, h11, hWa, hC, hX9, hOt, gr, gS, gK, hm8, gU, hn60, hT, hll, hln⟩ := id hM
  obtain ⟨f4, f5, f6, f7, f8, f9, f10, f11, f13, f14, f16, f27⟩ := id hf
  have hA := gA.1
  obtain ⟨r0, r1, rc, rp⟩ := id gr
  obtain ⟨hC8, hP8, hW⟩ := id hA
  have n16 := (hW i (by omega)).1
  refine zr_aload_n dX10_relax_0 rfl ?_
  refine zr_iload_n dX10_relax_1 rfl ?_
  refine zr_callVi [] dX10_relax_2 vX10_155 (qX10_isNone hX (i := i) h0 h1 r0 (by omega) hi) h0 (by decide) (by decide) (by decide) rfl rfl (Nat.le_of_ble_eq_true rfl) (by decide) rfl (fun kr1 s_kr1 h_kr1 => ?_)
  obtain ⟨e_kr1, F_kr1, g0_kr1⟩ := h_kr1
  have kh2 : s_kr1.1 (y + 1) = .inl (0, 82, .inl g) := zFr.get F_kr1 (by omega) h1
  have kh3 : s_kr1.1 (y + 2) = .inl (0, 656, .inl kp) := zFr.get F_kr1 (by omega) h2
  have kh4 : s_kr1.1 (y + 3) = .inl (0, 82, .inl sv) := zFr.get F_kr1 (by omega) h3
  have kh5 : s_kr1.1 (y + 4) = .inl (0, 82, .inl bf) := zFr.get F_kr1 (by omega) h4
  have kh6 : s_kr1.1 (y + 5) = .inl (0, 60, .inl ip) := zFr.get F_kr1 (by omega) h5
  have kh7 : s_kr1.1 (y + 6) = .inl (1, 400, .inl sg) := zFr.get F_kr1 (by omega) h6
  have kh8 : s_kr1.1 (y + 11) = .inl (0, 93, .inl td) := zFr.get F_kr1 (by omega) h11
  have kR9 : zWa y s_kr1 := zWa.fr hWa F_kr1 (by intro q h1 h2 h3; (try simp only [zIn, zJf] at h3); omega)
  have kR10 : zCy y s_kr1 := zCy.fr hC F_kr1 (by intro q h1 h2 h3; (try simp only [zIn, zJf] at h3); omega)
  have kR11 : zXa y s_kr1 := zXa.fr hX9 F_kr1 (by intro q h1 h2 h3; (try simp only [zIn, zJf] at h3); omega)
  have kR12 : zOa y s_kr1 := zOa.fr hOt F_kr1 (by intro q h1 h2 h3; (try simp only [zIn, zJf] at h3); omega)
  have kF13 := zFr.tr zFr.rf (P := zMq y) F_kr1 (by intro q hq; unfold zMq; omega)
  obtain rfl := e_kr1.symm
  refine zr_if_ne (tgt := 16) dX10_relax_5 (by decide) (fun c_5 => absurd (by decide) c_5) (fun c_5 => ?_)
  refine zr_aload_n dX10_relax_8 rfl ?_
  refine zr_iload_n dX10_relax_9 rfl ?_
  refine zr_pVi [] dX10_relax_10 vX10_158 (qX10_isClosed hX (i := i) g0_kr1 kh2 gr hA hi hr) g0_kr1 (by decide) (by decide) (by decide) rfl rfl (Nat.le_of_ble_eq_true rfl) (by decide) rfl ?_
  refine zr_if_eq (tgt := 18) dX10_relax_13 (by decide) (fun c_13 => ?_) (fun c_13 => absurd (by decide) c_13)
  refine zr_aload_n dX10_relax_18 rfl ?_
  refine zr_iload_n dX10_relax_19 rfl ?_
  refine zr_pSi [.ref y] dX10_relax_20 vX10_138 (qX10_caseAt hX (i := i)) (by decide) (by decide) (by decide) rfl rfl (Nat.le_of_ble_eq_true rfl) rfl ?_
  refine zr_callVv [] dX10_relax_23 vX10_128 (qM_take hX (i := i) g0_kr1 kh2 gr hA (by omega) kR9) g0_kr1 (by decide) (by decide) (by decide) rfl rfl (Nat.le_of_ble_eq_true rfl) (by decide) rfl (fun s_kr14 h_kr14 => ?_)
  obtain ⟨F_kr14, g0_kr14, r0_kr14⟩ := h_kr14
  have kh15 : s_kr14.1 (y + 1) = .inl (0, 82, .inl g) := zFr.get F_kr14 (by omega) kh2
  have kh16 : s_kr14.1 (y + 2) = .inl (0, 656, .inl kp) := zFr.get F_kr14 (by omega) kh3
  have kh17 : s_kr14.1 (y + 3) = .inl (0, 82, .inl sv) := zFr.get F_kr14 (by omega) kh4
  have kh18 : s_kr14.1 (y + 4) = .inl (0, 82, .inl bf) := zFr.get F_kr14 (by omega) kh5
  have kh19 : s_kr14.1 (y + 5) = .inl (0, 60, .inl ip) := zFr.get F_kr14 (by omega) kh6
  have kh20 : s_kr14.1 (y + 6) = .inl (1, 400, .inl sg) := zFr.get F_kr14 (by omega) kh7
  have kh21 : s_kr14.1 (y + 11) = .inl (0, 93, .inl td) := zFr.get F_kr14 (by omega) kh8
  have kR22 : zCy y s_kr14 := zCy.fr kR10 F_kr14 (by intro q h1 h2 h3; (try simp only [zIn, zJf] at h3); omega)
  have kR23 : zXa y s_kr14 := zXa.fr kR11 F_kr14 (by intro q h1 h2 h3; (try simp only [zIn, zJf] at h3); omega)
  have kR24 : zOa y s_kr14 := zOa.fr kR12 F_kr14 (by intro q h1 h2 h3; (try simp only [zIn, zJf] at h3); omega)
  have kF25 := zFr.tr kF13 F_kr14 (by intro q hq; unfold zMq; omega)
  refine zr_aload_n dX10_relax_26 rfl ?_
  refine zr_callVi [] dX10_relax_27 vX10_168 (qX10_relaxes hX (L := zWd A i) g0_kr14 (by rw [zWd_l]; rfl) r0_kr14 (hA.wd (by omega)) (by rw [zWd_l]; omega) kR22) g0_kr14 (by decide) (by decide) (by decide) rfl rfl (Nat.le_of_ble_eq_true rfl) (by decide) rfl (fun r1 s1 h_ => ?_)
  obtain ⟨m1, c1, u1, v1, W1, F1, g0, kC1, kW1, h7⟩ := h_
  obtain ⟨q1, rfl, hO1, rfl, rfl, w4, q20⟩ := h7.resolve_left (fun q => by rw [hO] at q; cases q.2)
  obtain ⟨rfl, rfl⟩ : q = q1 ∧ W = W1 := Prod.mk.inj (Option.some.inj (hO.symm.trans hO1))
  have kh26 : s1.1 (y + 1) = .inl (0, 82, .inl g) := zFr.get F1 (by omega) kh15
  have kh27 : s1.1 (y + 2) = .inl (0, 656, .inl kp) := zFr.get F1 (by omega) kh16
  have kh28 : s1.1 (y + 3) = .inl (0, 82, .inl sv) := zFr.get F1 (by omega) kh17
  have kh29 : s1.1 (y + 4) = .inl (0, 82, .inl bf) := zFr.get F1 (by omega) kh18
  have kh30 : s1.1 (y + 5) = .inl (0, 60, .inl ip) := zFr.get F1 (by omega) kh19
  have kh31 : s1.1 (y + 6) = .inl (1, 400, .inl sg) := zFr.get F1 (by omega) kh20
  have kh32 : s1.1 (y + 11) = .inl (0, 93, .inl td) := zFr.get F1 (by omega) kh21
  have kR33 := zXa.fr kR23 F1 (by intro q a b c; omega)
  have kR34 := zOa.fr kR24 F1 (by intro q a b c; omega)
  have kF35 := zFr.tr kF25 F1 (by intro q hq; unfold zMq; omega)
  refine zr_istore_n (ls' := [some (.ref y), some (.int (nI i)), some (.int 1)]) dX10_relax_30 rfl (by decide) rfl ?_
  refine zr_iload_n dX10_relax_31 rfl ?_
  refine zr_if_eq (tgt := 44) dX10_relax_32 (by decide) (fun c_32 => absurd c_32 (by decide)) (fun c_32 => ?_)
  refine zr_aload_n dX10_relax_35 rfl ?_
  refine zr_getM (v := .int (nI W.length)) dX10_relax_36 fX10_79 g0 rfl ?_
  refine zr_bipush (v := 16) dX10_relax_39 (by decide) ?_
  refine zr_icmp_le (tgt := 57) dX10_relax_41 (by decide) (fun c_41 => ?_) (fun c_41 => absurd ((nI_leI (a := W.length) (b := 16) (by omega) (by omega)).mpr (by omega)) c_41)
  refine zr_aload_n dX10_relax_57 rfl ?_
  refine zr_aload_n dX10_relax_58 rfl ?_
  refine zr_getM (v := .ref (y + 1)) dX10_relax_59 fX10_7 g0 rfl ?_
  refine zr_callVv [] dX10_relax_62 vX10_145 (qX10_keeps hX (r := y + 1) g0 kh26 (by omega) (by omega) kh27 f5 f6 hm8 gr hA gU wU) g0 (by decide) (by decide) (by decide) rfl rfl (Nat.le_of_ble_eq_true rfl) (by decide) rfl (fun s0 h_ => ?_)
  obtain ⟨F0, g00, kp1, kc1, gU1⟩ := h_
  have kh36 : s0.1 (y + 1) = .inl (0, 82, .inl g) := zFr.get F0 (by omega) kh26
  have kh37 : s0.1 (y + 3) = .inl (0, 82, .inl sv) := zFr.get F0 (by omega) kh28
  have kh38 : s0.1 (y + 4) = .inl (0, 82, .inl bf) := zFr.get F0 (by omega) kh29
  have kh39 : s0.1 (y + 5) = .inl (0, 60, .inl ip) := zFr.get F0 (by omega) kh30
  have kh40 : s0.1 (y + 6) = .inl (1, 400, .inl sg) := zFr.get F0 (by omega) kh31
  have kh41 : s0.1 (y + 11) = .inl (0, 93, .inl td) := zFr.get F0 (by omega) kh32
  have kR42 := zWk.fr kW1 F0 (by intro q a b c; omega)
  have kR43 := zCy.fr kC1 F0 (by intro q a b c; omega)
  have kR44 := zXa.fr kR33 F0 (by intro q a b c; omega)
  have kR45 := zOa.fr kR34 F0 (by intro q a b c; omega)
  have kF46 := zFr.tr kF35 F0 (by intro q hq; unfold zMq; omega)
  refine zr_aload_n dX10_relax_65 rfl ?_
  refine zr_iload_n dX10_relax_66 rfl ?_
  refine zr_pSi [.ref y] dX10_relax_67 vX10_138 (qX10_caseAt hX (i := i)) (by decide) (by decide) (by decide) rfl rfl (Nat.le_of_ble_eq_true rfl) rfl ?_
  refine zr_callVv [] dX10_relax_70 vX10_165 (qX10_keepsWord hX (L := W) g00 kh36 rfl kR42 hL (zRn_lt 2000 (zWd A i) [] q W (fun z hz => by cases hz) (hA.wd (by omega)) (by rw [zWd_l, List.length_nil]; omega) hO) (by omega)) g00 (by decide) (by decide) (by decide) rfl rfl (Nat.le_of_ble_eq_true rfl) (by decide) rfl (fun s3 h_ => ?_)
  obtain ⟨F3, g3, c3, kq3⟩ := h_
  have kh47 : s3.1 (y + 3) = .inl (0, 82, .inl sv) := zFr.get F3 (by omega) kh37
  have kh48 : s3.1 (y + 4) = .inl (0, 82, .inl bf) := zFr.get F3 (by omega) kh38
  have kh49 : s3.1 (y + 5) = .inl (0, 60, .inl ip) := zFr.get F3 (by omega) kh39
  have kh50 : s3.1 (y + 6) = .inl (1, 400, .inl sg) := zFr.get F3 (by omega) kh40
  have kh51 : s3.1 (y + 11) = .inl (0, 93, .inl td) := zFr.get F3 (by omega) kh41
  have kh52 : s3.1 y = zmO y (upd (upd (upd (upd (upd (upd (upd F 5 (nI (mN w m))) 7 0) 8 0) 19 (nI W.length)) 20 (nI (2000 - q))) 21 u1) 22 v1) := zFr.get F3 (by omega) g00
  have kh53 : s3.1 (y + 2) = .inl (0, 656, .inl kp1) := zFr.get F3 (by omega) kc1
  have kR54 := zWk.fr kR42 F3 (by intro q a b c; omega)
  have kR55 := zCy.fr kR43 F3 (by intro q a b c; omega)
  have kR56 := zXa.fr kR44 F3 (by intro q a b c; omega)
  have kR57 := zOa.fr kR45 F3 (by intro q a b c; omega)
  have kF58 := zFr.tr kF46 F3 (by intro q hq; unfold zMq; omega)
  refine zr_aload_n dX10_relax_73 rfl ?_
  refine zr_getM (v := .int (nI (2000 - q))) dX10_relax_74 fX10_104 kh52 rfl ?_
  exact zr_ireturn dX10_relax_77 rfl (rfl) (⟨_, rfl, rfl, kF58, ⟨_, _, _, _, _, _, _, _, kh52, ⟨f4, rfl, f6, rfl, rfl, f9, f10, f11, f13, f14, f16, f27⟩, c3, kh53, kh47, kh48, kh49, kh50, kh51, (kR54).wa, kR55, kR56, kR57, (gr.kw gA hi hr hL kq3 rfl (fun k hk => rfl)), gS, gK, (mN_8 hm8), gU1, hn60, hT, hll, hln⟩⟩)

set_option maxHeartbeats 400000 in
set_option maxRecDepth 100000 in
theorem qX10_relaxD5 {X : zX} (hX : X.1.stackTraces = false) {σ : zS} {y : Nat} {w tm cd dn : Int32} {K : zDk} {A S : zDk} {m : Nat} {U : Nat → zDk} {n : Nat} {T : Nat → Int32} {ll : Nat} {ln : Nat → Int32} {hs kf ld dt dc : Int32} {i q : Nat} {W : List Int32} (hM : zMo y w tm cd dn K A S m U n T ll ln hs kf ld dt dc σ) (gA : zGd A) (hi : i < kC A) (hr : kR A i = -1) (hO : zRn 2000 [] (zWd A i) = some (q, W)) (hL : 16 < W.length) : zMet X mX10_relax yX10_relax 5 0 0 [.ref y, .int (nI i)] σ (zI (fun y_ s => True ∧ zFr σ s (zMq y) ∧ zMo y w tm 2 1 K A S m U n T ll ln hs kf 5 (nI (kN A i)) 0 s)) := by
  refine zMet_of (ls := [some (.ref y), some (.int (nI i)), none]) rfl (by decide +kernel) rfl (fun h => by cases h) hX (Nat.le_of_ble_eq_true rfl) rfl ?_
  obtain ⟨F, g, kp, sv, bf, ip, sg, td, h0, hf, h1, h2, h3, h4, h5, h6, h11, hWa, hC, hX9, hOt, gr, gS, gK, hm8, gU, hn60, hT, hll, hln⟩ := id hM
  obtain ⟨f4, f5, f6, f7, f8, f9, f10, f11, f13, f14, f16, f27⟩ := id hf
  have hA := gA.1
  obtain ⟨r0, r1, rc, rp⟩ := id gr
  obtain ⟨hC8, hP8, hW⟩ := id hA
  have n16 := (hW i (by omega)).1
  refine zr_aload_n dX10_relax_0 rfl ?_
  refine zr_iload_n dX10_relax_1 rfl ?_
  refine zr_callVi [] dX10_relax_2 vX10_155 (qX10_isNone hX (i := i) h0 h1 r0 (by omega) hi) h0 (by decide) (by decide) (by decide) rfl rfl (Nat.le_of_ble_eq_true rfl) (by decide) rfl (fun kr1 s_kr1 h_kr1 => ?_)
  obtain ⟨e_kr1, F_kr1, g0_kr1⟩ := h_kr1
  have kh2 : s_kr1.1 (y + 1) = .inl (0, 82, .inl g) := zFr.get F_kr1 (by omega) h1
  have kh3 : s_kr1.1 (y + 2) = .inl (0, 656, .inl kp) := zFr.get F_kr1 (by omega) h2
  have kh4 : s_kr1.1 (y + 3) = .inl (0, 82, .inl sv) := zFr.get F_kr1 (by omega) h3
  have kh5 : s_kr1.1 (y + 4) = .inl (0, 82, .inl bf) := zFr.get F_kr1 (by omega) h4
  have kh6 : s_kr1.1 (y + 5) = .inl (0, 60, .inl ip) := zFr.get F_kr1 (by omega) h5
  have kh7 : s_kr1.1 (y + 6) = .inl (1, 400, .inl sg) := zFr.get F_kr1 (by omega) h6
  have kh8 : s_kr1.1 (y + 11) = .inl (0, 93, .inl td) := zFr.get F_kr1 (by omega) h11
  have kR9 : zWa y s_kr1 := zWa.fr hWa F_kr1 (by intro q h1 h2 h3; (try simp only [zIn, zJf] at h3); omega)
  have kR10 : zCy y s_kr1 := zCy.fr hC F_kr1 (by intro q h1 h2 h3; (try simp only [zIn, zJf] at h3); omega)
  have kR11 : zXa y s_kr1 := zXa.fr hX9 F_kr1 (by intro q h1 h2 h3; (try simp only [zIn, zJf] at h3); omega)
  have kR12 : zOa y s_kr1 := zOa.fr hOt F_kr1 (by intro q h1 h2 h3; (try simp only [zIn, zJf] at h3); omega)
  have kF13 := zFr.tr zFr.rf (P := zMq y) F_kr1 (by intro q hq; unfold zMq; omega)
  obtain rfl := e_kr1.symm
  refine zr_if_ne (tgt := 16) dX10_relax_5 (by decide) (fun c_5 => absurd (by decide) c_5) (fun c_5 => ?_)
  refine zr_aload_n dX10_relax_8 rfl ?_
  refine zr_iload_n dX10_relax_9 rfl ?_
  refine zr_pVi [] dX10_relax_10 vX10_158 (qX10_isClosed hX (i := i) g0_kr1 kh2 gr hA hi hr) g0_kr1 (by decide) (by decide) (by decide) rfl rfl (Nat.le_of_ble_eq_true rfl) (by decide) rfl ?_
  refine zr_if_eq (tgt := 18) dX10_relax_13 (by decide) (fun c_13 => ?_) (fun c_13 => absurd (by decide) c_13)
  refine zr_aload_n dX10_relax_18 rfl ?_
  refine zr_iload_n dX10_relax_19 rfl ?_
  refine zr_pSi [.ref y] dX10_relax_20 vX10_138 (qX10_caseAt hX (i := i)) (by decide) (by decide) (by decide) rfl rfl (Nat.le_of_ble_eq_true rfl) rfl ?_
  refine zr_callVv [] dX10_relax_23 vX10_128 (qM_take hX (i := i) g0_kr1 kh2 gr hA (by omega) kR9) g0_kr1 (by decide) (by decide) (by decide) rfl rfl (Nat.le_of_ble_eq_true rfl) (by decide) rfl (fun s_kr14 h_kr14 => ?_)
  obtain ⟨F_kr14, g0_kr14, r0_kr14⟩ := h_kr14
  have kh15 : s_kr14.1 (y + 1) = .inl (0, 82, .inl g) := zFr.get F_kr14 (by omega) kh2
  have kh16 : s_kr14.1 (y + 2) = .inl (0, 656, .inl kp) := zFr.get F_kr14 (by omega) kh3
  have kh17 : s_kr14.1 (y + 3) = .inl (0, 82, .inl sv) := zFr.get F_kr14 (by omega) kh4
  have kh18 : s_kr14.1 (y + 4) = .inl (0, 82, .inl bf) := zFr.get F_kr14 (by omega) kh5
  have kh19 : s_kr14.1 (y + 5) = .inl (0, 60, .inl ip) := zFr.get F_kr14 (by omega) kh6
  have kh20 : s_kr14.1 (y + 6) = .inl (1, 400, .inl sg) := zFr.get F_kr14 (by omega) kh7
  have kh21 : s_kr14.1 (y + 11) = .inl (0, 93, .inl td) := zFr.get F_kr14 (by omega) kh8
  have kR22 : zCy y s_kr14 := zCy.fr kR10 F_kr14 (by intro q h1 h2 h3; (try simp only [zIn, zJf] at h3); omega)
  have kR23 : zXa y s_kr14 := zXa.fr kR11 F_kr14 (by intro q h1 h2 h3; (try simp only [zIn, zJf] at h3); omega)
  have kR24 : zOa y s_kr14 := zOa.fr kR12 F_kr14 (by intro q h1 h2 h3; (try simp only [zIn, zJf] at h3); omega)
  have kF25 := zFr.tr kF13 F_kr14 (by intro q hq; unfold zMq; omega)
  refine zr_aload_n dX10_relax_26 rfl ?_
  refine zr_callVi [] dX10_relax_27 vX10_168 (qX10_relaxes hX (L := zWd A i) g0_kr14 (by rw [zWd_l]; rfl) r0_kr14 (hA.wd (by omega)) (by rw [zWd_l]; omega) kR22) g0_kr14 (by decide) (by decide) (by decide) rfl rfl (Nat.le_of_ble_eq_true rfl) (by decide) rfl (fun r1 s1 h_ => ?_)
  obtain ⟨m1, c1, u1, v1, W1, F1, g0, kC1, kW1, h7⟩ := h_
  obtain ⟨q1, rfl, hO1, rfl, rfl, w4, q20⟩ := h7.resolve_left (fun q => by rw [hO] at q; cases q.2)
  obtain ⟨rfl, rfl⟩ : q = q1 ∧ W = W1 := Prod.mk.inj (Option.some.inj (hO.symm.trans hO1))
  have kh26 : s1.1 (y + 1) = .inl (0, 82, .inl g) := zFr.get F1 (by omega) kh15
  have kh27 : s1.1 (y + 2) = .inl (0, 656, .inl kp) := zFr.get F1 (by omega) kh16
  have kh28 : s1.1 (y + 3) = .inl (0, 82, .inl sv) := zFr.get F1 (by omega) kh17
  have kh29 : s1.1 (y + 4) = .inl (0, 82, .inl bf) := zFr.get F1 (by omega) kh18
  have kh30 : s1.1 (y + 5) = .inl (0, 60, .inl ip) := zFr.get F1 (by omega) kh19
  have kh31 : s1.1 (y + 6) = .inl (1, 400, .inl sg) := zFr.get F1 (by omega) kh20
  have kh32 : s1.1 (y + 11) = .inl (0, 93, .inl td) := zFr.get F1 (by omega) kh21
  have kR33 := zXa.fr kR23 F1 (by intro q a b c; omega)
  have kR34 := zOa.fr kR24 F1 (by intro q a b c; omega)
  have kF35 := zFr.tr kF25 F1 (by intro q hq; unfold zMq; omega)
  refine zr_istore_n (ls' := [some (.ref y), some (.int (nI i)), some (.int 1)]) dX10_relax_30 rfl (by decide) rfl ?_
  refine zr_iload_n dX10_relax_31 rfl ?_
  refine zr_if_eq (tgt := 44) dX10_relax_32 (by decide) (fun c_32 => absurd c_32 (by decide)) (fun c_32 => ?_)
  refine zr_aload_n dX10_relax_35 rfl ?_
  refine zr_getM (v := .int (nI W.length)) dX10_relax_36 fX10_79 g0 rfl ?_
  refine zr_bipush (v := 16) dX10_relax_39 (by decide) ?_
  refine zr_icmp_le (tgt := 57) dX10_relax_41 (by decide) (fun c_41 => absurd c_41 (fun h => absurd ((nI_leI (a := W.length) (b := 16) (by omega) (by omega)).mp h) (by omega))) (fun c_41 => ?_)
  refine zr_aload_n dX10_relax_44 rfl ?_
  refine zr_iconst (v := 2) dX10_relax_45 (by decide) ?_
  refine zr_iconst (v := 5) dX10_relax_46 (by decide) ?_
  refine zr_aload_n dX10_relax_47 rfl ?_
  refine zr_iload_n dX10_relax_48 rfl ?_
  refine zr_iconst (v := 0) dX10_relax_49 (by decide) ?_
  refine zr_pVi [.int 5, .int 2, .ref y] dX10_relax_50 vX10_149 (qX10_of hX (i := i) (k := 0) g0 kh26 (by omega)) g0 (by decide) (by decide) (by decide) rfl rfl (Nat.le_of_ble_eq_true rfl) (by decide) rfl ?_
  refine zr_eqi (x' := nI (kN A i)) ((rc i hi).1) ?_
  refine zr_callVi [] dX10_relax_53 vX10_141 (qX10_denies hX (p := 2) (n := 5) (q := nI (kN A i)) g0) g0 (by decide) (by decide) (by decide) rfl rfl (Nat.le_of_ble_eq_true rfl) (by decide) rfl (fun kr36 s_kr36 h_kr36 => ?_)
  obtain ⟨e_kr36, F_kr36, g0_kr36⟩ := h_kr36
  have kh37 : s_kr36.1 (y + 1) = .inl (0, 82, .inl g) := zFr.get F_kr36 (by omega) kh26
  have kh38 : s_kr36.1 (y + 2) = .inl (0, 656, .inl kp) := zFr.get F_kr36 (by omega) kh27
  have kh39 : s_kr36.1 (y + 3) = .inl (0, 82, .inl sv) := zFr.get F_kr36 (by omega) kh28
  have kh40 : s_kr36.1 (y + 4) = .inl (0, 82, .inl bf) := zFr.get F_kr36 (by omega) kh29
  have kh41 : s_kr36.1 (y + 5) = .inl (0, 60, .inl ip) := zFr.get F_kr36 (by omega) kh30
  have kh42 : s_kr36.1 (y + 6) = .inl (1, 400, .inl sg) := zFr.get F_kr36 (by omega) kh31
  have kh43 : s_kr36.1 (y + 11) = .inl (0, 93, .inl td) := zFr.get F_kr36 (by omega) kh32
  have kR44 : zWk y W s_kr36 := zWk.fr kW1 F_kr36 (by intro q h1 h2 h3; (try simp only [zIn, zJf] at h3); omega)
  have kR45 : zCy y s_kr36 := zCy.fr kC1 F_kr36 (by intro q h1 h2 h3; (try simp only [zIn, zJf] at h3); omega)
  have kR46 : zXa y s_kr36 := zXa.fr kR33 F_kr36 (by intro q h1 h2 h3; (try simp only [zIn, zJf] at h3); omega)
  have kR47 : zOa y s_kr36 := zOa.fr kR34 F_kr36 (by intro q h1 h2 h3; (try simp only [zIn, zJf] at h3); omega)
  have kF48 := zFr.tr kF35 F_kr36 (by intro q hq; unfold zMq; omega)
  obtain rfl := e_kr36.symm
  exact zr_ireturn dX10_relax_56 rfl (rfl) (⟨_, rfl, trivial, kF48, ⟨_, _, _, _, _, _, _, _, g0_kr36, ⟨f4, f5, f6, rfl, rfl, rfl, rfl, rfl, f13, f14, f16, f27⟩, kh37, kh38, kh39, kh40, kh41, kh42, kh43, (kR44).wa, kR45, kR46, kR47, gr, gS, gK, hm8, gU, hn60, hT, hll, hln⟩⟩)

set_option maxHeartbeats 400000 in
set_option maxRecDepth 100000 in
theorem qX10_relaxDN {X : zX} (hX : X.1.stackTraces = false) {σ : zS} {y : Nat} {w tm cd dn : Int32} {K : zDk} {A S : zDk} {m : Nat} {U : Nat → zDk} {n : Nat} {T : Nat → Int32} {ll : Nat} {ln : Nat → Int32} {hs kf ld dt dc : Int32} {i : Nat} (hM : zMo y w tm cd dn K A S m U n T ll ln hs kf ld dt dc σ) (gA : zGd A) (hi : i < kC A) (hr : kR A i = -1) (hO : zRn 2000 [] (zWd A i) = none) : zMet X mX10_relax yX10_relax 5 0 0 [.ref y, .int (nI i)] σ (zI (fun y_ s => True ∧ zFr σ s (zMq y) ∧ zMo y w tm 2 1 K A S m U n T ll ln hs kf 5 (nI (kN A i)) 0 s)) := by
  refine zMet_of (ls := [some (.ref y), some (.int (nI i)), none]) rfl (by decide +kernel) rfl (fun h => by cases h) hX (Nat.le_of_ble_eq_true rfl) rfl ?_
  obtain ⟨F, g, kp, sv, bf, ip, sg, td, h0, hf, h1, h2, h3, h4, h5, h6, h11, hWa, hC, hX9, hOt, gr, gS, gK, hm8, gU, hn60, hT, hll, hln⟩ := id hM
  obtain ⟨f4, f5, f6, f7, f8, f9, f10, f11, f13, f14, f16, f27⟩ := id hf
  have hA := gA.1
  obtain ⟨r0, r1, rc, rp⟩ := id gr
  obtain ⟨hC8, hP8, hW⟩ := id hA
  have n16 := (hW i (by omega)).1
  refine zr_aload_n dX10_relax_0 rfl ?_
  refine zr_iload_n dX10_relax_1 rfl ?_
  refine zr_callVi [] dX10_relax_2 vX10_155 (qX10_isNone hX (i := i) h0 h1 r0 (by omega) hi) h0 (by decide) (by decide) (by decide) rfl rfl (Nat.le_of_ble_eq_true rfl) (by decide) rfl (fun kr1 s_kr1 h_kr1 => ?_)
  obtain ⟨e_kr1, F_kr1, g0_kr1⟩ := h_kr1
  have kh2 : s_kr1.1 (y + 1) = .inl (0, 82, .inl g) := zFr.get F_kr1 (by omega) h1
  have kh3 : s_kr1.1 (y + 2) = .inl (0, 656, .inl kp) := zFr.get F_kr1 (by omega) h2
  have kh4 : s_kr1.1 (y + 3) = .inl (0, 82, .inl sv) := zFr.get F_kr1 (by omega) h3
  have kh5 : s_kr1.1 (y + 4) = .inl (0, 82, .inl bf) := zFr.get F_kr1 (by omega) h4
  have kh6 : s_kr1.1 (y + 5) = .inl (0, 60, .inl ip) := zFr.get F_kr1 (by omega) h5
  have kh7 : s_kr1.1 (y + 6) = .inl (1, 400, .inl sg) := zFr.get F_kr1 (by omega) h6
  have kh8 : s_kr1.1 (y + 11) = .inl (0, 93, .inl td) := zFr.get F_kr1 (by omega) h11
  have kR9 : zWa y s_kr1 := zWa.fr hWa F_kr1 (by intro q h1 h2 h3; (try simp only [zIn, zJf] at h3); omega)
  have kR10 : zCy y s_kr1 := zCy.fr hC F_kr1 (by intro q h1 h2 h3; (try simp only [zIn, zJf] at h3); omega)
  have kR11 : zXa y s_kr1 := zXa.fr hX9 F_kr1 (by intro q h1 h2 h3; (try simp only [zIn, zJf] at h3); omega)
  have kR12 : zOa y s_kr1 := zOa.fr hOt F_kr1 (by intro q h1 h2 h3; (try simp only [zIn, zJf] at h3); omega)
  have kF13 := zFr.tr zFr.rf (P := zMq y) F_kr1 (by intro q hq; unfold zMq; omega)
  obtain rfl := e_kr1.symm
  refine zr_if_ne (tgt := 16) dX10_relax_5 (by decide) (fun c_5 => absurd (by decide) c_5) (fun c_5 => ?_)
  refine zr_aload_n dX10_relax_8 rfl ?_
  refine zr_iload_n dX10_relax_9 rfl ?_
  refine zr_pVi [] dX10_relax_10 vX10_158 (qX10_isClosed hX (i := i) g0_kr1 kh2 gr hA hi hr) g0_kr1 (by decide) (by decide) (by decide) rfl rfl (Nat.le_of_ble_eq_true rfl) (by decide) rfl ?_
  refine zr_if_eq (tgt := 18) dX10_relax_13 (by decide) (fun c_13 => ?_) (fun c_13 => absurd (by decide) c_13)
  refine zr_aload_n dX10_relax_18 rfl ?_
  refine zr_iload_n dX10_relax_19 rfl ?_
  refine zr_pSi [.ref y] dX10_relax_20 vX10_138 (qX10_caseAt hX (i := i)) (by decide) (by decide) (by decide) rfl rfl (Nat.le_of_ble_eq_true rfl) rfl ?_
  refine zr_callVv [] dX10_relax_23 vX10_128 (qM_take hX (i := i) g0_kr1 kh2 gr hA (by omega) kR9) g0_kr1 (by decide) (by decide) (by decide) rfl rfl (Nat.le_of_ble_eq_true rfl) (by decide) rfl (fun s_kr14 h_kr14 => ?_)
  obtain ⟨F_kr14, g0_kr14, r0_kr14⟩ := h_kr14
  have kh15 : s_kr14.1 (y + 1) = .inl (0, 82, .inl g) := zFr.get F_kr14 (by omega) kh2
  have kh16 : s_kr14.1 (y + 2) = .inl (0, 656, .inl kp) := zFr.get F_kr14 (by omega) kh3
  have kh17 : s_kr14.1 (y + 3) = .inl (0, 82, .inl sv) := zFr.get F_kr14 (by omega) kh4
  have kh18 : s_kr14.1 (y + 4) = .inl (0, 82, .inl bf) := zFr.get F_kr14 (by omega) kh5
  have kh19 : s_kr14.1 (y + 5) = .inl (0, 60, .inl ip) := zFr.get F_kr14 (by omega) kh6
  have kh20 : s_kr14.1 (y + 6) = .inl (1, 400, .inl sg) := zFr.get F_kr14 (by omega) kh7
  have kh21 : s_kr14.1 (y + 11) = .inl (0, 93, .inl td) := zFr.get F_kr14 (by omega) kh8
  have kR22 : zCy y s_kr14 := zCy.fr kR10 F_kr14 (by intro q h1 h2 h3; (try simp only [zIn, zJf] at h3); omega)
  have kR23 : zXa y s_kr14 := zXa.fr kR11 F_kr14 (by intro q h1 h2 h3; (try simp only [zIn, zJf] at h3); omega)
  have kR24 : zOa y s_kr14 := zOa.fr kR12 F_kr14 (by intro q h1 h2 h3; (try simp only [zIn, zJf] at h3); omega)
  have kF25 := zFr.tr kF13 F_kr14 (by intro q hq; unfold zMq; omega)
  refine zr_aload_n dX10_relax_26 rfl ?_
  refine zr_callVi [] dX10_relax_27 vX10_168 (qX10_relaxes hX (L := zWd A i) g0_kr14 (by rw [zWd_l]; rfl) r0_kr14 (hA.wd (by omega)) (by rw [zWd_l]; omega) kR22) g0_kr14 (by decide) (by decide) (by decide) rfl rfl (Nat.le_of_ble_eq_true rfl) (by decide) rfl (fun r1 s1 h_ => ?_)
  obtain ⟨m1, c1, u1, v1, W1, F1, g0, kC1, kW1, h7⟩ := h_
  obtain ⟨rfl, -⟩ := h7.resolve_right (fun q => by obtain ⟨q1, -, hO1, -⟩ := q; rw [hO] at hO1; cases hO1)
  have kh26 : s1.1 (y + 1) = .inl (0, 82, .inl g) := zFr.get F1 (by omega) kh15
  have kh27 : s1.1 (y + 2) = .inl (0, 656, .inl kp) := zFr.get F1 (by omega) kh16
  have kh28 : s1.1 (y + 3) = .inl (0, 82, .inl sv) := zFr.get F1 (by omega) kh17
  have kh29 : s1.1 (y + 4) = .inl (0, 82, .inl bf) := zFr.get F1 (by omega) kh18
  have kh30 : s1.1 (y + 5) = .inl (0, 60, .inl ip) := zFr.get F1 (by omega) kh19
  have kh31 : s1.1 (y + 6) = .inl (1, 400, .inl sg) := zFr.get F1 (by omega) kh20
  have kh32 : s1.1 (y + 11) = .inl (0, 93, .inl td) := zFr.get F1 (by omega) kh21
  have kR33 := zXa.fr kR23 F1 (by intro q a b c; omega)
  have kR34 := zOa.fr kR24 F1 (by intro q a b c; omega)
  have kF35 := zFr.tr kF25 F1 (by intro q hq; unfold zMq; omega)
  refine zr_istore_n (ls' := [some (.ref y), some (.int (nI i)), some (.int 0)]) dX10_relax_30 rfl (by decide) rfl ?_
  refine zr_iload_n dX10_relax_31 rfl ?_
  refine zr_if_eq (tgt := 44) dX10_relax_32 (by decide) (fun c_32 => ?_) (fun c_32 => absurd (by decide) c_32)
  refine zr_aload_n dX10_relax_44 rfl ?_
  refine zr_iconst (v := 2) dX10_relax_45 (by decide) ?_
  refine zr_iconst (v := 5) dX10_relax_46 (by decide) ?_
  refine zr_aload_n dX10_relax_47 rfl ?_
  refine zr_iload_n dX10_relax_48 rfl ?_
  refine zr_iconst (v := 0) dX10_relax_49 (by decide) ?_
  refine zr_pVi [.int 5, .int 2, .ref y] dX10_relax_50 vX10_149 (qX10_of hX (i := i) (k := 0) g0 kh26 (by omega)) g0 (by decide) (by decide) (by decide) rfl rfl (Nat.le_of_ble_eq_true rfl) (by decide) rfl ?_
  refine zr_eqi (x' := nI (kN A i)) ((rc i hi).1) ?_
  refine zr_callVi [] dX10_relax_53 vX10_141 (qX10_denies hX (p := 2) (n := 5) (q := nI (kN A i)) g0) g0 (by decide) (by decide) (by decide) rfl rfl (Nat.le_of_ble_eq_true rfl) (by decide) rfl (fun kr36 s_kr36 h_kr36 => ?_)
  obtain ⟨e_kr36, F_kr36, g0_kr36⟩ := h_kr36
  have kh37 : s_kr36.1 (y + 1) = .inl (0, 82, .inl g) := zFr.get F_kr36 (by omega) kh26
  have kh38 : s_kr36.1 (y + 2) = .inl (0, 656, .inl kp) := zFr.get F_kr36 (by omega) kh27
  have kh39 : s_kr36.1 (y + 3) = .inl (0, 82, .inl sv) := zFr.get F_kr36 (by omega) kh28
  have kh40 : s_kr36.1 (y + 4) = .inl (0, 82, .inl bf) := zFr.get F_kr36 (by omega) kh29
  have kh41 : s_kr36.1 (y + 5) = .inl (0, 60, .inl ip) := zFr.get F_kr36 (by omega) kh30
  have kh42 : s_kr36.1 (y + 6) = .inl (1, 400, .inl sg) := zFr.get F_kr36 (by omega) kh31
  have kh43 : s_kr36.1 (y + 11) = .inl (0, 93, .inl td) := zFr.get F_kr36 (by omega) kh32
  have kR44 : zWk y W1 s_kr36 := zWk.fr kW1 F_kr36 (by intro q h1 h2 h3; (try simp only [zIn, zJf] at h3); omega)
  have kR45 : zCy y s_kr36 := zCy.fr kC1 F_kr36 (by intro q h1 h2 h3; (try simp only [zIn, zJf] at h3); omega)
  have kR46 : zXa y s_kr36 := zXa.fr kR33 F_kr36 (by intro q h1 h2 h3; (try simp only [zIn, zJf] at h3); omega)
  have kR47 : zOa y s_kr36 := zOa.fr kR34 F_kr36 (by intro q h1 h2 h3; (try simp only [zIn, zJf] at h3); omega)
  have kF48 := zFr.tr kF35 F_kr36 (by intro q hq; unfold zMq; omega)
  obtain rfl := e_kr36.symm
  exact zr_ireturn dX10_relax_56 rfl (rfl) (⟨_, rfl, trivial, kF48, ⟨_, _, _, _, _, _, _, _, g0_kr36, ⟨f4, f5, f6, rfl, rfl, rfl, rfl, rfl, f13, f14, f16, f27⟩, kh37, kh38, kh39, kh40, kh41, kh42, kh43, (kR44).wa, kR45, kR46, kR47, gr, gS, gK, hm8, gU, hn60, hT, hll, hln⟩⟩)

set_option maxHeartbeats 400000 in
set_option maxRecDepth 100000 in
theorem qX10_relaxD2 {X : zX} (hX : X.1.stackTraces = false) {σ : zS} {y : Nat} {w tm cd dn : Int32} {K : zDk} {A S : zDk} {m : Nat} {U : Nat → zDk} {n : Nat} {T : Nat → Int32} {ll : Nat} {ln : Nat → Int32} {hs kf ld dt dc : Int32} {i : Nat} (hM : zMo y w tm cd dn K A S m U n T ll ln hs kf ld dt dc σ) (gA : zGd A) (hi : i < kC A) (hr : ¬ kR A i = -1) : zMet X mX10_relax yX10_relax 4 0 0 [.ref y, .int (nI i)] σ (zI (fun y_ s => True ∧ zFr σ s (zMq y) ∧ zMo y w tm 2 1 K A S m U n T ll ln hs kf 2 (kR A i) 0 s)) := by
  refine zMet_of (ls := [some (.ref y), some (.int (nI i)), none]) rfl (by decide +kernel) rfl (fun h => by cases h) hX (Nat.le_of_ble_eq_true rfl) rfl ?_
  obtain ⟨F, g, kp, sv, bf, ip, sg, td, h0, hf, h1, h2, h3, h4, h5, h6, h11, hWa, hC, hX9, hOt, gr, gS, gK, hm8, gU, hn60, hT, hll, hln⟩ := id hM
  obtain ⟨f4, f5, f6, f7, f8, f9, f10, f11, f13, f14, f16, f27⟩ := id hf
  have hA := gA.1
  obtain ⟨r0, r1, rc, rp⟩ := id gr
  obtain ⟨hC8, hP8, hW⟩ := id hA
  refine zr_aload_n dX10_relax_0 rfl ?_
  refine zr_iload_n dX10_relax_1 rfl ?_
  refine zr_callVi [] dX10_relax_2 vX10_155 (qX10_isNone hX (i := i) h0 h1 r0 (by omega) hi) h0 (by decide) (by decide) (by decide) rfl rfl (Nat.le_of_ble_eq_true rfl) (by decide) rfl (fun kr1 s_kr1 h_kr1 => ?_)
  obtain ⟨e_kr1, F_kr1, g0_kr1⟩ := h_kr1
  have kh2 : s_kr1.1 (y + 1) = .inl (0, 82, .inl g) := zFr.get F_kr1 (by omega) h1
  have kh3 : s_kr1.1 (y + 2) = .inl (0, 656, .inl kp) := zFr.get F_kr1 (by omega) h2
  have kh4 : s_kr1.1 (y + 3) = .inl (0, 82, .inl sv) := zFr.get F_kr1 (by omega) h3
  have kh5 : s_kr1.1 (y + 4) = .inl (0, 82, .inl bf) := zFr.get F_kr1 (by omega) h4
  have kh6 : s_kr1.1 (y + 5) = .inl (0, 60, .inl ip) := zFr.get F_kr1 (by omega) h5
  have kh7 : s_kr1.1 (y + 6) = .inl (1, 400, .inl sg) := zFr.get F_kr1 (by omega) h6
  have kh8 : s_kr1.1 (y + 11) = .inl (0, 93, .inl td) := zFr.get F_kr1 (by omega) h11
  have kR9 : zWa y s_kr1 := zWa.fr hWa F_kr1 (by intro q h1 h2 h3; (try simp only [zIn, zJf] at h3); omega)
  have kR10 : zCy y s_kr1 := zCy.fr hC F_kr1 (by intro q h1 h2 h3; (try simp only [zIn, zJf] at h3); omega)
  have kR11 : zXa y s_kr1 := zXa.fr hX9 F_kr1 (by intro q h1 h2 h3; (try simp only [zIn, zJf] at h3); omega)
  have kR12 : zOa y s_kr1 := zOa.fr hOt F_kr1 (by intro q h1 h2 h3; (try simp only [zIn, zJf] at h3); omega)
  have kF13 := zFr.tr zFr.rf (P := zMq y) F_kr1 (by intro q hq; unfold zMq; omega)
  obtain rfl := e_kr1.symm
  refine zr_if_ne (tgt := 16) dX10_relax_5 (by decide) (fun c_5 => absurd (by decide) c_5) (fun c_5 => ?_)
  refine zr_aload_n dX10_relax_8 rfl ?_
  refine zr_iload_n dX10_relax_9 rfl ?_
  refine zr_callVi [] dX10_relax_10 vX10_158 (qX10_isClosedX hX (i := i) g0_kr1 kh2 gr hA hi hr) g0_kr1 (by decide) (by decide) (by decide) rfl rfl (Nat.le_of_ble_eq_true rfl) (by decide) rfl (fun kr14 s_kr14 h_kr14 => ?_)
  obtain ⟨e_kr14, F_kr14, g0_kr14⟩ := h_kr14
  have kh15 : s_kr14.1 (y + 1) = .inl (0, 82, .inl g) := zFr.get F_kr14 (by omega) kh2
  have kh16 : s_kr14.1 (y + 2) = .inl (0, 656, .inl kp) := zFr.get F_kr14 (by omega) kh3
  have kh17 : s_kr14.1 (y + 3) = .inl (0, 82, .inl sv) := zFr.get F_kr14 (by omega) kh4
  have kh18 : s_kr14.1 (y + 4) = .inl (0, 82, .inl bf) := zFr.get F_kr14 (by omega) kh5
  have kh19 : s_kr14.1 (y + 5) = .inl (0, 60, .inl ip) := zFr.get F_kr14 (by omega) kh6
  have kh20 : s_kr14.1 (y + 6) = .inl (1, 400, .inl sg) := zFr.get F_kr14 (by omega) kh7
  have kh21 : s_kr14.1 (y + 11) = .inl (0, 93, .inl td) := zFr.get F_kr14 (by omega) kh8
  have kR22 : zWa y s_kr14 := zWa.fr kR9 F_kr14 (by intro q h1 h2 h3; (try simp only [zIn, zJf] at h3); omega)
  have kR23 : zCy y s_kr14 := zCy.fr kR10 F_kr14 (by intro q h1 h2 h3; (try simp only [zIn, zJf] at h3); omega)
  have kR24 : zXa y s_kr14 := zXa.fr kR11 F_kr14 (by intro q h1 h2 h3; (try simp only [zIn, zJf] at h3); omega)
  have kR25 : zOa y s_kr14 := zOa.fr kR12 F_kr14 (by intro q h1 h2 h3; (try simp only [zIn, zJf] at h3); omega)
  have kF26 := zFr.tr kF13 F_kr14 (by intro q hq; unfold zMq; omega)
  obtain rfl := e_kr14.symm
  refine zr_if_eq (tgt := 18) dX10_relax_13 (by decide) (fun c_13 => absurd c_13 (by decide)) (fun c_13 => ?_)
  refine zr_iconst (v := 0) dX10_relax_16 (by decide) ?_
  exact zr_ireturn dX10_relax_17 rfl (rfl) (⟨_, rfl, trivial, kF26, ⟨_, _, _, _, _, _, _, _, g0_kr14, ⟨f4, f5, f6, rfl, rfl, rfl, rfl, rfl, f13, f14, f16, f27⟩, kh15, kh16, kh17, kh18, kh19, kh20, kh21, kR22, kR23, kR24, kR25, gr, gS, gK, hm8, gU, hn60, hT, hll, hln⟩⟩)

set_option maxHeartbeats 400000 in
set_option maxRecDepth 100000 in
theorem qX10_relaxX {X : zX} (hX : X.1.stackTraces = false) {σ : zS} {y : Nat} {w tm cd dn : Int32} {K : zDk} {A S : zDk} {m : Nat} {U : Nat → zDk} {n : Nat} {T : Nat → Int32} {ll : Nat} {ln : Nat → Int32} {hs kf ld dt dc : Int32} {p : Int32} (hM : zMo y w tm cd dn K A S m U n T ll ln hs kf ld dt dc σ) (gA : zGd A) (hno : ¬ (¬ p < 0 ∧ p < nI (kC A))) : zMet X mX10_relax yX10_relax 4 0 0 [.ref y, .int p] σ (zI (fun y_ s => True ∧ zFr σ s (zMq y) ∧ zMo y w tm 1 0 K A S m U n T ll ln hs kf ld dt dc s)) := by
  refine zMet_of (ls := [some (.ref y), some (.int p), none]) rfl (by decide +kernel) rfl (fun h => by cases h) hX (Nat.le_of_ble_eq_true rfl) rfl ?_
  obtain ⟨F, g, kp, sv, bf, ip, sg, td, h0, hf, h1, h2, h3, h4, h5, h6, h11, hWa, hC, hX9, hOt, gr, gS, gK, hm8, gU, hn60, hT, hll, hln⟩ := id hM
  obtain ⟨f4, f5, f6, f7, f8, f9, f10, f11, f13, f14, f16, f27⟩ := id hf
  have hA := gA.1
  obtain ⟨r0, r1, rc, rp⟩ := id gr
  obtain ⟨hC8, hP8, hW⟩ := id hA
  refine zr_aload_n dX10_relax_0 rfl ?_
  refine zr_iload_n dX10_relax_1 rfl ?_
  refine zr_callVi [] dX10_relax_2 vX10_155 (qX10_isNoneX hX h0 h1 r0 (by omega) hno) h0 (by decide) (by decide) (by decide) rfl rfl (Nat.le_of_ble_eq_true rfl) (by decide) rfl (fun kr1 s_kr1 h_kr1 => ?_)
  obtain ⟨e_kr1, F_kr1, g0_kr1⟩ := h_kr1
  have kh2 : s_kr1.1 (y + 1) = .inl (0, 82, .inl g) := zFr.get F_kr1 (by omega) h1
  have kh3 : s_kr1.1 (y + 2) = .inl (0, 656, .inl kp) := zFr.get F_kr1 (by omega) h2
  have kh4 : s_kr1.1 (y + 3) = .inl (0, 82, .inl sv) := zFr.get F_kr1 (by omega) h3
  have kh5 : s_kr1.1 (y + 4) = .inl (0, 82, .inl bf) := zFr.get F_kr1 (by omega) h4
  have kh6 : s_kr1.1 (y + 5) = .inl (0, 60, .inl ip) := zFr.get F_kr1 (by omega) h5
  have kh7 : s_kr1.1 (y + 6) = .inl (1, 400, .inl sg) := zFr.get F_kr1 (by omega) h6
  have kh8 : s_kr1.1 (y + 11) = .inl (0, 93, .inl td) := zFr.get F_kr1 (by omega) h11
  have kR9 : zWa y s_kr1 := zWa.fr hWa F_kr1 (by intro q h1 h2 h3; (try simp only [zIn, zJf] at h3); omega)
  have kR10 : zCy y s_kr1 := zCy.fr hC F_kr1 (by intro q h1 h2 h3; (try simp only [zIn, zJf] at h3); omega)
  have kR11 : zXa y s_kr1 := zXa.fr hX9 F_kr1 (by intro q h1 h2 h3; (try simp only [zIn, zJf] at h3); omega)
  have kR12 : zOa y s_kr1 := zOa.fr hOt F_kr1 (by intro q h1 h2 h3; (try simp only [zIn, zJf] at h3); omega)
  have kF13 := zFr.tr zFr.rf (P := zMq y) F_kr1 (by intro q hq; unfold zMq; omega)
  obtain rfl := e_kr1.symm
  refine zr_if_ne (tgt := 16) dX10_relax_5 (by decide) (fun c_5 => ?_) (fun c_5 => absurd c_5 (by decide))
  refine zr_iconst (v := 0) dX10_relax_16 (by decide) ?_
  exact zr_ireturn dX10_relax_17 rfl (rfl) (⟨_, rfl, trivial, kF13, ⟨_, _, _, _, _, _, _, _, g0_kr1, ⟨f4, f5, f6, rfl, rfl, f9, f10, f11, f13, f14, f16, f27⟩, kh2, kh3, kh4, kh5, kh6, kh7, kh8, kR9, kR10, kR11, kR12, gr, gS, gK, hm8, gU, hn60, hT, hll, hln⟩⟩)

