/-! calls that answer a long, a double, a float -/
/-- a call of both: they answer alike, or the one throws what the other names -/
def zSemJ (X : zX) (x : Nat) (cm : zMd) (cy : MethodName) (mm : zMd) (my : MethodName) (vs : List Value) (tb : List (String × Int32)) (σ : zS) : Prop :=
  (∃ (v : Int64) (d mc ms : Nat) (Qs : zS → Prop), d ≤ 9 ∧ mc ≤ 1 ∧ ms ≤ 6 ∧ zMet X cm cy d mc ms (.ref x :: vs) σ (zJ (fun r s => r = v ∧ Qs s)) ∧ ∀ s, Qs s → zFr σ s (zXr x) ∧ ∀ t, zFr s t (zOu x) → ∃ d2, d2 ≤ 9 ∧ zMet X mm my d2 0 0 (.ref (x + 261) :: vs) t (zJ (fun r u => r = v ∧ zFr t u (zMr (x + 261)) ∧ zIv x (x + 261) 0 u))) ∨
  (∃ (E : String) (k : Int32) (d mc ms : Nat) (Qs : zS → Prop), (E, k) ∈ tb ∧ d ≤ 9 ∧ mc ≤ 1 ∧ ms ≤ 6 ∧ zMet X cm cy d mc ms (.ref x :: vs) σ (fun o s => o = .inr E ∧ Qs s) ∧ ∀ s, Qs s → zFr σ s (zXr x) ∧ ∀ t, zFr s t (zOu x) → ∃ d2, d2 ≤ 9 ∧ zMet X mm my d2 0 0 (.ref (x + 261) :: vs) t (zJ (fun r u => True ∧ zFr t u (zMr (x + 261)) ∧ zIv x (x + 261) k u)))
theorem zSemJ_ok {X : zX} {x : Nat} {cm mm : zMd} {cy my : MethodName} {vs : List Value} {tb : List (String × Int32)} {σ : zS} {p p' : zPt} {v : Int64} {cd : Int32} {d mc ms d2 : Nat} (hM : zMp (x + 261) cd p σ) (hd : d ≤ 9) (h1 : mc ≤ 1) (h2 : ms ≤ 6) (hd2 : d2 ≤ 9) (hL : zLv p')
    (hc : zMet X cm cy d mc ms (.ref x :: vs) σ (zJ (fun r s => r = v ∧ zFr σ s (zXr x) ∧ zKp x p' s)))
    (hr : ∀ t, zMp (x + 261) cd p t → zMet X mm my d2 0 0 (.ref (x + 261) :: vs) t (zJ (fun r u => r = v ∧ zFr t u (zMr (x + 261)) ∧ zMp (x + 261) 0 p' u))) : zSemJ X x cm cy mm my vs tb σ := by
  refine Or.inl ⟨v, d, mc, ms, _, hd, h1, h2, hc, fun s hs => ⟨hs.1, fun t F => ⟨d2, hd2, ?_⟩⟩⟩
  have hM2 : zMp (x + 261) cd p t := (hM.fr hs.1 (fun q a b c => by unfold zXr at c; omega)).fr F (fun q a b c => by unfold zOu at c; omega)
  refine (hr t hM2).mono (fun o u h => ?_)
  obtain ⟨r, e, e2, F2, h3⟩ := h
  exact ⟨r, e, e2, F2, p', (hs.2.fr F (fun q a b c => by unfold zOu at c; omega)).fr F2 (fun q a b c => by unfold zMr at c; omega), h3, hL⟩
theorem zSemJ_no {X : zX} {x : Nat} {cm mm : zMd} {cy my : MethodName} {vs : List Value} {tb : List (String × Int32)} {σ : zS} {p p' : zPt} {cd : Int32} (E : String) (k : Int32) {d mc ms d2 : Nat} (hM : zMp (x + 261) cd p σ) (hk : (E, k) ∈ tb) (hd : d ≤ 9) (h1 : mc ≤ 1) (h2 : ms ≤ 6) (hd2 : d2 ≤ 9) (hL : zLv p')
    (hc : zMet X cm cy d mc ms (.ref x :: vs) σ (fun o s => o = .inr E ∧ zFr σ s (zXr x) ∧ zKp x p' s))
    (hr : ∀ t, zMp (x + 261) cd p t → zMet X mm my d2 0 0 (.ref (x + 261) :: vs) t (zJ (fun r u => True ∧ zFr t u (zMr (x + 261)) ∧ zMp (x + 261) k p' u))) : zSemJ X x cm cy mm my vs tb σ := by
  refine Or.inr ⟨E, k, d, mc, ms, _, hk, hd, h1, h2, hc, fun s hs => ⟨hs.1, fun t F => ⟨d2, hd2, ?_⟩⟩⟩
  have hM2 : zMp (x + 261) cd p t := (hM.fr hs.1 (fun q a b c => by unfold zXr at c; omega)).fr F (fun q a b c => by unfold zOu at c; omega)
  refine (hr t hM2).mono (fun o u h => ?_)
  obtain ⟨r, e, e2, F2, h3⟩ := h
  exact ⟨r, e, e2, F2, p', (hs.2.fr F (fun q a b c => by unfold zOu at c; omega)).fr F2 (fun q a b c => by unfold zMr at c; omega), h3, hL⟩
theorem zMet.puJ {X : zX} {cm : zMd} {cy : MethodName} {d mc ms x : Nat} {vs : List Value} {σ : zS} {v : Int64} {p : zPt} (hK : zKp x p σ) (h : zMet X cm cy d mc ms vs σ (zJ (fun r s => r = v ∧ s = σ))) : zMet X cm cy d mc ms vs σ (zJ (fun r s => r = v ∧ zFr σ s (zXr x) ∧ zKp x p s)) := h.mono (fun o s q => by
  obtain ⟨r, e, e2, rfl⟩ := q
  exact ⟨r, e, e2, zFr.rf, hK⟩)
/-- a contract of the reference -/
theorem zMet.mqJ {X : zX} {mm : zMd} {my : MethodName} {d y : Nat} {vs : List Value} {t : zS} {k : Int32} {p : zPt} {R : Int64 → Prop} {tm dn : Int32} {K : zDk} (h : zMet X mm my d 0 0 vs t (zJ (fun r u => R r ∧ zFr t u (zMq y) ∧ zMo y 0 tm k dn K p.1 p.2.1 p.2.2.1 p.2.2.2.1 p.2.2.2.2.1 p.2.2.2.2.2.1 p.2.2.2.2.2.2.1 p.2.2.2.2.2.2.2.1 p.2.2.2.2.2.2.2.2.1 p.2.2.2.2.2.2.2.2.2.1 p.2.2.2.2.2.2.2.2.2.2.1 p.2.2.2.2.2.2.2.2.2.2.2.1 p.2.2.2.2.2.2.2.2.2.2.2.2 u))) : zMet X mm my d 0 0 vs t (zJ (fun r u => R r ∧ zFr t u (zMr y) ∧ zMp y k p u)) := h.mono (fun o u q => by
  obtain ⟨r, e, e2, F, h3⟩ := q
  exact ⟨r, e, e2, F.w (fun q hq => by unfold zMq at hq; unfold zMr; omega), tm, dn, K, h3⟩)
/-- a call of both: they answer alike, or the one throws what the other names -/
def zSemD (X : zX) (x : Nat) (cm : zMd) (cy : MethodName) (mm : zMd) (my : MethodName) (vs : List Value) (tb : List (String × Int32)) (σ : zS) : Prop :=
  (∃ (v : UInt64) (d mc ms : Nat) (Qs : zS → Prop), d ≤ 9 ∧ mc ≤ 1 ∧ ms ≤ 6 ∧ zMet X cm cy d mc ms (.ref x :: vs) σ (zDb (fun r s => r = v ∧ Qs s)) ∧ ∀ s, Qs s → zFr σ s (zXr x) ∧ ∀ t, zFr s t (zOu x) → ∃ d2, d2 ≤ 9 ∧ zMet X mm my d2 0 0 (.ref (x + 261) :: vs) t (zDb (fun r u => r = v ∧ zFr t u (zMr (x + 261)) ∧ zIv x (x + 261) 0 u))) ∨
  (∃ (E : String) (k : Int32) (d mc ms : Nat) (Qs : zS → Prop), (E, k) ∈ tb ∧ d ≤ 9 ∧ mc ≤ 1 ∧ ms ≤ 6 ∧ zMet X cm cy d mc ms (.ref x :: vs) σ (fun o s => o = .inr E ∧ Qs s) ∧ ∀ s, Qs s → zFr σ s (zXr x) ∧ ∀ t, zFr s t (zOu x) → ∃ d2, d2 ≤ 9 ∧ zMet X mm my d2 0 0 (.ref (x + 261) :: vs) t (zDb (fun r u => True ∧ zFr t u (zMr (x + 261)) ∧ zIv x (x + 261) k u)))
theorem zSemD_ok {X : zX} {x : Nat} {cm mm : zMd} {cy my : MethodName} {vs : List Value} {tb : List (String × Int32)} {σ : zS} {p p' : zPt} {v : UInt64} {cd : Int32} {d mc ms d2 : Nat} (hM : zMp (x + 261) cd p σ) (hd : d ≤ 9) (h1 : mc ≤ 1) (h2 : ms ≤ 6) (hd2 : d2 ≤ 9) (hL : zLv p')
    (hc : zMet X cm cy d mc ms (.ref x :: vs) σ (zDb (fun r s => r = v ∧ zFr σ s (zXr x) ∧ zKp x p' s)))
    (hr : ∀ t, zMp (x + 261) cd p t → zMet X mm my d2 0 0 (.ref (x + 261) :: vs) t (zDb (fun r u => r = v ∧ zFr t u (zMr (x + 261)) ∧ zMp (x + 261) 0 p' u))) : zSemD X x cm cy mm my vs tb σ := by
  refine Or.inl ⟨v, d, mc, ms, _, hd, h1, h2, hc, fun s hs => ⟨hs.1, fun t F => ⟨d2, hd2, ?_⟩⟩⟩
  have hM2 : zMp (x + 261) cd p t := (hM.fr hs.1 (fun q a b c => by unfold zXr at c; omega)).fr F (fun q a b c => by unfold zOu at c; omega)
  refine (hr t hM2).mono (fun o u h => ?_)
  obtain ⟨r, e, e2, F2, h3⟩ := h
  exact ⟨r, e, e2, F2, p', (hs.2.fr F (fun q a b c => by unfold zOu at c; omega)).fr F2 (fun q a b c => by unfold zMr at c; omega), h3, hL⟩
theorem zSemD_no {X : zX} {x : Nat} {cm mm : zMd} {cy my : MethodName} {vs : List Value} {tb : List (String × Int32)} {σ : zS} {p p' : zPt} {cd : Int32} (E : String) (k : Int32) {d mc ms d2 : Nat} (hM : zMp (x + 261) cd p σ) (hk : (E, k) ∈ tb) (hd : d ≤ 9) (h1 : mc ≤ 1) (h2 : ms ≤ 6) (hd2 : d2 ≤ 9) (hL : zLv p')
    (hc : zMet X cm cy d mc ms (.ref x :: vs) σ (fun o s => o = .inr E ∧ zFr σ s (zXr x) ∧ zKp x p' s))
    (hr : ∀ t, zMp (x + 261) cd p t → zMet X mm my d2 0 0 (.ref (x + 261) :: vs) t (zDb (fun r u => True ∧ zFr t u (zMr (x + 261)) ∧ zMp (x + 261) k p' u))) : zSemD X x cm cy mm my vs tb σ := by
  refine Or.inr ⟨E, k, d, mc, ms, _, hk, hd, h1, h2, hc, fun s hs => ⟨hs.1, fun t F => ⟨d2, hd2, ?_⟩⟩⟩
  have hM2 : zMp (x + 261) cd p t := (hM.fr hs.1 (fun q a b c => by unfold zXr at c; omega)).fr F (fun q a b c => by unfold zOu at c; omega)
  refine (hr t hM2).mono (fun o u h => ?_)
  obtain ⟨r, e, e2, F2, h3⟩ := h
  exact ⟨r, e, e2, F2, p', (hs.2.fr F (fun q a b c => by unfold zOu at c; omega)).fr F2 (fun q a b c => by unfold zMr at c; omega), h3, hL⟩
theorem zMet.puD {X : zX} {cm : zMd} {cy : MethodName} {d mc ms x : Nat} {vs : List Value} {σ : zS} {v : UInt64} {p : zPt} (hK : zKp x p σ) (h : zMet X cm cy d mc ms vs σ (zDb (fun r s => r = v ∧ s = σ))) : zMet X cm cy d mc ms vs σ (zDb (fun r s => r = v ∧ zFr σ s (zXr x) ∧ zKp x p s)) := h.mono (fun o s q => by
  obtain ⟨r, e, e2, rfl⟩ := q
  exact ⟨r, e, e2, zFr.rf, hK⟩)
/-- a contract of the reference -/
theorem zMet.mqD {X : zX} {mm : zMd} {my : MethodName} {d y : Nat} {vs : List Value} {t : zS} {k : Int32} {p : zPt} {R : UInt64 → Prop} {tm dn : Int32} {K : zDk} (h : zMet X mm my d 0 0 vs t (zDb (fun r u => R r ∧ zFr t u (zMq y) ∧ zMo y 0 tm k dn K p.1 p.2.1 p.2.2.1 p.2.2.2.1 p.2.2.2.2.1 p.2.2.2.2.2.1 p.2.2.2.2.2.2.1 p.2.2.2.2.2.2.2.1 p.2.2.2.2.2.2.2.2.1 p.2.2.2.2.2.2.2.2.2.1 p.2.2.2.2.2.2.2.2.2.2.1 p.2.2.2.2.2.2.2.2.2.2.2.1 p.2.2.2.2.2.2.2.2.2.2.2.2 u))) : zMet X mm my d 0 0 vs t (zDb (fun r u => R r ∧ zFr t u (zMr y) ∧ zMp y k p u)) := h.mono (fun o u q => by
  obtain ⟨r, e, e2, F, h3⟩ := q
  exact ⟨r, e, e2, F.w (fun q hq => by unfold zMq at hq; unfold zMr; omega), tm, dn, K, h3⟩)
/-- a share is a number -/
def zFv (v : UInt32) : Prop := vf_n64 (FP.f2d v) ∧ Op.cmpValue (FP.dcmp (FP.f2d v) (FP.f2d v)) .l = 0
theorem vn32d : ∀ a, a < 9 → ∀ b, b < 9 → 0 < b → (FP.f2d (FP.fdiv (FP.i2f (nI a)) (FP.i2f (nI b))) &&& 0x7fffffffffffffff ≤ 0x7ff0000000000000) ∧ Op.cmpValue (FP.dcmp (FP.f2d (FP.fdiv (FP.i2f (nI a)) (FP.i2f (nI b)))) (FP.f2d (FP.fdiv (FP.i2f (nI a)) (FP.i2f (nI b))))) .l = 0 := by decide +kernel
/-- a call of both: they answer alike, or the one throws what the other names -/
def zSemF (X : zX) (x : Nat) (cm : zMd) (cy : MethodName) (mm : zMd) (my : MethodName) (vs : List Value) (tb : List (String × Int32)) (σ : zS) : Prop :=
  (∃ (v : UInt32) (d mc ms : Nat) (Qs : zS → Prop), zFv v ∧ d ≤ 9 ∧ mc ≤ 1 ∧ ms ≤ 6 ∧ zMet X cm cy d mc ms (.ref x :: vs) σ (zF (fun r s => r = v ∧ Qs s)) ∧ ∀ s, Qs s → zFr σ s (zXr x) ∧ ∀ t, zFr s t (zOu x) → ∃ d2, d2 ≤ 9 ∧ zMet X mm my d2 0 0 (.ref (x + 261) :: vs) t (zF (fun r u => r = v ∧ zFr t u (zMr (x + 261)) ∧ zIv x (x + 261) 0 u))) ∨
  (∃ (E : String) (k : Int32) (d mc ms : Nat) (Qs : zS → Prop), (E, k) ∈ tb ∧ d ≤ 9 ∧ mc ≤ 1 ∧ ms ≤ 6 ∧ zMet X cm cy d mc ms (.ref x :: vs) σ (fun o s => o = .inr E ∧ Qs s) ∧ ∀ s, Qs s → zFr σ s (zXr x) ∧ ∀ t, zFr s t (zOu x) → ∃ d2, d2 ≤ 9 ∧ zMet X mm my d2 0 0 (.ref (x + 261) :: vs) t (zF (fun r u => True ∧ zFr t u (zMr (x + 261)) ∧ zIv x (x + 261) k u)))
theorem zSemF_ok {X : zX} {x : Nat} {cm mm : zMd} {cy my : MethodName} {vs : List Value} {tb : List (String × Int32)} {σ : zS} {p p' : zPt} {v : UInt32} {cd : Int32} {d mc ms d2 : Nat} (hv : zFv v) (hM : zMp (x + 261) cd p σ) (hd : d ≤ 9) (h1 : mc ≤ 1) (h2 : ms ≤ 6) (hd2 : d2 ≤ 9) (hL : zLv p')
    (hc : zMet X cm cy d mc ms (.ref x :: vs) σ (zF (fun r s => r = v ∧ zFr σ s (zXr x) ∧ zKp x p' s)))
    (hr : ∀ t, zMp (x + 261) cd p t → zMet X mm my d2 0 0 (.ref (x + 261) :: vs) t (zF (fun r u => r = v ∧ zFr t u (zMr (x + 261)) ∧ zMp (x + 261) 0 p' u))) : zSemF X x cm cy mm my vs tb σ := by
  refine Or.inl ⟨v, d, mc, ms, _, hv, hd, h1, h2, hc, fun s hs => ⟨hs.1, fun t F => ⟨d2, hd2, ?_⟩⟩⟩
  have hM2 : zMp (x + 261) cd p t := (hM.fr hs.1 (fun q a b c => by unfold zXr at c; omega)).fr F (fun q a b c => by unfold zOu at c; omega)
  refine (hr t hM2).mono (fun o u h => ?_)
  obtain ⟨r, e, e2, F2, h3⟩ := h
  exact ⟨r, e, e2, F2, p', (hs.2.fr F (fun q a b c => by unfold zOu at c; omega)).fr F2 (fun q a b c => by unfold zMr at c; omega), h3, hL⟩
theorem zSemF_no {X : zX} {x : Nat} {cm mm : zMd} {cy my : MethodName} {vs : List Value} {tb : List (String × Int32)} {σ : zS} {p p' : zPt} {cd : Int32} (E : String) (k : Int32) {d mc ms d2 : Nat} (hM : zMp (x + 261) cd p σ) (hk : (E, k) ∈ tb) (hd : d ≤ 9) (h1 : mc ≤ 1) (h2 : ms ≤ 6) (hd2 : d2 ≤ 9) (hL : zLv p')
    (hc : zMet X cm cy d mc ms (.ref x :: vs) σ (fun o s => o = .inr E ∧ zFr σ s (zXr x) ∧ zKp x p' s))
    (hr : ∀ t, zMp (x + 261) cd p t → zMet X mm my d2 0 0 (.ref (x + 261) :: vs) t (zF (fun r u => True ∧ zFr t u (zMr (x + 261)) ∧ zMp (x + 261) k p' u))) : zSemF X x cm cy mm my vs tb σ := by
  refine Or.inr ⟨E, k, d, mc, ms, _, hk, hd, h1, h2, hc, fun s hs => ⟨hs.1, fun t F => ⟨d2, hd2, ?_⟩⟩⟩
  have hM2 : zMp (x + 261) cd p t := (hM.fr hs.1 (fun q a b c => by unfold zXr at c; omega)).fr F (fun q a b c => by unfold zOu at c; omega)
  refine (hr t hM2).mono (fun o u h => ?_)
  obtain ⟨r, e, e2, F2, h3⟩ := h
  exact ⟨r, e, e2, F2, p', (hs.2.fr F (fun q a b c => by unfold zOu at c; omega)).fr F2 (fun q a b c => by unfold zMr at c; omega), h3, hL⟩
theorem zMet.puF {X : zX} {cm : zMd} {cy : MethodName} {d mc ms x : Nat} {vs : List Value} {σ : zS} {v : UInt32} {p : zPt} (hK : zKp x p σ) (h : zMet X cm cy d mc ms vs σ (zF (fun r s => r = v ∧ s = σ))) : zMet X cm cy d mc ms vs σ (zF (fun r s => r = v ∧ zFr σ s (zXr x) ∧ zKp x p s)) := h.mono (fun o s q => by
  obtain ⟨r, e, e2, rfl⟩ := q
  exact ⟨r, e, e2, zFr.rf, hK⟩)
/-- a contract of the reference -/
theorem zMet.mqF {X : zX} {mm : zMd} {my : MethodName} {d y : Nat} {vs : List Value} {t : zS} {k : Int32} {p : zPt} {R : UInt32 → Prop} {tm dn : Int32} {K : zDk} (h : zMet X mm my d 0 0 vs t (zF (fun r u => R r ∧ zFr t u (zMq y) ∧ zMo y 0 tm k dn K p.1 p.2.1 p.2.2.1 p.2.2.2.1 p.2.2.2.2.1 p.2.2.2.2.2.1 p.2.2.2.2.2.2.1 p.2.2.2.2.2.2.2.1 p.2.2.2.2.2.2.2.2.1 p.2.2.2.2.2.2.2.2.2.1 p.2.2.2.2.2.2.2.2.2.2.1 p.2.2.2.2.2.2.2.2.2.2.2.1 p.2.2.2.2.2.2.2.2.2.2.2.2 u))) : zMet X mm my d 0 0 vs t (zF (fun r u => R r ∧ zFr t u (zMr y) ∧ zMp y k p u)) := h.mono (fun o u q => by
  obtain ⟨r, e, e2, F, h3⟩ := q
  exact ⟨r, e, e2, F.w (fun q hq => by unfold zMq at hq; unfold zMr; omega), tm, dn, K, h3⟩)
set_option maxRecDepth 100000 in
theorem sem_coordinate {X : zX} (hX : X.1.stackTraces = false) {σ : zS} {x : Nat} {A S : zDk} {m : Nat} {U : Nat → zDk} {n : Nat} {T : Nat → Int32} {ll : Nat} {ln : Nat → Int32} {hs kf ld dt dc : Int32} {cd : Int32} (hK : zKp x (A, S, m, U, n, T, ll, ln, hs, kf, ld, dt, dc) σ) (hM : zMp (x + 261) cd (A, S, m, U, n, T, ll, ln, hs, kf, ld, dt, dc) σ) (hL : zLv (A, S, m, U, n, T, ll, ln, hs, kf, ld, dt, dc)) (hN : σ.2 = none) (hQ : ∀ i j : Nat, i < 7 → j < 7 → zQ X i = zQ X j → i = j) (p1 p2 : Int32) : zSemJ X x mX9_coordinate yX9_coordinate mX10_coordinate yX10_coordinate [.int p1, .int p2] [("java/lang/IndexOutOfBoundsException", 1), ("java/lang/IllegalArgumentException", 2)] σ := by
  have gA : zGd A := hL.1
  have gS : zGd S := hL.2.1
  have hm8 : m ≤ 8 := hL.2.2.1
  have gU : ∀ t, t < m → zGd (U t) := hL.2.2.2.1
  have hn60 : n ≤ 60 := hL.2.2.2.2.1
  have hll : ll ≤ 400 := hL.2.2.2.2.2.1
  have hln : ∀ k, k < ll → narrow .char (.int (ln k)) = .int (ln k) := hL.2.2.2.2.2.2.1
  have hkf : kf = -1 ∨ 0 ≤ kf := hL.2.2.2.2.2.2.2.1
  have hdd : ld = 0 → dc = 0 := hL.2.2.2.2.2.2.2.2
  have hK' : zKt x A S m U n T ll ln hs kf ld dt dc σ := hK
  have hA := gA.1
  have hC8 := hA.1
  have hP8 := hA.2.1
  have wU : ∀ t, t < m → zDw (U t) := fun t ht => (gU t ht).1
  have eN : mN 0 m = min (m + 1) 8 := if_pos rfl
  have eU : UN 0 A U = zPu A U := if_pos rfl
  by_cases c1 : ¬ p1 < 0 ∧ p1 < nI (kC A)
  · obtain ⟨i, hi, rfl⟩ := zcas (by omega) c1
    have n16 := (hA.2.2 i (by omega)).1
    by_cases c2 : ¬ p2 < 0 ∧ p2 < 10
    · obtain ⟨j, hj, rfl⟩ := zcas (c := 10) (by omega) c2
      refine zSemJ_ok (p' := (A, S, m, U, n, T, ll, ln, hs, kf, ld, dt, dc)) hM ?_ ?_ ?_ ?_ hL (qX9_coordinate hX hK' hA hi hj) (fun t ht => by obtain ⟨tm, dn, K, hm⟩ := ht; have hm' : zMo (x + 261) 0 tm cd dn K A S m U n T ll ln hs kf ld dt dc t := hm; exact zMet.mqJ (p := (A, S, m, U, n, T, ll, ln, hs, kf, ld, dt, dc)) (qX10_coordinate hX hm' gA hi hj)) <;> decide
    · refine zSemJ_no (p' := (A, S, m, U, n, T, ll, ln, hs, kf, ld, dt, dc)) "java/lang/IllegalArgumentException" 2 hM (by decide) ?_ ?_ ?_ ?_ hL (zMet.px hK (qX9_coordinateN hX hK' hA hi c2 hN)) (fun t ht => by obtain ⟨tm, dn, K, hm⟩ := ht; have hm' : zMo (x + 261) 0 tm cd dn K A S m U n T ll ln hs kf ld dt dc t := hm; exact zMet.mqJ (p := (A, S, m, U, n, T, ll, ln, hs, kf, ld, dt, dc)) (R := fun _ => True) (qX10_coordinateN hX hm' gA hi c2)) <;> decide
  · refine zSemJ_no (p' := (A, S, m, U, n, T, ll, ln, hs, kf, ld, dt, dc)) "java/lang/IndexOutOfBoundsException" 1 hM (by decide) ?_ ?_ ?_ ?_ hL (zMet.px hK (qX9_coordinateX hX hK' hA c1 hN (p2 := p2))) (fun t ht => by obtain ⟨tm, dn, K, hm⟩ := ht; have hm' : zMo (x + 261) 0 tm cd dn K A S m U n T ll ln hs kf ld dt dc t := hm; exact zMet.mqJ (p := (A, S, m, U, n, T, ll, ln, hs, kf, ld, dt, dc)) (R := fun _ => True) (qX10_coordinateX hX hm' gA c1 (p2 := p2))) <;> decide
set_option maxRecDepth 100000 in
theorem sem_meanLength {X : zX} (hX : X.1.stackTraces = false) {σ : zS} {x : Nat} {A S : zDk} {m : Nat} {U : Nat → zDk} {n : Nat} {T : Nat → Int32} {ll : Nat} {ln : Nat → Int32} {hs kf ld dt dc : Int32} {cd : Int32} (hK : zKp x (A, S, m, U, n, T, ll, ln, hs, kf, ld, dt, dc) σ) (hM : zMp (x + 261) cd (A, S, m, U, n, T, ll, ln, hs, kf, ld, dt, dc) σ) (hL : zLv (A, S, m, U, n, T, ll, ln, hs, kf, ld, dt, dc)) (hN : σ.2 = none) (hQ : ∀ i j : Nat, i < 7 → j < 7 → zQ X i = zQ X j → i = j) : zSemD X x mX9_meanLength yX9_meanLength mX10_meanLength yX10_meanLength [] [("java/lang/ArithmeticException", 1)] σ := by
  have gA : zGd A := hL.1
  have gS : zGd S := hL.2.1
  have hm8 : m ≤ 8 := hL.2.2.1
  have gU : ∀ t, t < m → zGd (U t) := hL.2.2.2.1
  have hn60 : n ≤ 60 := hL.2.2.2.2.1
  have hll : ll ≤ 400 := hL.2.2.2.2.2.1
  have hln : ∀ k, k < ll → narrow .char (.int (ln k)) = .int (ln k) := hL.2.2.2.2.2.2.1
  have hkf : kf = -1 ∨ 0 ≤ kf := hL.2.2.2.2.2.2.2.1
  have hdd : ld = 0 → dc = 0 := hL.2.2.2.2.2.2.2.2
  have hK' : zKt x A S m U n T ll ln hs kf ld dt dc σ := hK
  have hA := gA.1
  have hC8 := hA.1
  have hP8 := hA.2.1
  have wU : ∀ t, t < m → zDw (U t) := fun t ht => (gU t ht).1
  have eN : mN 0 m = min (m + 1) 8 := if_pos rfl
  have eU : UN 0 A U = zPu A U := if_pos rfl
  by_cases h0 : kC A = 0
  · refine zSemD_no (p' := (A, S, m, U, n, T, ll, ln, hs, kf, ld, dt, dc)) "java/lang/ArithmeticException" 1 hM (by decide) ?_ ?_ ?_ ?_ hL (zMet.px hK (qX9_meanLengthN hX hK' hA h0 hN)) (fun t ht => by obtain ⟨tm, dn, K, hm⟩ := ht; have hm' : zMo (x + 261) 0 tm cd dn K A S m U n T ll ln hs kf ld dt dc t := hm; exact zMet.mqD (p := (A, S, m, U, n, T, ll, ln, hs, kf, ld, dt, dc)) (R := fun _ => True) (qX10_meanLengthN hX hm' gA h0)) <;> decide
  · refine zSemD_ok (p' := (A, S, m, U, n, T, ll, ln, hs, kf, ld, dt, dc)) hM ?_ ?_ ?_ ?_ hL (zMet.puD hK (qX9_meanLength hX hK' hA (by omega))) (fun t ht => by obtain ⟨tm, dn, K, hm⟩ := ht; have hm' : zMo (x + 261) 0 tm cd dn K A S m U n T ll ln hs kf ld dt dc t := hm; exact zMet.mqD (p := (A, S, m, U, n, T, ll, ln, hs, kf, ld, dt, dc)) (qX10_meanLength hX hm' gA (by omega))) <;> decide
set_option maxRecDepth 100000 in
theorem sem_freedShare {X : zX} (hX : X.1.stackTraces = false) {σ : zS} {x : Nat} {A S : zDk} {m : Nat} {U : Nat → zDk} {n : Nat} {T : Nat → Int32} {ll : Nat} {ln : Nat → Int32} {hs kf ld dt dc : Int32} {cd : Int32} (hK : zKp x (A, S, m, U, n, T, ll, ln, hs, kf, ld, dt, dc) σ) (hM : zMp (x + 261) cd (A, S, m, U, n, T, ll, ln, hs, kf, ld, dt, dc) σ) (hL : zLv (A, S, m, U, n, T, ll, ln, hs, kf, ld, dt, dc)) (hN : σ.2 = none) (hQ : ∀ i j : Nat, i < 7 → j < 7 → zQ X i = zQ X j → i = j) : zSemF X x mX9_freedShare yX9_freedShare mX10_freedShare yX10_freedShare [] [("java/lang/ArithmeticException", 1)] σ := by
  have gA : zGd A := hL.1
  have gS : zGd S := hL.2.1
  have hm8 : m ≤ 8 := hL.2.2.1
  have gU : ∀ t, t < m → zGd (U t) := hL.2.2.2.1
  have hn60 : n ≤ 60 := hL.2.2.2.2.1
  have hll : ll ≤ 400 := hL.2.2.2.2.2.1
  have hln : ∀ k, k < ll → narrow .char (.int (ln k)) = .int (ln k) := hL.2.2.2.2.2.2.1
  have hkf : kf = -1 ∨ 0 ≤ kf := hL.2.2.2.2.2.2.2.1
  have hdd : ld = 0 → dc = 0 := hL.2.2.2.2.2.2.2.2
  have hK' : zKt x A S m U n T ll ln hs kf ld dt dc σ := hK
  have hA := gA.1
  have hC8 := hA.1
  have hP8 := hA.2.1
  have wU : ∀ t, t < m → zDw (U t) := fun t ht => (gU t ht).1
  have eN : mN 0 m = min (m + 1) 8 := if_pos rfl
  have eU : UN 0 A U = zPu A U := if_pos rfl
  by_cases h0 : (zCt (fun i => decide (¬ kR A i = -1)) (kC A)) = 0
  · refine zSemF_no (p' := (A, S, m, U, n, T, ll, ln, hs, kf, ld, dt, dc)) "java/lang/ArithmeticException" 1 hM (by decide) ?_ ?_ ?_ ?_ hL (zMet.px hK (qX9_freedShareN hX hK' hA h0 hN)) (fun t ht => by obtain ⟨tm, dn, K, hm⟩ := ht; have hm' : zMo (x + 261) 0 tm cd dn K A S m U n T ll ln hs kf ld dt dc t := hm; exact zMet.mqF (p := (A, S, m, U, n, T, ll, ln, hs, kf, ld, dt, dc)) (R := fun _ => True) (qX10_freedShareN hX hm' gA h0)) <;> decide
  · have dc8 := zCt_le (fun i => decide (¬ kR A i = -1)) (kC A)
    refine zSemF_ok (hv := vn32d _ (by omega) _ (by omega) (by omega)) (p' := (A, S, m, U, n, T, ll, ln, hs, kf, ld, dt, dc)) hM ?_ ?_ ?_ ?_ hL (zMet.puF hK (qX9_freedShare hX hK' hA (by omega))) (fun t ht => by obtain ⟨tm, dn, K, hm⟩ := ht; have hm' : zMo (x + 261) 0 tm cd dn K A S m U n T ll ln hs kf ld dt dc t := hm; exact zMet.mqF (p := (A, S, m, U, n, T, ll, ln, hs, kf, ld, dt, dc)) (qX10_freedShare hX hm' gA (by omega))) <;> decide
