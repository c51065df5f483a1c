/-! the court and the reference side by side -/
abbrev zPt : Type := zDk × zDk × Nat × (Nat → zDk) × Nat × (Nat → Int32) × Nat × (Nat → Int32) × Int32 × Int32 × Int32 × Int32 × Int32
def zKp (x : Nat) (p : zPt) (σ : zS) : Prop := zKt x p.1 p.2.1 p.2.2.1 p.2.2.2.1 p.2.2.2.2.1 p.2.2.2.2.2.1 p.2.2.2.2.2.2.1 p.2.2.2.2.2.2.2.1 p.2.2.2.2.2.2.2.2.1 p.2.2.2.2.2.2.2.2.2.1 p.2.2.2.2.2.2.2.2.2.2.1 p.2.2.2.2.2.2.2.2.2.2.2.1 p.2.2.2.2.2.2.2.2.2.2.2.2 σ
def zMp (y : Nat) (cd : Int32) (p : zPt) (σ : zS) : Prop := ∃ (tm dn : Int32) (K : zDk), zMo y 0 tm cd dn K p.1 p.2.1 p.2.2.1 p.2.2.2.1 p.2.2.2.2.1 p.2.2.2.2.2.1 p.2.2.2.2.2.2.1 p.2.2.2.2.2.2.2.1 p.2.2.2.2.2.2.2.2.1 p.2.2.2.2.2.2.2.2.2.1 p.2.2.2.2.2.2.2.2.2.2.1 p.2.2.2.2.2.2.2.2.2.2.2.1 p.2.2.2.2.2.2.2.2.2.2.2.2 σ
/-- what holds of them between the calls -/
def zLv (p : zPt) : Prop := zGd p.1 ∧ zGd p.2.1 ∧ p.2.2.1 ≤ 8 ∧ (∀ t, t < p.2.2.1 → zGd (p.2.2.2.1 t)) ∧ p.2.2.2.2.1 ≤ 60 ∧ p.2.2.2.2.2.2.1 ≤ 400 ∧ (∀ k, k < p.2.2.2.2.2.2.1 → narrow .char (.int (p.2.2.2.2.2.2.2.1 k)) = .int (p.2.2.2.2.2.2.2.1 k)) ∧ (p.2.2.2.2.2.2.2.2.2.1 = -1 ∨ 0 ≤ p.2.2.2.2.2.2.2.2.2.1) ∧ (p.2.2.2.2.2.2.2.2.2.2.1 = 0 → p.2.2.2.2.2.2.2.2.2.2.2.2 = 0)
def zIv (x y : Nat) (cd : Int32) (σ : zS) : Prop := ∃ p, zKp x p σ ∧ zMp y cd p σ ∧ zLv p
theorem zKp.fr {x : Nat} {p : zPt} {σ s : zS} {Q : Nat → Prop} (h : zKp x p σ) (F : zFr σ s Q) (hq : ∀ q, x ≤ q → q < x + 261 → ¬ Q q) : zKp x p s := zKt.fr h F hq
theorem zMp.fr {y : Nat} {cd : Int32} {p : zPt} {σ s : zS} {Q : Nat → Prop} (h : zMp y cd p σ) (F : zFr σ s Q) (hq : ∀ q, y ≤ q → q < y + 12 → ¬ Q q) : zMp y cd p s := by
  obtain ⟨tm, dn, K, h⟩ := h
  exact ⟨tm, dn, K, h.fr F hq⟩
/-- beyond the two -/
def zOu (x q : Nat) : Prop := ¬ (x ≤ q ∧ q < x + 273)
/-- a call of both: they answer alike, or the one throws what the other names -/
def zSem (X : zX) (x : Nat) (cm : zMd) (cy : MethodName) (mm : zMd) (my : MethodName) (vs : List Value) (tb : List (String × Int32)) (σ : zS) : Prop :=
  (∃ (v : Int32) (d mc ms : Nat) (Qs : zS → Prop), d ≤ 9 ∧ mc ≤ 1 ∧ ms ≤ 6 ∧ zMet X cm cy d mc ms (.ref x :: vs) σ (zI (fun r s => r = v ∧ Qs s)) ∧ ∀ s, Qs s → zFr σ s (zXr x) ∧ ∀ t, zFr s t (zOu x) → ∃ d2, d2 ≤ 9 ∧ zMet X mm my d2 0 0 (.ref (x + 261) :: vs) t (zI (fun r u => r = v ∧ zFr t u (zMr (x + 261)) ∧ zIv x (x + 261) 0 u))) ∨
  (∃ (E : String) (k : Int32) (d mc ms : Nat) (Qs : zS → Prop), (E, k) ∈ tb ∧ d ≤ 9 ∧ mc ≤ 1 ∧ ms ≤ 6 ∧ zMet X cm cy d mc ms (.ref x :: vs) σ (fun o s => o = .inr E ∧ Qs s) ∧ ∀ s, Qs s → zFr σ s (zXr x) ∧ ∀ t, zFr s t (zOu x) → ∃ d2, d2 ≤ 9 ∧ zMet X mm my d2 0 0 (.ref (x + 261) :: vs) t (zI (fun r u => True ∧ zFr t u (zMr (x + 261)) ∧ zIv x (x + 261) k u)))
theorem zSem_ok {X : zX} {x : Nat} {cm mm : zMd} {cy my : MethodName} {vs : List Value} {tb : List (String × Int32)} {σ : zS} {p p' : zPt} {v cd : Int32} {d mc ms d2 : Nat} (hM : zMp (x + 261) cd p σ) (hd : d ≤ 9) (h1 : mc ≤ 1) (h2 : ms ≤ 6) (hd2 : d2 ≤ 9) (hL : zLv p')
    (hc : zMet X cm cy d mc ms (.ref x :: vs) σ (zI (fun r s => r = v ∧ zFr σ s (zXr x) ∧ zKp x p' s)))
    (hr : ∀ t, zMp (x + 261) cd p t → zMet X mm my d2 0 0 (.ref (x + 261) :: vs) t (zI (fun r u => r = v ∧ zFr t u (zMr (x + 261)) ∧ zMp (x + 261) 0 p' u))) : zSem X x cm cy mm my vs tb σ := by
  refine Or.inl ⟨v, d, mc, ms, _, hd, h1, h2, hc, fun s hs => ⟨hs.1, fun t F => ⟨d2, hd2, ?_⟩⟩⟩
  have hM2 : zMp (x + 261) cd p t := (hM.fr hs.1 (fun q a b c => by unfold zXr at c; omega)).fr F (fun q a b c => by unfold zOu at c; omega)
  refine (hr t hM2).mono (fun o u h => ?_)
  obtain ⟨r, e, e2, F2, h3⟩ := h
  exact ⟨r, e, e2, F2, p', (hs.2.fr F (fun q a b c => by unfold zOu at c; omega)).fr F2 (fun q a b c => by unfold zMr at c; omega), h3, hL⟩
theorem zSem_no {X : zX} {x : Nat} {cm mm : zMd} {cy my : MethodName} {vs : List Value} {tb : List (String × Int32)} {σ : zS} {p p' : zPt} {cd : Int32} (E : String) (k : Int32) {d mc ms d2 : Nat} (hM : zMp (x + 261) cd p σ) (hk : (E, k) ∈ tb) (hd : d ≤ 9) (h1 : mc ≤ 1) (h2 : ms ≤ 6) (hd2 : d2 ≤ 9) (hL : zLv p')
    (hc : zMet X cm cy d mc ms (.ref x :: vs) σ (fun o s => o = .inr E ∧ zFr σ s (zXr x) ∧ zKp x p' s))
    (hr : ∀ t, zMp (x + 261) cd p t → zMet X mm my d2 0 0 (.ref (x + 261) :: vs) t (zI (fun r u => True ∧ zFr t u (zMr (x + 261)) ∧ zMp (x + 261) k p' u))) : zSem X x cm cy mm my vs tb σ := by
  refine Or.inr ⟨E, k, d, mc, ms, _, hk, hd, h1, h2, hc, fun s hs => ⟨hs.1, fun t F => ⟨d2, hd2, ?_⟩⟩⟩
  have hM2 : zMp (x + 261) cd p t := (hM.fr hs.1 (fun q a b c => by unfold zXr at c; omega)).fr F (fun q a b c => by unfold zOu at c; omega)
  refine (hr t hM2).mono (fun o u h => ?_)
  obtain ⟨r, e, e2, F2, h3⟩ := h
  exact ⟨r, e, e2, F2, p', (hs.2.fr F (fun q a b c => by unfold zOu at c; omega)).fr F2 (fun q a b c => by unfold zMr at c; omega), h3, hL⟩
/-- a contract of the class that changes nothing -/
theorem zMet.pu {X : zX} {cm : zMd} {cy : MethodName} {d mc ms x : Nat} {vs : List Value} {σ : zS} {v : Int32} {p : zPt} (hK : zKp x p σ) (h : zMet X cm cy d mc ms vs σ (zI (fun r s => r = v ∧ s = σ))) : zMet X cm cy d mc ms vs σ (zI (fun r s => r = v ∧ zFr σ s (zXr x) ∧ zKp x p s)) := h.mono (fun o s q => by
  obtain ⟨r, e, e2, rfl⟩ := q
  exact ⟨r, e, e2, zFr.rf, hK⟩)
theorem zMet.px {X : zX} {cm : zMd} {cy : MethodName} {d mc ms x : Nat} {vs : List Value} {σ : zS} {E : String} {p : zPt} (hK : zKp x p σ) (h : zMet X cm cy d mc ms vs σ (fun o s => o = .inr E ∧ s = σ)) : zMet X cm cy d mc ms vs σ (fun o s => o = .inr E ∧ zFr σ s (zXr x) ∧ zKp x p s) := h.mono (fun o s q => by
  obtain ⟨e, rfl⟩ := q
  exact ⟨e, zFr.rf, hK⟩)
/-- a contract of the reference -/
theorem zMet.mq {X : zX} {mm : zMd} {my : MethodName} {d y : Nat} {vs : List Value} {t : zS} {k : Int32} {p : zPt} {R : Int32 → Prop} {tm dn : Int32} {K : zDk} (h : zMet X mm my d 0 0 vs t (zI (fun r u => R r ∧ zFr t u (zMq y) ∧ zMo y 0 tm k dn K p.1 p.2.1 p.2.2.1 p.2.2.2.1 p.2.2.2.2.1 p.2.2.2.2.2.1 p.2.2.2.2.2.2.1 p.2.2.2.2.2.2.2.1 p.2.2.2.2.2.2.2.2.1 p.2.2.2.2.2.2.2.2.2.1 p.2.2.2.2.2.2.2.2.2.2.1 p.2.2.2.2.2.2.2.2.2.2.2.1 p.2.2.2.2.2.2.2.2.2.2.2.2 u))) : zMet X mm my d 0 0 vs t (zI (fun r u => R r ∧ zFr t u (zMr y) ∧ zMp y k p u)) := h.mono (fun o u q => by
  obtain ⟨r, e, e2, F, h3⟩ := q
  exact ⟨r, e, e2, F.w (fun q hq => by unfold zMq at hq; unfold zMr; omega), tm, dn, K, h3⟩)
