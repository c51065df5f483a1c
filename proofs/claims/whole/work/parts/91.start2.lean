/-- all of it -/
theorem zS0_of {args : Array Value} {s : State} (l : Launch) {b L : Nat} {xs : Nat → Int32} (hts : ∀ w ∈ lw_tbl, w.before args s = true) (hfl : ∀ w ∈ zFL, w.before args s = true) (hX : va_X b L xs s s.heap) (hbl : b < s.heap.size) : ∃ X : zX, X.1 = l ∧ zB X = s.heap.size ∧ zQ X 37 = b ∧ zsL X = L ∧ zS0 X s s.heap := by
  have htb : ∀ w ∈ tables_1, w.before args s = true := fun w h => hts w (List.mem_append_right _ h)
  have hbg : ∀ w ∈ zBig, w.before args s = true := fun w h => hts w (List.mem_filter.mp h).1
  have hA : zOut s (fun q => s.heap.size ≤ q) := fun a h => Nat.not_le.mpr h
  obtain ⟨D, T, hK⟩ := zK_ex htb hbg
  have h1 : ∀ i : Nat, ∃ q : Nat × Nat, i < 14 → (zTm i).eval args s none [] s = some (.ref q.1) ∧ zText q.1 q.2 ((zTX.getD i []).length) (fun j => (zTX.getD i []).getD j 0) (fun q => s.heap.size ≤ q) s s.heap := by
    intro i
    by_cases hi : i < 14
    · obtain ⟨q, hq⟩ := zText_of hi hfl hA
      exact ⟨q, fun _ => hq⟩
    · exact ⟨(0, 0), fun h => absurd h hi⟩
  obtain ⟨tx, htx⟩ := Classical.axiomOfChoice h1
  have h2 : ∀ i : Nat, ∃ a : Nat, i < 7 → (zEs i).eval args s none [] s = some (.ref a) ∧ va_Z "BraidCourt$Command" (zEN.getD i "") "LBraidCourt$Command;" (.ref a) (fun q => s.heap.size ≤ q) s s.heap ∧ va_O "BraidCourt$Command" a (fun q => s.heap.size ≤ q) s s.heap ∧ va_OF "java/lang/Enum" "ordinal" "I" (.int (nI i)) a (fun q => s.heap.size ≤ q) s s.heap ∧ va_OF "BraidCourt$Command" "takesCase" "Z" (.int (if i = 0 then 0 else 1)) a (fun q => s.heap.size ≤ q) s s.heap ∧ va_OF "BraidCourt$Command" "spelling" "Ljava/lang/String;" (.ref (tx i).1) a (fun q => s.heap.size ≤ q) s s.heap := by
    intro i
    by_cases hi : i < 7
    · obtain ⟨a, ha⟩ := zE_of hi htb hfl hA (htx i (by omega)).1
      exact ⟨a, fun _ => ha⟩
    · exact ⟨0, fun h => absurd h hi⟩
  obtain ⟨en, hen⟩ := Classical.axiomOfChoice h2
  obtain ⟨tA, hA1, hA2⟩ := zA_of htb hfl hA (fun i hi => (hen i hi).1)
  obtain ⟨tM, hM1, hM2⟩ := zM_of htb hfl hA
  generalize hq : (fun q : Nat => if q < 7 then en q else if q < 21 then (tx (q - 7)).1 else if q < 35 then (tx (q - 21)).2 else if q = 35 then tA else if q = 36 then tM else b) = zq
  have q0 : ∀ i : Nat, i < 7 → zq i = en i := fun i hi => by rw [← hq]; exact if_pos hi
  have q1 : ∀ i : Nat, i < 14 → zq (7 + i) = (tx i).1 := fun i hi => by
    rw [← hq]
    show (if 7 + i < 7 then _ else _) = _
    rw [if_neg (by omega), if_pos (by omega), show 7 + i - 7 = i by omega]
  have q2 : ∀ i : Nat, i < 14 → zq (21 + i) = (tx i).2 := fun i hi => by
    rw [← hq]
    show (if 21 + i < 7 then _ else _) = _
    rw [if_neg (by omega), if_neg (by omega), if_pos (by omega), show 21 + i - 21 = i by omega]
  have q35 : zq 35 = tA := by rw [← hq]; rfl
  have q36 : zq 36 = tM := by rw [← hq]; rfl
  have q37 : zq 37 = b := by rw [← hq]; rfl
  clear hq
  refine ⟨(l, s.heap.size, D, T, zq, (L, xs)), rfl, rfl, q37, rfl, hK _ rfl rfl, zNest_of htb hfl, fun q h => ?_, ⟨fun i hi => ?_, fun i j hi hj e => ?_⟩, fun i hi => ?_, ⟨?_, ?_, ?_, ?_, ?_, ?_, ?_, ?_, ?_, ?_, ?_⟩, Nat.le_refl _⟩
  · obtain ⟨w1, w2, w3⟩ := zSM_in q h
    have e := (htx (7 + q.2.2) (by omega)).1
    rw [w3] at e
    have e2 : zq (14 + q.2.2) = (tx (7 + q.2.2)).1 := by rw [← q1 (7 + q.2.2) (by omega)]; congr 1; omega
    show vk_R "BraidCourtModel" q.1 q.2.1 (zq (14 + q.2.2)) s
    rw [e2]
    exact vk_R.of (htb _ w1) e
  · obtain ⟨-, g1, g2, g3, g4, g5⟩ := hen i hi
    show va_Z _ _ _ (.ref (zq i)) _ _ _ ∧ va_O _ (zq i) _ _ _ ∧ va_OF _ _ _ _ (zq i) _ _ _ ∧ va_OF _ _ _ _ (zq i) _ _ _ ∧ va_OF _ _ _ (.ref (zq (7 + i))) (zq i) _ _ _
    rw [q0 i hi, q1 i (by omega)]
    exact ⟨g1, g2, g3, g4, g5⟩
  · have e : en i = en j := by rw [← q0 i hi, ← q0 j hj]; exact e
    by_cases hij : i = j
    · exact hij
    · rcases zEd i hi j hj hij with w | w
      · exact absurd e (va_neR (hfl _ w) (hen i hi).1 (hen j hj).1)
      · exact absurd e.symm (va_neR (hfl _ w) (hen j hj).1 (hen i hi).1)
  · show zText (zq (7 + i)) (zq (21 + i)) _ _ _ _ _
    rw [q1 i hi, q2 i hi]
    exact (htx i hi).2
  · show va_Z _ _ _ (.ref (zq 35)) _ _ _
    rw [q35]
    exact hA1
  · show va_T _ (zq 35) 7 (fun j => .ref (zq j)) _ _ _
    rw [q35]
    obtain ⟨cell, g1, g2, g3, g4, g5, g6, g7⟩ := hA2
    exact ⟨cell, g1, g2, g3, g4, g5, fun j hj => (g6 j hj).trans (congrArg (fun q => some (Value.ref q)) (q0 j hj).symm), g7⟩
  · show va_Z _ _ _ (.ref (zq 36)) _ _ _
    rw [q36]
    exact hM1
  · show va_T _ (zq 36) 7 _ _ _ _
    rw [q36]
    exact hM2
  · exact va_Zof (htb _ (List.mem_of_getElem? (i := 1078) (by decide +kernel))) (htb _ (List.mem_of_getElem? (i := 19) (by decide +kernel))) (va_eqi (hfl _ (List.mem_of_getElem? (i := 77) (by decide +kernel)))) hA
  · exact va_Zqof (htb _ (List.mem_of_getElem? (i := 1094) (by decide +kernel))) (htb _ (List.mem_of_getElem? (i := 26) (by decide +kernel))) (hfl _ (List.mem_of_getElem? (i := 78) (by decide +kernel))) hA
  · exact vx_Zqof (htb _ (List.mem_of_getElem? (i := 508) (by decide +kernel))) (htb _ (List.mem_of_getElem? (i := 13) (by decide +kernel))) (hfl _ (List.mem_of_getElem? (i := 23) (by decide +kernel))) hA
  · exact vx_Zqof (htb _ (List.mem_of_getElem? (i := 510) (by decide +kernel))) (htb _ (List.mem_of_getElem? (i := 13) (by decide +kernel))) (hfl _ (List.mem_of_getElem? (i := 24) (by decide +kernel))) hA
  · show va_X (zq 37) L xs s s.heap
    rw [q37]
    exact hX
  · show ¬ s.heap.size ≤ zq 37
    rw [q37]
    exact Nat.not_le.mpr hbl
  · show zq 37 < s.heap.size
    rw [q37]
    exact hbl
