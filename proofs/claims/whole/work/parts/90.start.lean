/-! the start: what the Statement's premises and the tables say, turned into zS0 -/
abbrev zFL : List Cond := flatC (Jvm.Cond.and given_1 narrow_1)
abbrev zOut (s : State) (A : Nat → Prop) : Prop := ∀ a : Nat, a < s.heap.size → ¬ A a
theorem zO_of {args : Array Value} {s : State} {tm : Term} {E : String} {A : Nat → Prop} (h : (Cond.exactly tm E).before args s = true) (hA : zOut s A) : ∃ a : Nat, tm.eval args s none [] s = some (.ref a) ∧ va_O E a A s s.heap := by
  obtain ⟨a, c, cell, k, q1, q2, q3, q4, q5, q6, -⟩ := Cond.exactly_spec (args := args) (first := s) (o := none) (s := s) (idx := []) (t := tm) (cls := E) h
  exact ⟨a, q1, cell, q3, q5, by rw [q6]; exact q2, hA a (Array.getElem?_eq_some_iff.mp q3).1⟩
/-! texts -/
def zTm (i : Nat) : Term := if i < 7 then .string "BraidCourt$Command" (zCS.getD i 0) else .string "BraidCourtModel" ((zSM.getD (i - 7) (0, "", 0)).1)
def zTv (i : Nat) : Term := .field (zTm i) "java/lang/String" "value" "[B"
def zTc0 (i : Nat) : List Cond := [.exactly (zTm i) "java/lang/String", .eq (.field (zTm i) "java/lang/String" "coder" "B") (.int 0), .arrayOf (zTv i) .byte, .eq (.length (zTv i)) (.int (Int32.ofNat (zTX.getD i []).length))]
def zTc1 (i : Nat) : List Cond := (List.range (zTX.getD i []).length).map (fun j => .eq (.elem (zTv i) (.int (Int32.ofNat j))) (.int ((zTX.getD i []).getD j 0)))
def zTb : List Nat := [795, 814, 824, 832, 843, 853, 803, 741, 748, 756, 765, 774, 781, 786]
theorem zTc0_eq : ∀ i : Nat, i < 14 → zTc0 i = (zFL.drop (zTb.getD i 0)).take 4 := by decide +kernel
theorem zTc1_eq : ∀ i : Nat, i < 14 → zTc1 i = (zFL.drop (zTb.getD i 0 + 4)).take ((zTX.getD i []).length) := by decide +kernel
theorem zTc0_in {i : Nat} (hi : i < 14) : ∀ w ∈ zTc0 i, w ∈ zFL := fun w hw => by
  rw [zTc0_eq i hi] at hw
  exact List.mem_of_mem_drop (List.mem_of_mem_take hw)
theorem zTc1_in {i : Nat} (hi : i < 14) : ∀ w ∈ zTc1 i, w ∈ zFL := fun w hw => by
  rw [zTc1_eq i hi] at hw
  exact List.mem_of_mem_drop (List.mem_of_mem_take hw)
theorem zTX_l31 : ∀ i : Nat, i < 14 → (zTX.getD i []).length < 2 ^ 31 := by decide
theorem zText_of {args : Array Value} {s : State} {A : Nat → Prop} {i : Nat} (hi : i < 14) (hfl : ∀ w ∈ zFL, w.before args s = true) (hA : zOut s A) : ∃ q : Nat × Nat, (zTm i).eval args s none [] s = some (.ref q.1) ∧ zText q.1 q.2 ((zTX.getD i []).length) (fun j => (zTX.getD i []).getD j 0) A s s.heap := by
  have h0 : ∀ w ∈ zTc0 i, w.before args s = true := fun w h => hfl w (zTc0_in hi w h)
  have h1 : ∀ w ∈ zTc1 i, w.before args s = true := fun w h => hfl w (zTc1_in hi w h)
  unfold zTc0 at h0
  obtain ⟨a, q1, hO⟩ := zO_of (h0 _ List.mem_cons_self) hA
  have hco := va_eqt (h0 _ (List.mem_cons_of_mem _ List.mem_cons_self))
  have har := h0 _ (List.mem_cons_of_mem _ (List.mem_cons_of_mem _ List.mem_cons_self))
  have hle := va_eqt (h0 _ (List.mem_cons_of_mem _ (List.mem_cons_of_mem _ (List.mem_cons_of_mem _ List.mem_cons_self))))
  obtain ⟨t, ht, hT⟩ := va_Tof (f := fun j => .int ((zTX.getD i []).getD j 0)) (A := A) (zTX_l31 i hi) har hle (fun j hj => va_eqt (h1 _ (List.mem_map.mpr ⟨j, List.mem_range.mpr hj, rfl⟩))) hA
  exact ⟨(a, t), q1, hO, vk_OFof q1 hco hA, vk_OFof q1 ht hA, hT⟩
/-! the commands -/
def zEs (i : Nat) : Term := .static "BraidCourt$Command" (zEN.getD i "") "LBraidCourt$Command;"
def zEc (i : Nat) : List Cond := [.exactly (zEs i) "BraidCourt$Command", .eq (.field (zEs i) "java/lang/Enum" "ordinal" "I") (.int (nI i)), .eq (.field (zEs i) "BraidCourt$Command" "spelling" "Ljava/lang/String;") (zTm i), .eq (.field (zEs i) "BraidCourt$Command" "takesCase" "Z") (.int (if i = 0 then 0 else 1))]
def zEk : List Nat := [4, 25, 31, 38, 46, 55, 8]
theorem zEc_eq : ∀ i : Nat, i < 7 → zEc i = (zFL.drop (zEk.getD i 0)).take 4 := by decide +kernel
theorem zEc_in {i : Nat} (hi : i < 7) : ∀ w ∈ zEc i, w ∈ zFL := fun w hw => by
  rw [zEc_eq i hi] at hw
  exact List.mem_of_mem_drop (List.mem_of_mem_take hw)
theorem zEd : ∀ i : Nat, i < 7 → ∀ j : Nat, j < 7 → i ≠ j → Cond.not (.eq (zEs i) (zEs j)) ∈ zFL ∨ Cond.not (.eq (zEs j) (zEs i)) ∈ zFL := by decide +kernel
theorem zEl : ∀ i : Nat, i < 7 → Cond.laysStatic "BraidCourt$Command" (zEN.getD i "") "LBraidCourt$Command;" ∈ tables_1 := by decide +kernel
theorem zE_of {args : Array Value} {s : State} {A : Nat → Prop} {i b : Nat} (hi : i < 7) (htb : ∀ w ∈ tables_1, w.before args s = true) (hfl : ∀ w ∈ zFL, w.before args s = true) (hA : zOut s A) (hb : (zTm i).eval args s none [] s = some (.ref b)) : ∃ a : Nat, (zEs i).eval args s none [] s = some (.ref a) ∧ va_Z "BraidCourt$Command" (zEN.getD i "") "LBraidCourt$Command;" (.ref a) A s s.heap ∧ va_O "BraidCourt$Command" a A s s.heap ∧ va_OF "java/lang/Enum" "ordinal" "I" (.int (nI i)) a A s s.heap ∧ va_OF "BraidCourt$Command" "takesCase" "Z" (.int (if i = 0 then 0 else 1)) a A s s.heap ∧ va_OF "BraidCourt$Command" "spelling" "Ljava/lang/String;" (.ref b) a A s s.heap := by
  have h0 : ∀ w ∈ zEc i, w.before args s = true := fun w h => hfl w (zEc_in hi w h)
  unfold zEc at h0
  obtain ⟨a, q1, hO⟩ := zO_of (h0 _ List.mem_cons_self) hA
  have e1 := va_eqt (h0 _ (List.mem_cons_of_mem _ List.mem_cons_self))
  have e2 := va_eqv (h0 _ (List.mem_cons_of_mem _ (List.mem_cons_of_mem _ List.mem_cons_self))) hb
  have e3 := va_eqt (h0 _ (List.mem_cons_of_mem _ (List.mem_cons_of_mem _ (List.mem_cons_of_mem _ List.mem_cons_self))))
  exact ⟨a, q1, va_Zref (htb _ (zEl i hi)) (htb _ (List.mem_of_getElem? (i := 10) (by decide +kernel))) q1 hA, hO, vk_OFof q1 e1 hA, vk_OFof q1 e3 hA, vk_OFof q1 e2 hA⟩
/-! the two arrays -/
def zAa : Term := .static "BraidCourt$Command" "ALL" "[LBraidCourt$Command;"
def zAc : List Cond := [.arrayOf zAa (.object "BraidCourt$Command"), .eq (.length zAa) (.int (Int32.ofNat 7))]
def zAe : List Cond := (List.range 7).map (fun j => .eq (.elem zAa (.int (Int32.ofNat j))) (zEs j))
theorem zAc_eq : zAc = (zFL.drop 67).take 2 := by decide +kernel
theorem zAe_eq : zAe = (zFL.drop 70).take 7 := by decide +kernel
def zMs : Term := .static "BraidCourt$1" "$SwitchMap$BraidCourt$Command" "[I"
def zMc : List Cond := [.arrayOf zMs .int, .eq (.length zMs) (.int (Int32.ofNat 7))]
def zMe : List Cond := (List.range 7).map (fun j => .eq (.elem zMs (.int (Int32.ofNat j))) (.int (zSW.getD j 0)))
theorem zMc_eq : zMc = (zFL.drop 14).take 2 := by decide +kernel
theorem zMe_eq : zMe = (zFL.drop 16).take 7 := by decide +kernel
theorem zsub {w : Cond} {ws : List Cond} {k n : Nat} (h : ws = (zFL.drop k).take n) (hw : w ∈ ws) : w ∈ zFL := by
  rw [h] at hw
  exact List.mem_of_mem_drop (List.mem_of_mem_take hw)
theorem zA_of {args : Array Value} {s : State} {A : Nat → Prop} {ad : Nat → Nat} (htb : ∀ w ∈ tables_1, w.before args s = true) (hfl : ∀ w ∈ zFL, w.before args s = true) (hA : zOut s A) (hb : ∀ i : Nat, i < 7 → (zEs i).eval args s none [] s = some (.ref (ad i))) : ∃ t : Nat, va_Z "BraidCourt$Command" "ALL" "[LBraidCourt$Command;" (.ref t) A s s.heap ∧ va_T (.object "BraidCourt$Command") t 7 (fun j => .ref (ad j)) A s s.heap := by
  obtain ⟨t, ht, hT⟩ := va_Tof (tm := zAa) (N := 7) (f := fun j => .ref (ad j)) (A := A) (by decide) (hfl _ (zsub zAc_eq List.mem_cons_self)) (va_eqt (hfl _ (zsub zAc_eq (List.mem_cons_of_mem _ List.mem_cons_self)))) (fun j hj => va_eqv (hfl _ (zsub zAe_eq (List.mem_map.mpr ⟨j, List.mem_range.mpr hj, rfl⟩))) (hb j hj)) hA
  exact ⟨t, va_Zref (htb _ (List.mem_of_getElem? (i := 1064) (by decide +kernel))) (htb _ (List.mem_of_getElem? (i := 10) (by decide +kernel))) ht hA, hT⟩
theorem zM_of {args : Array Value} {s : State} {A : Nat → Prop} (htb : ∀ w ∈ tables_1, w.before args s = true) (hfl : ∀ w ∈ zFL, w.before args s = true) (hA : zOut s A) : ∃ t : Nat, va_Z "BraidCourt$1" "$SwitchMap$BraidCourt$Command" "[I" (.ref t) A s s.heap ∧ va_T .int t 7 (fun j => .int (zSW.getD j 0)) A s s.heap := by
  obtain ⟨t, ht, hT⟩ := va_Tof (tm := zMs) (N := 7) (f := fun j => .int (zSW.getD j 0)) (A := A) (by decide) (hfl _ (zsub zMc_eq List.mem_cons_self)) (va_eqt (hfl _ (zsub zMc_eq (List.mem_cons_of_mem _ List.mem_cons_self)))) (fun j hj => va_eqt (hfl _ (zsub zMe_eq (List.mem_map.mpr ⟨j, List.mem_range.mpr hj, rfl⟩)))) hA
  exact ⟨t, va_Zref (htb _ (List.mem_of_getElem? (i := 458) (by decide +kernel))) (htb _ (List.mem_of_getElem? (i := 12) (by decide +kernel))) ht hA, hT⟩
/-! classes and array classes -/
def zty : List FieldType := [.int, .char, .boolean, .long, .double, .object "BraidCourt$Docket", .object "BraidCourt$Word", .object "BraidCourt$Command"]
theorem zci : ∀ (c : Nat) (q : vw_C), zcl[c]? = some q → Cond.instantiable q.1 q.2.2 ∈ tables_1 ∧ ∀ w ∈ u_ws q.1 q.2.1 q.2.2, w ∈ zBig := by
  intro c q h
  match c, h with
  | 0, h => cases (show some (RX2, TX2, 1) = some q from h); exact ⟨List.mem_of_getElem? (i := 139) (by decide +kernel), uin0⟩
  | 1, h => cases (show some (RX3, TX3, 7) = some q from h); exact ⟨List.mem_of_getElem? (i := 43) (by decide +kernel), uin1⟩
  | 2, h => cases (show some (RX4, TX4, 3) = some q from h); exact ⟨List.mem_of_getElem? (i := 168) (by decide +kernel), uin2⟩
  | 3, h => cases (show some (RX5, TX5, 4) = some q from h); exact ⟨List.mem_of_getElem? (i := 37) (by decide +kernel), uin3⟩
  | 4, h => cases (show some (RX6, TX6, 6) = some q from h); exact ⟨List.mem_of_getElem? (i := 107) (by decide +kernel), uin4⟩
  | 5, h => cases (show some (RX7, TX7, 7) = some q from h); exact ⟨List.mem_of_getElem? (i := 190) (by decide +kernel), uin5⟩
  | 6, h => cases (show some (RX8, TX8, 2) = some q from h); exact ⟨List.mem_of_getElem? (i := 50) (by decide +kernel), uin6⟩
  | 7, h => cases (show some (RX9, TX9, 15) = some q from h); exact ⟨List.mem_of_getElem? (i := 29) (by decide +kernel), uin7⟩
  | 8, h => cases (show some (RX10, TX10, 28) = some q from h); exact ⟨List.mem_of_getElem? (i := 1245) (by decide +kernel), uin8⟩
  | n + 9, h => simp [zcl] at h
theorem zK_c {args : Array Value} {s : State} (htb : ∀ w ∈ tables_1, w.before args s = true) (hbg : ∀ w ∈ zBig, w.before args s = true) (c : Nat) : ∃ d : ClassId × (Nat → Nat), ∀ q : vw_C, zcl[c]? = some q → u_Kn s q.1 q.2.1 q.2.2 d.1 d.2 := by
  cases hq : zcl[c]? with
  | none => exact ⟨(0, fun _ => 0), fun q h => by cases h⟩
  | some q =>
    obtain ⟨w1, w2⟩ := zci c q hq
    obtain ⟨cC, hC⟩ := classAt_of (htb _ w1)
    have h0 : ∀ k : Nat, ∃ i : Nat, k < q.2.2 → SlotIs s (q.2.1 k).1 (q.2.1 k).2.1 (q.2.1 k).2.2.1 i := by
      intro k
      by_cases hk : k < q.2.2
      · obtain ⟨i, hi⟩ := u_found (u_lays hbg w2 hk)
        exact ⟨i, fun _ => hi⟩
      · exact ⟨0, fun h => absurd h hk⟩
    obtain ⟨f, hf⟩ := Classical.axiomOfChoice h0
    refine ⟨(cC, f), fun q' h => ?_⟩
    cases h
    exact ⟨fun k hk => hf k hk, hC⟩
theorem zK_p {args : Array Value} {s : State} {ty : FieldType} (h : (Cond.arrayClass ty).before args s = true) : ∃ c : ClassId, ArrOfT s c ty ∧ s.vm.findClass ("[" ++ ty.toString) = some c := by
  obtain ⟨c, k, comp, h1, h2, h3⟩ := Cond.arrayClass_spec (args := args) (first := s) (o := none) (s := s) (idx := []) h
  exact ⟨c, fun n z => ⟨fun k h => (by cases h), k, h2, comp, h3⟩, h1⟩
theorem zK_o {args : Array Value} {s : State} {C : String} (h : (Cond.arrayOver (.object C)).before args s = true) : ∃ c : ClassId, ArrOfT s c (.object C) ∧ va_RA s c (.object C) := by
  obtain ⟨comp, c, k, h1, -, h3, h4, h5⟩ := Cond.arrayOver_spec (args := args) (first := s) (o := none) (s := s) (idx := []) h
  exact ⟨c, fun n z => ⟨fun k h => (by cases h), k, h3, comp, h4⟩, k, comp, h3, h4, h1, h5⟩
theorem zK_t {args : Array Value} {s : State} (htb : ∀ w ∈ tables_1, w.before args s = true) (t : Nat) : ∃ c : ClassId, ∀ ty : FieldType, zty[t]? = some ty → ArrOfT s c ty ∧ va_RA s c ty := by
  have key : ∀ (ty0 : FieldType), zty[t]? = some ty0 → (∃ c : ClassId, ArrOfT s c ty0 ∧ va_RA s c ty0) → ∃ c : ClassId, ∀ ty : FieldType, zty[t]? = some ty → ArrOfT s c ty ∧ va_RA s c ty := by
    rintro ty0 h0 ⟨c, hc⟩
    refine ⟨c, fun ty h => ?_⟩
    cases h0.symm.trans h
    exact hc
  match t, key with
  | 0, key => exact key .int rfl (zK_p (htb _ (List.mem_of_getElem? (i := 70) (by decide +kernel))))
  | 1, key => exact key .char rfl (zK_p (htb _ (List.mem_of_getElem? (i := 226) (by decide +kernel))))
  | 2, key => exact key .boolean rfl (zK_p (htb _ (List.mem_of_getElem? (i := 71) (by decide +kernel))))
  | 3, key => exact key .long rfl (zK_p (htb _ (List.mem_of_getElem? (i := 149) (by decide +kernel))))
  | 4, key => exact key .double rfl (zK_p (htb _ (List.mem_of_getElem? (i := 1757) (by decide +kernel))))
  | 5, key => exact key (.object "BraidCourt$Docket") rfl (zK_o (htb _ (List.mem_of_getElem? (i := 174) (by decide +kernel))))
  | 6, key => exact key (.object "BraidCourt$Word") rfl (zK_o (htb _ (List.mem_of_getElem? (i := 49) (by decide +kernel))))
  | 7, key => exact key (.object "BraidCourt$Command") rfl (zK_o (htb _ (List.mem_of_getElem? (i := 196) (by decide +kernel))))
  | n + 8, key => exact ⟨0, fun ty h => by simp [zty] at h⟩
theorem zty_of {X : zX} {k : Nat} {q : ClassId × FieldType} (h : (ztys X)[k]? = some q) : zty[k]? = some q.2 ∧ q.1 = zT X k := by
  match k, h with
  | 0, h => cases h; exact ⟨rfl, rfl⟩
  | 1, h => cases h; exact ⟨rfl, rfl⟩
  | 2, h => cases h; exact ⟨rfl, rfl⟩
  | 3, h => cases h; exact ⟨rfl, rfl⟩
  | 4, h => cases h; exact ⟨rfl, rfl⟩
  | 5, h => cases h; exact ⟨rfl, rfl⟩
  | 6, h => cases h; exact ⟨rfl, rfl⟩
  | 7, h => cases h; exact ⟨rfl, rfl⟩
  | n + 8, h => simp [ztys] at h
theorem zK_ex {args : Array Value} {s : State} (htb : ∀ w ∈ tables_1, w.before args s = true) (hbg : ∀ w ∈ zBig, w.before args s = true) : ∃ (D : va_G) (T : Nat → ClassId), ∀ X : zX, zD X = D → zT X = T → va_K (zD X) zcl (ztys X) s := by
  obtain ⟨d, hd⟩ := Classical.axiomOfChoice (zK_c htb hbg)
  obtain ⟨T, hT⟩ := Classical.axiomOfChoice (zK_t htb)
  refine ⟨(fun c => (d c).1, fun c => (d c).2), T, fun X e1 e2 => ⟨fun c q hq => ?_, fun k q hq => ?_⟩⟩
  · rw [e1]
    exact hd c q hq
  · obtain ⟨h1, h2⟩ := zty_of hq
    rw [h2, e2]
    exact hT k q.2 h1
/-! the words of nests, casts, texts of the refusals -/
theorem zFN_in : ∀ q ∈ zFN, Cond.fieldLinkNest q.1 q.2.1 q.2.2.1 q.2.2.2.1 q.2.2.2.2 "BraidCourt" ∈ tables_1 := by decide +kernel
theorem zMN_in : ∀ q ∈ zMN, Cond.methodLinkNest q.1 q.2.1 q.2.2 "BraidCourt" ∈ tables_1 := by decide +kernel
theorem zCA_in : ∀ q ∈ zCA, Cond.castable q.1 q.2 ∈ tables_1 := by decide +kernel
theorem zNC_eq : zNC.map (fun q => Cond.not (.castable q.1 q.2)) = (zFL.drop 82).take 95 := by decide +kernel
theorem zAO_in : ∀ q ∈ zAO, Cond.arrayOver (.object q) ∈ tables_1 := by decide +kernel
theorem zST_in : ∀ q ∈ zST, Cond.stringRef q.1 q.2.1 q.2.2 ∈ tables_1 := by decide +kernel
theorem zST_ex : ∀ q ∈ zST, Cond.exactly (.string q.1 q.2.1) "java/lang/String" ∈ zFL := by decide +kernel
theorem zNest_of {args : Array Value} {s : State} (htb : ∀ w ∈ tables_1, w.before args s = true) (hfl : ∀ w ∈ zFL, w.before args s = true) : zNest s := by
  refine ⟨fun q hq => va_Nw.of rfl (htb _ (zFN_in q hq)), fun q hq => va_Nw.of rfl (htb _ (zMN_in q hq)), fun q hq => va_Nw.of rfl (htb _ (zCA_in q hq)), fun q hq => va_Nc.of (hfl _ (zsub zNC_eq (List.mem_map.mpr ⟨q, hq, rfl⟩))), fun q hq => va_AO.of (htb _ (zAO_in q hq)), fun q hq => ?_⟩
  obtain ⟨a, ha, -⟩ := zO_of (A := fun _ => False) (hfl _ (zST_ex q hq)) (fun _ _ h => h)
  exact ⟨a, vk_R.of (htb _ (zST_in q hq)) ha⟩
theorem zSM_in : ∀ q ∈ zSM, Cond.stringRef "BraidCourtModel" q.1 q.2.1 ∈ tables_1 ∧ q.2.2 < 7 ∧ zTm (7 + q.2.2) = .string "BraidCourtModel" q.1 := by decide +kernel
