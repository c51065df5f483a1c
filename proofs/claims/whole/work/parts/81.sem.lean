/-! each call of both: alike -/
theorem zcas {p : Int32} {c : Nat} (hc : c < 2 ^ 31) (h : ¬ p < 0 ∧ p < nI c) : ∃ i, i < c ∧ p = nI i := by
  obtain ⟨h1, h2⟩ := h
  have a : 0 ≤ p.toInt := by
    have q : ¬ p.toInt < (0 : Int32).toInt := fun z => h1 (Int32.lt_iff_toInt_lt.mpr z)
    have e : (0 : Int32).toInt = 0 := by decide
    omega
  have e2 : p = nI p.toInt.toNat := by
    apply Int32.toInt_inj.mp
    have b := Int32.toInt_lt p
    show p.toInt = (Int32.ofNat p.toInt.toNat).toInt
    rw [Int32.toInt_ofNat_of_lt (by omega)]
    omega
  refine ⟨p.toInt.toNat, ?_, e2⟩
  rw [e2] at h2
  have b := Int32.toInt_lt p
  exact (nI_ltI (by omega) hc).mp h2
theorem zgPu {A : zDk} {U : Nat → zDk} {m : Nat} (gA : zGd A) (gU : ∀ t, t < m → zGd (U t)) : ∀ t, t < min (m + 1) 8 → zGd (zPu A U t)
  | 0, _ => gA
  | t + 1, h => gU t (by omega)
theorem zln_nar (A : zDk) (i k : Nat) : narrow .char (.int (zln A i k)) = .int (zln A i k) := by
  unfold zln
  split
  · exact zchr_nar _
  · split
    · rfl
    · unfold zmark; (repeat' split) <;> rfl
set_option maxRecDepth 100000 in
theorem sem_wordLength {X : zX} (hX : X.1.stackTraces = false) {σ : zS} {x : Nat} {A S : zDk} {m : Nat} {U : Nat → zDk} {n : Nat} {T : Nat → Int32} {ll : Nat} {ln : Nat → Int32} {hs kf ld dt dc : Int32} {cd : Int32} (hK : zKp x (A, S, m, U, n, T, ll, ln, hs, kf, ld, dt, dc) σ) (hM : zMp (x + 261) cd (A, S, m, U, n, T, ll, ln, hs, kf, ld, dt, dc) σ) (hL : zLv (A, S, m, U, n, T, ll, ln, hs, kf, ld, dt, dc)) (hN : σ.2 = none) (hQ : ∀ i j : Nat, i < 7 → j < 7 → zQ X i = zQ X j → i = j) (p1 : Int32) : zSem X x mX9_wordLength yX9_wordLength mX10_wordLength yX10_wordLength [.int p1] [("java/lang/IndexOutOfBoundsException", 1)] σ := by
  have gA : zGd A := hL.1
  have gS : zGd S := hL.2.1
  have hm8 : m ≤ 8 := hL.2.2.1
  have gU : ∀ t, t < m → zGd (U t) := hL.2.2.2.1
  have hn60 : n ≤ 60 := hL.2.2.2.2.1
  have hll : ll ≤ 400 := hL.2.2.2.2.2.1
  have hln : ∀ k, k < ll → narrow .char (.int (ln k)) = .int (ln k) := hL.2.2.2.2.2.2.1
  have hkf : kf = -1 ∨ 0 ≤ kf := hL.2.2.2.2.2.2.2.1
  have hdd : ld = 0 → dc = 0 := hL.2.2.2.2.2.2.2.2
  have hK' : zKt x A S m U n T ll ln hs kf ld dt dc σ := hK
  have hA := gA.1
  have hC8 := hA.1
  have hP8 := hA.2.1
  have wU : ∀ t, t < m → zDw (U t) := fun t ht => (gU t ht).1
  have eN : mN 0 m = min (m + 1) 8 := if_pos rfl
  have eU : UN 0 A U = zPu A U := if_pos rfl
  by_cases c1 : ¬ p1 < 0 ∧ p1 < nI (kC A)
  · obtain ⟨i, hi, rfl⟩ := zcas (by omega) c1
    refine zSem_ok (p' := (A, S, m, U, n, T, ll, ln, hs, kf, ld, dt, dc)) hM ?_ ?_ ?_ ?_ hL (zMet.pu hK (qX9_wordLength hX hK' hA hi)) (fun t ht => by obtain ⟨tm, dn, K, hm⟩ := ht; have hm' : zMo (x + 261) 0 tm cd dn K A S m U n T ll ln hs kf ld dt dc t := hm; exact zMet.mq (p := (A, S, m, U, n, T, ll, ln, hs, kf, ld, dt, dc)) (qX10_wordLength hX hm' gA hi)) <;> decide
  · refine zSem_no (p' := (A, S, m, U, n, T, ll, ln, hs, kf, ld, dt, dc)) "java/lang/IndexOutOfBoundsException" 1 hM (by decide) ?_ ?_ ?_ ?_ hL (zMet.px hK (qX9_wordLengthX hX hK' hA c1 hN)) (fun t ht => by obtain ⟨tm, dn, K, hm⟩ := ht; have hm' : zMo (x + 261) 0 tm cd dn K A S m U n T ll ln hs kf ld dt dc t := hm; exact zMet.mq (p := (A, S, m, U, n, T, ll, ln, hs, kf, ld, dt, dc)) (R := fun _ => True) (qX10_wordLengthX hX hm' gA c1)) <;> decide
set_option maxRecDepth 100000 in
theorem sem_writhe {X : zX} (hX : X.1.stackTraces = false) {σ : zS} {x : Nat} {A S : zDk} {m : Nat} {U : Nat → zDk} {n : Nat} {T : Nat → Int32} {ll : Nat} {ln : Nat → Int32} {hs kf ld dt dc : Int32} {cd : Int32} (hK : zKp x (A, S, m, U, n, T, ll, ln, hs, kf, ld, dt, dc) σ) (hM : zMp (x + 261) cd (A, S, m, U, n, T, ll, ln, hs, kf, ld, dt, dc) σ) (hL : zLv (A, S, m, U, n, T, ll, ln, hs, kf, ld, dt, dc)) (hN : σ.2 = none) (hQ : ∀ i j : Nat, i < 7 → j < 7 → zQ X i = zQ X j → i = j) (p1 : Int32) : zSem X x mX9_writhe yX9_writhe mX10_writhe yX10_writhe [.int p1] [("java/lang/IndexOutOfBoundsException", 1)] σ := by
  have gA : zGd A := hL.1
  have gS : zGd S := hL.2.1
  have hm8 : m ≤ 8 := hL.2.2.1
  have gU : ∀ t, t < m → zGd (U t) := hL.2.2.2.1
  have hn60 : n ≤ 60 := hL.2.2.2.2.1
  have hll : ll ≤ 400 := hL.2.2.2.2.2.1
  have hln : ∀ k, k < ll → narrow .char (.int (ln k)) = .int (ln k) := hL.2.2.2.2.2.2.1
  have hkf : kf = -1 ∨ 0 ≤ kf := hL.2.2.2.2.2.2.2.1
  have hdd : ld = 0 → dc = 0 := hL.2.2.2.2.2.2.2.2
  have hK' : zKt x A S m U n T ll ln hs kf ld dt dc σ := hK
  have hA := gA.1
  have hC8 := hA.1
  have hP8 := hA.2.1
  have wU : ∀ t, t < m → zDw (U t) := fun t ht => (gU t ht).1
  have eN : mN 0 m = min (m + 1) 8 := if_pos rfl
  have eU : UN 0 A U = zPu A U := if_pos rfl
  by_cases c1 : ¬ p1 < 0 ∧ p1 < nI (kC A)
  · obtain ⟨i, hi, rfl⟩ := zcas (by omega) c1
    refine zSem_ok (p' := (A, S, m, U, n, T, ll, ln, hs, kf, ld, dt, dc)) hM ?_ ?_ ?_ ?_ hL (zMet.pu hK (qX9_writhe hX hK' hA hi)) (fun t ht => by obtain ⟨tm, dn, K, hm⟩ := ht; have hm' : zMo (x + 261) 0 tm cd dn K A S m U n T ll ln hs kf ld dt dc t := hm; exact zMet.mq (p := (A, S, m, U, n, T, ll, ln, hs, kf, ld, dt, dc)) (qX10_writhe hX hm' gA hi)) <;> decide
  · refine zSem_no (p' := (A, S, m, U, n, T, ll, ln, hs, kf, ld, dt, dc)) "java/lang/IndexOutOfBoundsException" 1 hM (by decide) ?_ ?_ ?_ ?_ hL (zMet.px hK (qX9_writheX hX hK' hA c1 hN)) (fun t ht => by obtain ⟨tm, dn, K, hm⟩ := ht; have hm' : zMo (x + 261) 0 tm cd dn K A S m U n T ll ln hs kf ld dt dc t := hm; exact zMet.mq (p := (A, S, m, U, n, T, ll, ln, hs, kf, ld, dt, dc)) (R := fun _ => True) (qX10_writheX hX hm' gA c1)) <;> decide
set_option maxRecDepth 100000 in
theorem sem_closedThreads {X : zX} (hX : X.1.stackTraces = false) {σ : zS} {x : Nat} {A S : zDk} {m : Nat} {U : Nat → zDk} {n : Nat} {T : Nat → Int32} {ll : Nat} {ln : Nat → Int32} {hs kf ld dt dc : Int32} {cd : Int32} (hK : zKp x (A, S, m, U, n, T, ll, ln, hs, kf, ld, dt, dc) σ) (hM : zMp (x + 261) cd (A, S, m, U, n, T, ll, ln, hs, kf, ld, dt, dc) σ) (hL : zLv (A, S, m, U, n, T, ll, ln, hs, kf, ld, dt, dc)) (hN : σ.2 = none) (hQ : ∀ i j : Nat, i < 7 → j < 7 → zQ X i = zQ X j → i = j) (p1 : Int32) : zSem X x mX9_closedThreads yX9_closedThreads mX10_closedThreads yX10_closedThreads [.int p1] [("java/lang/IndexOutOfBoundsException", 1)] σ := by
  have gA : zGd A := hL.1
  have gS : zGd S := hL.2.1
  have hm8 : m ≤ 8 := hL.2.2.1
  have gU : ∀ t, t < m → zGd (U t) := hL.2.2.2.1
  have hn60 : n ≤ 60 := hL.2.2.2.2.1
  have hll : ll ≤ 400 := hL.2.2.2.2.2.1
  have hln : ∀ k, k < ll → narrow .char (.int (ln k)) = .int (ln k) := hL.2.2.2.2.2.2.1
  have hkf : kf = -1 ∨ 0 ≤ kf := hL.2.2.2.2.2.2.2.1
  have hdd : ld = 0 → dc = 0 := hL.2.2.2.2.2.2.2.2
  have hK' : zKt x A S m U n T ll ln hs kf ld dt dc σ := hK
  have hA := gA.1
  have hC8 := hA.1
  have hP8 := hA.2.1
  have wU : ∀ t, t < m → zDw (U t) := fun t ht => (gU t ht).1
  have eN : mN 0 m = min (m + 1) 8 := if_pos rfl
  have eU : UN 0 A U = zPu A U := if_pos rfl
  by_cases c1 : ¬ p1 < 0 ∧ p1 < nI (kC A)
  · obtain ⟨i, hi, rfl⟩ := zcas (by omega) c1
    refine zSem_ok (p' := (A, S, m, U, n, T, ll, ln, hs, kf, ld, dt, dc)) hM ?_ ?_ ?_ ?_ hL (zMet.pu hK (qX9_closedThreads hX hK' hA hi)) (fun t ht => by obtain ⟨tm, dn, K, hm⟩ := ht; have hm' : zMo (x + 261) 0 tm cd dn K A S m U n T ll ln hs kf ld dt dc t := hm; exact zMet.mq (p := (A, S, m, U, n, T, ll, ln, hs, kf, ld, dt, dc)) (qX10_closedThreads hX hm' gA hi)) <;> decide
  · refine zSem_no (p' := (A, S, m, U, n, T, ll, ln, hs, kf, ld, dt, dc)) "java/lang/IndexOutOfBoundsException" 1 hM (by decide) ?_ ?_ ?_ ?_ hL (zMet.px hK (qX9_closedThreadsX hX hK' hA c1 hN)) (fun t ht => by obtain ⟨tm, dn, K, hm⟩ := ht; have hm' : zMo (x + 261) 0 tm cd dn K A S m U n T ll ln hs kf ld dt dc t := hm; exact zMet.mq (p := (A, S, m, U, n, T, ll, ln, hs, kf, ld, dt, dc)) (R := fun _ => True) (qX10_closedThreadsX hX hm' gA c1)) <;> decide
set_option maxRecDepth 100000 in
theorem sem_isDecided {X : zX} (hX : X.1.stackTraces = false) {σ : zS} {x : Nat} {A S : zDk} {m : Nat} {U : Nat → zDk} {n : Nat} {T : Nat → Int32} {ll : Nat} {ln : Nat → Int32} {hs kf ld dt dc : Int32} {cd : Int32} (hK : zKp x (A, S, m, U, n, T, ll, ln, hs, kf, ld, dt, dc) σ) (hM : zMp (x + 261) cd (A, S, m, U, n, T, ll, ln, hs, kf, ld, dt, dc) σ) (hL : zLv (A, S, m, U, n, T, ll, ln, hs, kf, ld, dt, dc)) (hN : σ.2 = none) (hQ : ∀ i j : Nat, i < 7 → j < 7 → zQ X i = zQ X j → i = j) (p1 : Int32) : zSem X x mX9_isDecided yX9_isDecided mX10_isDecided yX10_isDecided [.int p1] [("java/lang/IndexOutOfBoundsException", 1)] σ := by
  have gA : zGd A := hL.1
  have gS : zGd S := hL.2.1
  have hm8 : m ≤ 8 := hL.2.2.1
  have gU : ∀ t, t < m → zGd (U t) := hL.2.2.2.1
  have hn60 : n ≤ 60 := hL.2.2.2.2.1
  have hll : ll ≤ 400 := hL.2.2.2.2.2.1
  have hln : ∀ k, k < ll → narrow .char (.int (ln k)) = .int (ln k) := hL.2.2.2.2.2.2.1
  have hkf : kf = -1 ∨ 0 ≤ kf := hL.2.2.2.2.2.2.2.1
  have hdd : ld = 0 → dc = 0 := hL.2.2.2.2.2.2.2.2
  have hK' : zKt x A S m U n T ll ln hs kf ld dt dc σ := hK
  have hA := gA.1
  have hC8 := hA.1
  have hP8 := hA.2.1
  have wU : ∀ t, t < m → zDw (U t) := fun t ht => (gU t ht).1
  have eN : mN 0 m = min (m + 1) 8 := if_pos rfl
  have eU : UN 0 A U = zPu A U := if_pos rfl
  by_cases c1 : ¬ p1 < 0 ∧ p1 < nI (kC A)
  · obtain ⟨i, hi, rfl⟩ := zcas (by omega) c1
    refine zSem_ok (p' := (A, S, m, U, n, T, ll, ln, hs, kf, ld, dt, dc)) hM ?_ ?_ ?_ ?_ hL (zMet.pu hK (qX9_isDecided hX hK' hA hi)) (fun t ht => by obtain ⟨tm, dn, K, hm⟩ := ht; have hm' : zMo (x + 261) 0 tm cd dn K A S m U n T ll ln hs kf ld dt dc t := hm; exact zMet.mq (p := (A, S, m, U, n, T, ll, ln, hs, kf, ld, dt, dc)) (qX10_isDecided hX hm' gA hi)) <;> decide
  · refine zSem_no (p' := (A, S, m, U, n, T, ll, ln, hs, kf, ld, dt, dc)) "java/lang/IndexOutOfBoundsException" 1 hM (by decide) ?_ ?_ ?_ ?_ hL (zMet.px hK (qX9_isDecidedX hX hK' hA c1 hN)) (fun t ht => by obtain ⟨tm, dn, K, hm⟩ := ht; have hm' : zMo (x + 261) 0 tm cd dn K A S m U n T ll ln hs kf ld dt dc t := hm; exact zMet.mq (p := (A, S, m, U, n, T, ll, ln, hs, kf, ld, dt, dc)) (R := fun _ => True) (qX10_isDecidedX hX hm' gA c1)) <;> decide
set_option maxRecDepth 100000 in
theorem sem_isTangled {X : zX} (hX : X.1.stackTraces = false) {σ : zS} {x : Nat} {A S : zDk} {m : Nat} {U : Nat → zDk} {n : Nat} {T : Nat → Int32} {ll : Nat} {ln : Nat → Int32} {hs kf ld dt dc : Int32} {cd : Int32} (hK : zKp x (A, S, m, U, n, T, ll, ln, hs, kf, ld, dt, dc) σ) (hM : zMp (x + 261) cd (A, S, m, U, n, T, ll, ln, hs, kf, ld, dt, dc) σ) (hL : zLv (A, S, m, U, n, T, ll, ln, hs, kf, ld, dt, dc)) (hN : σ.2 = none) (hQ : ∀ i j : Nat, i < 7 → j < 7 → zQ X i = zQ X j → i = j) (p1 : Int32) : zSem X x mX9_isTangled yX9_isTangled mX10_isTangled yX10_isTangled [.int p1] [("java/lang/IndexOutOfBoundsException", 1)] σ := by
  have gA : zGd A := hL.1
  have gS : zGd S := hL.2.1
  have hm8 : m ≤ 8 := hL.2.2.1
  have gU : ∀ t, t < m → zGd (U t) := hL.2.2.2.1
  have hn60 : n ≤ 60 := hL.2.2.2.2.1
  have hll : ll ≤ 400 := hL.2.2.2.2.2.1
  have hln : ∀ k, k < ll → narrow .char (.int (ln k)) = .int (ln k) := hL.2.2.2.2.2.2.1
  have hkf : kf = -1 ∨ 0 ≤ kf := hL.2.2.2.2.2.2.2.1
  have hdd : ld = 0 → dc = 0 := hL.2.2.2.2.2.2.2.2
  have hK' : zKt x A S m U n T ll ln hs kf ld dt dc σ := hK
  have hA := gA.1
  have hC8 := hA.1
  have hP8 := hA.2.1
  have wU : ∀ t, t < m → zDw (U t) := fun t ht => (gU t ht).1
  have eN : mN 0 m = min (m + 1) 8 := if_pos rfl
  have eU : UN 0 A U = zPu A U := if_pos rfl
  by_cases c1 : ¬ p1 < 0 ∧ p1 < nI (kC A)
  · obtain ⟨i, hi, rfl⟩ := zcas (by omega) c1
    refine zSem_ok (p' := (A, S, m, U, n, T, ll, ln, hs, kf, ld, dt, dc)) hM ?_ ?_ ?_ ?_ hL (zMet.pu hK (qX9_isTangled hX hK' hA hi)) (fun t ht => by obtain ⟨tm, dn, K, hm⟩ := ht; have hm' : zMo (x + 261) 0 tm cd dn K A S m U n T ll ln hs kf ld dt dc t := hm; exact zMet.mq (p := (A, S, m, U, n, T, ll, ln, hs, kf, ld, dt, dc)) (qX10_isTangled hX hm' gA hi)) <;> decide
  · refine zSem_no (p' := (A, S, m, U, n, T, ll, ln, hs, kf, ld, dt, dc)) "java/lang/IndexOutOfBoundsException" 1 hM (by decide) ?_ ?_ ?_ ?_ hL (zMet.px hK (qX9_isTangledX hX hK' hA c1 hN)) (fun t ht => by obtain ⟨tm, dn, K, hm⟩ := ht; have hm' : zMo (x + 261) 0 tm cd dn K A S m U n T ll ln hs kf ld dt dc t := hm; exact zMet.mq (p := (A, S, m, U, n, T, ll, ln, hs, kf, ld, dt, dc)) (R := fun _ => True) (qX10_isTangledX hX hm' gA c1)) <;> decide
set_option maxRecDepth 100000 in
theorem sem_caseCount {X : zX} (hX : X.1.stackTraces = false) {σ : zS} {x : Nat} {A S : zDk} {m : Nat} {U : Nat → zDk} {n : Nat} {T : Nat → Int32} {ll : Nat} {ln : Nat → Int32} {hs kf ld dt dc : Int32} {cd : Int32} (hK : zKp x (A, S, m, U, n, T, ll, ln, hs, kf, ld, dt, dc) σ) (hM : zMp (x + 261) cd (A, S, m, U, n, T, ll, ln, hs, kf, ld, dt, dc) σ) (hL : zLv (A, S, m, U, n, T, ll, ln, hs, kf, ld, dt, dc)) (hN : σ.2 = none) (hQ : ∀ i j : Nat, i < 7 → j < 7 → zQ X i = zQ X j → i = j) : zSem X x mX9_caseCount yX9_caseCount mX10_caseCount yX10_caseCount [] [] σ := by
  have gA : zGd A := hL.1
  have gS : zGd S := hL.2.1
  have hm8 : m ≤ 8 := hL.2.2.1
  have gU : ∀ t, t < m → zGd (U t) := hL.2.2.2.1
  have hn60 : n ≤ 60 := hL.2.2.2.2.1
  have hll : ll ≤ 400 := hL.2.2.2.2.2.1
  have hln : ∀ k, k < ll → narrow .char (.int (ln k)) = .int (ln k) := hL.2.2.2.2.2.2.1
  have hkf : kf = -1 ∨ 0 ≤ kf := hL.2.2.2.2.2.2.2.1
  have hdd : ld = 0 → dc = 0 := hL.2.2.2.2.2.2.2.2
  have hK' : zKt x A S m U n T ll ln hs kf ld dt dc σ := hK
  have hA := gA.1
  have hC8 := hA.1
  have hP8 := hA.2.1
  have wU : ∀ t, t < m → zDw (U t) := fun t ht => (gU t ht).1
  have eN : mN 0 m = min (m + 1) 8 := if_pos rfl
  have eU : UN 0 A U = zPu A U := if_pos rfl
  refine zSem_ok (p' := (A, S, m, U, n, T, ll, ln, hs, kf, ld, dt, dc)) hM ?_ ?_ ?_ ?_ hL (zMet.pu hK (qX9_caseCount hX hK' hA)) (fun t ht => by obtain ⟨tm, dn, K, hm⟩ := ht; have hm' : zMo (x + 261) 0 tm cd dn K A S m U n T ll ln hs kf ld dt dc t := hm; exact zMet.mq (p := (A, S, m, U, n, T, ll, ln, hs, kf, ld, dt, dc)) (qX10_caseCount hX hm' gA)) <;> decide
set_option maxRecDepth 100000 in
theorem sem_precedentCount {X : zX} (hX : X.1.stackTraces = false) {σ : zS} {x : Nat} {A S : zDk} {m : Nat} {U : Nat → zDk} {n : Nat} {T : Nat → Int32} {ll : Nat} {ln : Nat → Int32} {hs kf ld dt dc : Int32} {cd : Int32} (hK : zKp x (A, S, m, U, n, T, ll, ln, hs, kf, ld, dt, dc) σ) (hM : zMp (x + 261) cd (A, S, m, U, n, T, ll, ln, hs, kf, ld, dt, dc) σ) (hL : zLv (A, S, m, U, n, T, ll, ln, hs, kf, ld, dt, dc)) (hN : σ.2 = none) (hQ : ∀ i j : Nat, i < 7 → j < 7 → zQ X i = zQ X j → i = j) : zSem X x mX9_precedentCount yX9_precedentCount mX10_precedentCount yX10_precedentCount [] [] σ := by
  have gA : zGd A := hL.1
  have gS : zGd S := hL.2.1
  have hm8 : m ≤ 8 := hL.2.2.1
  have gU : ∀ t, t < m → zGd (U t) := hL.2.2.2.1
  have hn60 : n ≤ 60 := hL.2.2.2.2.1
  have hll : ll ≤ 400 := hL.2.2.2.2.2.1
  have hln : ∀ k, k < ll → narrow .char (.int (ln k)) = .int (ln k) := hL.2.2.2.2.2.2.1
  have hkf : kf = -1 ∨ 0 ≤ kf := hL.2.2.2.2.2.2.2.1
  have hdd : ld = 0 → dc = 0 := hL.2.2.2.2.2.2.2.2
  have hK' : zKt x A S m U n T ll ln hs kf ld dt dc σ := hK
  have hA := gA.1
  have hC8 := hA.1
  have hP8 := hA.2.1
  have wU : ∀ t, t < m → zDw (U t) := fun t ht => (gU t ht).1
  have eN : mN 0 m = min (m + 1) 8 := if_pos rfl
  have eU : UN 0 A U = zPu A U := if_pos rfl
  refine zSem_ok (p' := (A, S, m, U, n, T, ll, ln, hs, kf, ld, dt, dc)) hM ?_ ?_ ?_ ?_ hL (zMet.pu hK (qX9_precedentCount hX hK' hA)) (fun t ht => by obtain ⟨tm, dn, K, hm⟩ := ht; have hm' : zMo (x + 261) 0 tm cd dn K A S m U n T ll ln hs kf ld dt dc t := hm; exact zMet.mq (p := (A, S, m, U, n, T, ll, ln, hs, kf, ld, dt, dc)) (qX10_precedentCount hX hm' gA)) <;> decide
set_option maxRecDepth 100000 in
theorem sem_decidedCount {X : zX} (hX : X.1.stackTraces = false) {σ : zS} {x : Nat} {A S : zDk} {m : Nat} {U : Nat → zDk} {n : Nat} {T : Nat → Int32} {ll : Nat} {ln : Nat → Int32} {hs kf ld dt dc : Int32} {cd : Int32} (hK : zKp x (A, S, m, U, n, T, ll, ln, hs, kf, ld, dt, dc) σ) (hM : zMp (x + 261) cd (A, S, m, U, n, T, ll, ln, hs, kf, ld, dt, dc) σ) (hL : zLv (A, S, m, U, n, T, ll, ln, hs, kf, ld, dt, dc)) (hN : σ.2 = none) (hQ : ∀ i j : Nat, i < 7 → j < 7 → zQ X i = zQ X j → i = j) : zSem X x mX9_decidedCount yX9_decidedCount mX10_decidedCount yX10_decidedCount [] [] σ := by
  have gA : zGd A := hL.1
  have gS : zGd S := hL.2.1
  have hm8 : m ≤ 8 := hL.2.2.1
  have gU : ∀ t, t < m → zGd (U t) := hL.2.2.2.1
  have hn60 : n ≤ 60 := hL.2.2.2.2.1
  have hll : ll ≤ 400 := hL.2.2.2.2.2.1
  have hln : ∀ k, k < ll → narrow .char (.int (ln k)) = .int (ln k) := hL.2.2.2.2.2.2.1
  have hkf : kf = -1 ∨ 0 ≤ kf := hL.2.2.2.2.2.2.2.1
  have hdd : ld = 0 → dc = 0 := hL.2.2.2.2.2.2.2.2
  have hK' : zKt x A S m U n T ll ln hs kf ld dt dc σ := hK
  have hA := gA.1
  have hC8 := hA.1
  have hP8 := hA.2.1
  have wU : ∀ t, t < m → zDw (U t) := fun t ht => (gU t ht).1
  have eN : mN 0 m = min (m + 1) 8 := if_pos rfl
  have eU : UN 0 A U = zPu A U := if_pos rfl
  refine zSem_ok (p' := (A, S, m, U, n, T, ll, ln, hs, kf, ld, dt, dc)) hM ?_ ?_ ?_ ?_ hL (zMet.pu hK (qX9_decidedCount hX hK' hA)) (fun t ht => by obtain ⟨tm, dn, K, hm⟩ := ht; have hm' : zMo (x + 261) 0 tm cd dn K A S m U n T ll ln hs kf ld dt dc t := hm; exact zMet.mq (p := (A, S, m, U, n, T, ll, ln, hs, kf, ld, dt, dc)) (qX10_decidedCount hX hm' gA)) <;> decide
set_option maxRecDepth 100000 in
theorem sem_tangledCount {X : zX} (hX : X.1.stackTraces = false) {σ : zS} {x : Nat} {A S : zDk} {m : Nat} {U : Nat → zDk} {n : Nat} {T : Nat → Int32} {ll : Nat} {ln : Nat → Int32} {hs kf ld dt dc : Int32} {cd : Int32} (hK : zKp x (A, S, m, U, n, T, ll, ln, hs, kf, ld, dt, dc) σ) (hM : zMp (x + 261) cd (A, S, m, U, n, T, ll, ln, hs, kf, ld, dt, dc) σ) (hL : zLv (A, S, m, U, n, T, ll, ln, hs, kf, ld, dt, dc)) (hN : σ.2 = none) (hQ : ∀ i j : Nat, i < 7 → j < 7 → zQ X i = zQ X j → i = j) : zSem X x mX9_tangledCount yX9_tangledCount mX10_tangledCount yX10_tangledCount [] [] σ := by
  have gA : zGd A := hL.1
  have gS : zGd S := hL.2.1
  have hm8 : m ≤ 8 := hL.2.2.1
  have gU : ∀ t, t < m → zGd (U t) := hL.2.2.2.1
  have hn60 : n ≤ 60 := hL.2.2.2.2.1
  have hll : ll ≤ 400 := hL.2.2.2.2.2.1
  have hln : ∀ k, k < ll → narrow .char (.int (ln k)) = .int (ln k) := hL.2.2.2.2.2.2.1
  have hkf : kf = -1 ∨ 0 ≤ kf := hL.2.2.2.2.2.2.2.1
  have hdd : ld = 0 → dc = 0 := hL.2.2.2.2.2.2.2.2
  have hK' : zKt x A S m U n T ll ln hs kf ld dt dc σ := hK
  have hA := gA.1
  have hC8 := hA.1
  have hP8 := hA.2.1
  have wU : ∀ t, t < m → zDw (U t) := fun t ht => (gU t ht).1
  have eN : mN 0 m = min (m + 1) 8 := if_pos rfl
  have eU : UN 0 A U = zPu A U := if_pos rfl
  refine zSem_ok (p' := (A, S, m, U, n, T, ll, ln, hs, kf, ld, dt, dc)) hM ?_ ?_ ?_ ?_ hL (zMet.pu hK (qX9_tangledCount hX hK' hA)) (fun t ht => by obtain ⟨tm, dn, K, hm⟩ := ht; have hm' : zMo (x + 261) 0 tm cd dn K A S m U n T ll ln hs kf ld dt dc t := hm; exact zMet.mq (p := (A, S, m, U, n, T, ll, ln, hs, kf, ld, dt, dc)) (qX10_tangledCount hX hm' gA)) <;> decide
set_option maxRecDepth 100000 in
theorem sem_undoCount {X : zX} (hX : X.1.stackTraces = false) {σ : zS} {x : Nat} {A S : zDk} {m : Nat} {U : Nat → zDk} {n : Nat} {T : Nat → Int32} {ll : Nat} {ln : Nat → Int32} {hs kf ld dt dc : Int32} {cd : Int32} (hK : zKp x (A, S, m, U, n, T, ll, ln, hs, kf, ld, dt, dc) σ) (hM : zMp (x + 261) cd (A, S, m, U, n, T, ll, ln, hs, kf, ld, dt, dc) σ) (hL : zLv (A, S, m, U, n, T, ll, ln, hs, kf, ld, dt, dc)) (hN : σ.2 = none) (hQ : ∀ i j : Nat, i < 7 → j < 7 → zQ X i = zQ X j → i = j) : zSem X x mX9_undoCount yX9_undoCount mX10_undoCount yX10_undoCount [] [] σ := by
  have gA : zGd A := hL.1
  have gS : zGd S := hL.2.1
  have hm8 : m ≤ 8 := hL.2.2.1
  have gU : ∀ t, t < m → zGd (U t) := hL.2.2.2.1
  have hn60 : n ≤ 60 := hL.2.2.2.2.1
  have hll : ll ≤ 400 := hL.2.2.2.2.2.1
  have hln : ∀ k, k < ll → narrow .char (.int (ln k)) = .int (ln k) := hL.2.2.2.2.2.2.1
  have hkf : kf = -1 ∨ 0 ≤ kf := hL.2.2.2.2.2.2.2.1
  have hdd : ld = 0 → dc = 0 := hL.2.2.2.2.2.2.2.2
  have hK' : zKt x A S m U n T ll ln hs kf ld dt dc σ := hK
  have hA := gA.1
  have hC8 := hA.1
  have hP8 := hA.2.1
  have wU : ∀ t, t < m → zDw (U t) := fun t ht => (gU t ht).1
  have eN : mN 0 m = min (m + 1) 8 := if_pos rfl
  have eU : UN 0 A U = zPu A U := if_pos rfl
  refine zSem_ok (p' := (A, S, m, U, n, T, ll, ln, hs, kf, ld, dt, dc)) hM ?_ ?_ ?_ ?_ hL (zMet.pu hK (qX9_undoCount hX hK' hA)) (fun t ht => by obtain ⟨tm, dn, K, hm⟩ := ht; have hm' : zMo (x + 261) 0 tm cd dn K A S m U n T ll ln hs kf ld dt dc t := hm; exact zMet.mq (p := (A, S, m, U, n, T, ll, ln, hs, kf, ld, dt, dc)) (qX10_undoCount hX hm' gA)) <;> decide
set_option maxRecDepth 100000 in
theorem sem_letterAt {X : zX} (hX : X.1.stackTraces = false) {σ : zS} {x : Nat} {A S : zDk} {m : Nat} {U : Nat → zDk} {n : Nat} {T : Nat → Int32} {ll : Nat} {ln : Nat → Int32} {hs kf ld dt dc : Int32} {cd : Int32} (hK : zKp x (A, S, m, U, n, T, ll, ln, hs, kf, ld, dt, dc) σ) (hM : zMp (x + 261) cd (A, S, m, U, n, T, ll, ln, hs, kf, ld, dt, dc) σ) (hL : zLv (A, S, m, U, n, T, ll, ln, hs, kf, ld, dt, dc)) (hN : σ.2 = none) (hQ : ∀ i j : Nat, i < 7 → j < 7 → zQ X i = zQ X j → i = j) (p1 p2 : Int32) : zSem X x mX9_letterAt yX9_letterAt mX10_letterAt yX10_letterAt [.int p1, .int p2] [("java/lang/IndexOutOfBoundsException", 1), ("java/util/NoSuchElementException", 2)] σ := by
  have gA : zGd A := hL.1
  have gS : zGd S := hL.2.1
  have hm8 : m ≤ 8 := hL.2.2.1
  have gU : ∀ t, t < m → zGd (U t) := hL.2.2.2.1
  have hn60 : n ≤ 60 := hL.2.2.2.2.1
  have hll : ll ≤ 400 := hL.2.2.2.2.2.1
  have hln : ∀ k, k < ll → narrow .char (.int (ln k)) = .int (ln k) := hL.2.2.2.2.2.2.1
  have hkf : kf = -1 ∨ 0 ≤ kf := hL.2.2.2.2.2.2.2.1
  have hdd : ld = 0 → dc = 0 := hL.2.2.2.2.2.2.2.2
  have hK' : zKt x A S m U n T ll ln hs kf ld dt dc σ := hK
  have hA := gA.1
  have hC8 := hA.1
  have hP8 := hA.2.1
  have wU : ∀ t, t < m → zDw (U t) := fun t ht => (gU t ht).1
  have eN : mN 0 m = min (m + 1) 8 := if_pos rfl
  have eU : UN 0 A U = zPu A U := if_pos rfl
  by_cases c1 : ¬ p1 < 0 ∧ p1 < nI (kC A)
  · obtain ⟨i, hi, rfl⟩ := zcas (by omega) c1
    have n16 := (hA.2.2 i (by omega)).1
    by_cases c2 : ¬ p2 < 0 ∧ p2 < nI (kN A i)
    · obtain ⟨j, hj, rfl⟩ := zcas (by omega) c2
      refine zSem_ok (p' := (A, S, m, U, n, T, ll, ln, hs, kf, ld, dt, dc)) hM ?_ ?_ ?_ ?_ hL (zMet.pu hK (qX9_letterAt hX hK' hA hi hj)) (fun t ht => by obtain ⟨tm, dn, K, hm⟩ := ht; have hm' : zMo (x + 261) 0 tm cd dn K A S m U n T ll ln hs kf ld dt dc t := hm; exact zMet.mq (p := (A, S, m, U, n, T, ll, ln, hs, kf, ld, dt, dc)) (qX10_letterAt hX hm' gA hi hj)) <;> decide
    · refine zSem_no (p' := (A, S, m, U, n, T, ll, ln, hs, kf, ld, dt, dc)) "java/util/NoSuchElementException" 2 hM (by decide) ?_ ?_ ?_ ?_ hL (zMet.px hK (qX9_letterAtN hX hK' hA hi c2 hN)) (fun t ht => by obtain ⟨tm, dn, K, hm⟩ := ht; have hm' : zMo (x + 261) 0 tm cd dn K A S m U n T ll ln hs kf ld dt dc t := hm; exact zMet.mq (p := (A, S, m, U, n, T, ll, ln, hs, kf, ld, dt, dc)) (R := fun _ => True) (qX10_letterAtN hX hm' gA hi c2)) <;> decide
  · refine zSem_no (p' := (A, S, m, U, n, T, ll, ln, hs, kf, ld, dt, dc)) "java/lang/IndexOutOfBoundsException" 1 hM (by decide) ?_ ?_ ?_ ?_ hL (zMet.px hK (qX9_letterAtX hX hK' hA c1 hN (p2 := p2))) (fun t ht => by obtain ⟨tm, dn, K, hm⟩ := ht; have hm' : zMo (x + 261) 0 tm cd dn K A S m U n T ll ln hs kf ld dt dc t := hm; exact zMet.mq (p := (A, S, m, U, n, T, ll, ln, hs, kf, ld, dt, dc)) (R := fun _ => True) (qX10_letterAtX hX hm' gA c1 (p2 := p2))) <;> decide
set_option maxRecDepth 100000 in
theorem sem_hasHandle {X : zX} (hX : X.1.stackTraces = false) {σ : zS} {x : Nat} {A S : zDk} {m : Nat} {U : Nat → zDk} {n : Nat} {T : Nat → Int32} {ll : Nat} {ln : Nat → Int32} {hs kf ld dt dc : Int32} {cd : Int32} (hK : zKp x (A, S, m, U, n, T, ll, ln, hs, kf, ld, dt, dc) σ) (hM : zMp (x + 261) cd (A, S, m, U, n, T, ll, ln, hs, kf, ld, dt, dc) σ) (hL : zLv (A, S, m, U, n, T, ll, ln, hs, kf, ld, dt, dc)) (hN : σ.2 = none) (hQ : ∀ i j : Nat, i < 7 → j < 7 → zQ X i = zQ X j → i = j) (p1 : Int32) : zSem X x mX9_hasHandle yX9_hasHandle mX10_hasHandle yX10_hasHandle [.int p1] [("java/lang/IndexOutOfBoundsException", 1)] σ := by
  have gA : zGd A := hL.1
  have gS : zGd S := hL.2.1
  have hm8 : m ≤ 8 := hL.2.2.1
  have gU : ∀ t, t < m → zGd (U t) := hL.2.2.2.1
  have hn60 : n ≤ 60 := hL.2.2.2.2.1
  have hll : ll ≤ 400 := hL.2.2.2.2.2.1
  have hln : ∀ k, k < ll → narrow .char (.int (ln k)) = .int (ln k) := hL.2.2.2.2.2.2.1
  have hkf : kf = -1 ∨ 0 ≤ kf := hL.2.2.2.2.2.2.2.1
  have hdd : ld = 0 → dc = 0 := hL.2.2.2.2.2.2.2.2
  have hK' : zKt x A S m U n T ll ln hs kf ld dt dc σ := hK
  have hA := gA.1
  have hC8 := hA.1
  have hP8 := hA.2.1
  have wU : ∀ t, t < m → zDw (U t) := fun t ht => (gU t ht).1
  have eN : mN 0 m = min (m + 1) 8 := if_pos rfl
  have eU : UN 0 A U = zPu A U := if_pos rfl
  by_cases c1 : ¬ p1 < 0 ∧ p1 < nI (kC A)
  · obtain ⟨i, hi, rfl⟩ := zcas (by omega) c1
    have n16 := (hA.2.2 i (by omega)).1
    by_cases hz : zfe (kL A i) 0 (kN A i) = -1
    · have h1 := qX9_hasHandle hX hK' hA hi
      rw [if_pos hz] at h1
      refine zSem_ok (p' := (A, S, m, U, n, T, ll, ln, hs, kf, ld, dt, dc)) hM ?_ ?_ ?_ ?_ hL (zMet.pu hK (h1)) (fun t ht => by obtain ⟨tm, dn, K, hm⟩ := ht; have hm' : zMo (x + 261) 0 tm cd dn K A S m U n T ll ln hs kf ld dt dc t := hm; exact zMet.mq (p := (A, S, m, U, n, T, ll, ln, hs, kf, ld, dt, dc)) (qX10_hasHandleN hX hm' gA hi hz)) <;> decide
    · obtain ⟨e, -, hen, he, -⟩ := (zfe_at (kL A i) (kN A i) 0).resolve_left hz
      rw [Nat.zero_add] at hen
      have h1 := qX9_hasHandle hX hK' hA hi
      rw [if_neg hz] at h1
      refine zSem_ok (p' := (A, S, m, U, n, T, ll, ln, hs, kf, ld, dt, dc)) hM ?_ ?_ ?_ ?_ hL (zMet.pu hK (h1)) (fun t ht => by obtain ⟨tm, dn, K, hm⟩ := ht; have hm' : zMo (x + 261) 0 tm cd dn K A S m U n T ll ln hs kf ld dt dc t := hm; exact zMet.mq (p := (A, S, m, U, n, T, ll, ln, hs, kf, ld, dt, dc)) (qX10_hasHandleY hX hm' gA hi he hen)) <;> decide
  · refine zSem_no (p' := (A, S, m, U, n, T, ll, ln, hs, kf, ld, dt, dc)) "java/lang/IndexOutOfBoundsException" 1 hM (by decide) ?_ ?_ ?_ ?_ hL (zMet.px hK (qX9_hasHandleX hX hK' hA c1 hN)) (fun t ht => by obtain ⟨tm, dn, K, hm⟩ := ht; have hm' : zMo (x + 261) 0 tm cd dn K A S m U n T ll ln hs kf ld dt dc t := hm; exact zMet.mq (p := (A, S, m, U, n, T, ll, ln, hs, kf, ld, dt, dc)) (R := fun _ => True) (qX10_hasHandleX hX hm' gA c1)) <;> decide
set_option maxRecDepth 100000 in
theorem sem_handleBegin {X : zX} (hX : X.1.stackTraces = false) {σ : zS} {x : Nat} {A S : zDk} {m : Nat} {U : Nat → zDk} {n : Nat} {T : Nat → Int32} {ll : Nat} {ln : Nat → Int32} {hs kf ld dt dc : Int32} {cd : Int32} (hK : zKp x (A, S, m, U, n, T, ll, ln, hs, kf, ld, dt, dc) σ) (hM : zMp (x + 261) cd (A, S, m, U, n, T, ll, ln, hs, kf, ld, dt, dc) σ) (hL : zLv (A, S, m, U, n, T, ll, ln, hs, kf, ld, dt, dc)) (hN : σ.2 = none) (hQ : ∀ i j : Nat, i < 7 → j < 7 → zQ X i = zQ X j → i = j) (p1 : Int32) : zSem X x mX9_handleBegin yX9_handleBegin mX10_handleBegin yX10_handleBegin [.int p1] [("java/lang/IndexOutOfBoundsException", 1), ("java/util/NoSuchElementException", 2)] σ := by
  have gA : zGd A := hL.1
  have gS : zGd S := hL.2.1
  have hm8 : m ≤ 8 := hL.2.2.1
  have gU : ∀ t, t < m → zGd (U t) := hL.2.2.2.1
  have hn60 : n ≤ 60 := hL.2.2.2.2.1
  have hll : ll ≤ 400 := hL.2.2.2.2.2.1
  have hln : ∀ k, k < ll → narrow .char (.int (ln k)) = .int (ln k) := hL.2.2.2.2.2.2.1
  have hkf : kf = -1 ∨ 0 ≤ kf := hL.2.2.2.2.2.2.2.1
  have hdd : ld = 0 → dc = 0 := hL.2.2.2.2.2.2.2.2
  have hK' : zKt x A S m U n T ll ln hs kf ld dt dc σ := hK
  have hA := gA.1
  have hC8 := hA.1
  have hP8 := hA.2.1
  have wU : ∀ t, t < m → zDw (U t) := fun t ht => (gU t ht).1
  have eN : mN 0 m = min (m + 1) 8 := if_pos rfl
  have eU : UN 0 A U = zPu A U := if_pos rfl
  by_cases c1 : ¬ p1 < 0 ∧ p1 < nI (kC A)
  · obtain ⟨i, hi, rfl⟩ := zcas (by omega) c1
    have n16 := (hA.2.2 i (by omega)).1
    by_cases hz : zfe (kL A i) 0 (kN A i) = -1
    · refine zSem_no (p' := (A, S, m, U, n, T, ll, ln, hs, kf, ld, dt, dc)) "java/util/NoSuchElementException" 2 hM (by decide) ?_ ?_ ?_ ?_ hL (zMet.px hK (qX9_handleBeginN hX hK' hA hi hz hN)) (fun t ht => by obtain ⟨tm, dn, K, hm⟩ := ht; have hm' : zMo (x + 261) 0 tm cd dn K A S m U n T ll ln hs kf ld dt dc t := hm; exact zMet.mq (p := (A, S, m, U, n, T, ll, ln, hs, kf, ld, dt, dc)) (R := fun _ => True) (qX10_handleBeginN hX hm' gA hi hz)) <;> decide
    · obtain ⟨e, -, hen, he, -⟩ := (zfe_at (kL A i) (kN A i) 0).resolve_left hz
      rw [Nat.zero_add] at hen
      refine zSem_ok (p' := (A, S, m, U, n, T, ll, ln, hs, kf, ld, dt, dc)) hM ?_ ?_ ?_ ?_ hL (zMet.pu hK (qX9_handleBegin hX hK' hA hi he hen)) (fun t ht => by obtain ⟨tm, dn, K, hm⟩ := ht; have hm' : zMo (x + 261) 0 tm cd dn K A S m U n T ll ln hs kf ld dt dc t := hm; exact zMet.mq (p := (A, S, m, U, n, T, ll, ln, hs, kf, ld, dt, dc)) (qX10_handleBegin hX hm' gA hi he hen)) <;> decide
  · refine zSem_no (p' := (A, S, m, U, n, T, ll, ln, hs, kf, ld, dt, dc)) "java/lang/IndexOutOfBoundsException" 1 hM (by decide) ?_ ?_ ?_ ?_ hL (zMet.px hK (qX9_handleBeginX hX hK' hA c1 hN)) (fun t ht => by obtain ⟨tm, dn, K, hm⟩ := ht; have hm' : zMo (x + 261) 0 tm cd dn K A S m U n T ll ln hs kf ld dt dc t := hm; exact zMet.mq (p := (A, S, m, U, n, T, ll, ln, hs, kf, ld, dt, dc)) (R := fun _ => True) (qX10_handleBeginX hX hm' gA c1)) <;> decide
set_option maxRecDepth 100000 in
theorem sem_handleEnd {X : zX} (hX : X.1.stackTraces = false) {σ : zS} {x : Nat} {A S : zDk} {m : Nat} {U : Nat → zDk} {n : Nat} {T : Nat → Int32} {ll : Nat} {ln : Nat → Int32} {hs kf ld dt dc : Int32} {cd : Int32} (hK : zKp x (A, S, m, U, n, T, ll, ln, hs, kf, ld, dt, dc) σ) (hM : zMp (x + 261) cd (A, S, m, U, n, T, ll, ln, hs, kf, ld, dt, dc) σ) (hL : zLv (A, S, m, U, n, T, ll, ln, hs, kf, ld, dt, dc)) (hN : σ.2 = none) (hQ : ∀ i j : Nat, i < 7 → j < 7 → zQ X i = zQ X j → i = j) (p1 : Int32) : zSem X x mX9_handleEnd yX9_handleEnd mX10_handleEnd yX10_handleEnd [.int p1] [("java/lang/IndexOutOfBoundsException", 1), ("java/util/NoSuchElementException", 2)] σ := by
  have gA : zGd A := hL.1
  have gS : zGd S := hL.2.1
  have hm8 : m ≤ 8 := hL.2.2.1
  have gU : ∀ t, t < m → zGd (U t) := hL.2.2.2.1
  have hn60 : n ≤ 60 := hL.2.2.2.2.1
  have hll : ll ≤ 400 := hL.2.2.2.2.2.1
  have hln : ∀ k, k < ll → narrow .char (.int (ln k)) = .int (ln k) := hL.2.2.2.2.2.2.1
  have hkf : kf = -1 ∨ 0 ≤ kf := hL.2.2.2.2.2.2.2.1
  have hdd : ld = 0 → dc = 0 := hL.2.2.2.2.2.2.2.2
  have hK' : zKt x A S m U n T ll ln hs kf ld dt dc σ := hK
  have hA := gA.1
  have hC8 := hA.1
  have hP8 := hA.2.1
  have wU : ∀ t, t < m → zDw (U t) := fun t ht => (gU t ht).1
  have eN : mN 0 m = min (m + 1) 8 := if_pos rfl
  have eU : UN 0 A U = zPu A U := if_pos rfl
  by_cases c1 : ¬ p1 < 0 ∧ p1 < nI (kC A)
  · obtain ⟨i, hi, rfl⟩ := zcas (by omega) c1
    have n16 := (hA.2.2 i (by omega)).1
    by_cases hz : zfe (kL A i) 0 (kN A i) = -1
    · refine zSem_no (p' := (A, S, m, U, n, T, ll, ln, hs, kf, ld, dt, dc)) "java/util/NoSuchElementException" 2 hM (by decide) ?_ ?_ ?_ ?_ hL (zMet.px hK (qX9_handleEndN hX hK' hA hi hz hN)) (fun t ht => by obtain ⟨tm, dn, K, hm⟩ := ht; have hm' : zMo (x + 261) 0 tm cd dn K A S m U n T ll ln hs kf ld dt dc t := hm; exact zMet.mq (p := (A, S, m, U, n, T, ll, ln, hs, kf, ld, dt, dc)) (R := fun _ => True) (qX10_handleEndN hX hm' gA hi hz)) <;> decide
    · obtain ⟨e, -, hen, he, -⟩ := (zfe_at (kL A i) (kN A i) 0).resolve_left hz
      rw [Nat.zero_add] at hen
      refine zSem_ok (p' := (A, S, m, U, n, T, ll, ln, hs, kf, ld, dt, dc)) hM ?_ ?_ ?_ ?_ hL (zMet.pu hK (qX9_handleEnd hX hK' hA hi hz)) (fun t ht => by obtain ⟨tm, dn, K, hm⟩ := ht; have hm' : zMo (x + 261) 0 tm cd dn K A S m U n T ll ln hs kf ld dt dc t := hm; exact zMet.mq (p := (A, S, m, U, n, T, ll, ln, hs, kf, ld, dt, dc)) (qX10_handleEnd hX hm' gA hi he hen)) <;> decide
  · refine zSem_no (p' := (A, S, m, U, n, T, ll, ln, hs, kf, ld, dt, dc)) "java/lang/IndexOutOfBoundsException" 1 hM (by decide) ?_ ?_ ?_ ?_ hL (zMet.px hK (qX9_handleEndX hX hK' hA c1 hN)) (fun t ht => by obtain ⟨tm, dn, K, hm⟩ := ht; have hm' : zMo (x + 261) 0 tm cd dn K A S m U n T ll ln hs kf ld dt dc t := hm; exact zMet.mq (p := (A, S, m, U, n, T, ll, ln, hs, kf, ld, dt, dc)) (R := fun _ => True) (qX10_handleEndX hX hm' gA c1)) <;> decide
set_option maxRecDepth 100000 in
theorem sem_strandEnd {X : zX} (hX : X.1.stackTraces = false) {σ : zS} {x : Nat} {A S : zDk} {m : Nat} {U : Nat → zDk} {n : Nat} {T : Nat → Int32} {ll : Nat} {ln : Nat → Int32} {hs kf ld dt dc : Int32} {cd : Int32} (hK : zKp x (A, S, m, U, n, T, ll, ln, hs, kf, ld, dt, dc) σ) (hM : zMp (x + 261) cd (A, S, m, U, n, T, ll, ln, hs, kf, ld, dt, dc) σ) (hL : zLv (A, S, m, U, n, T, ll, ln, hs, kf, ld, dt, dc)) (hN : σ.2 = none) (hQ : ∀ i j : Nat, i < 7 → j < 7 → zQ X i = zQ X j → i = j) (p1 p2 : Int32) : zSem X x mX9_strandEnd yX9_strandEnd mX10_strandEnd yX10_strandEnd [.int p1, .int p2] [("java/lang/IndexOutOfBoundsException", 1), ("java/lang/IllegalArgumentException", 2)] σ := by
  have gA : zGd A := hL.1
  have gS : zGd S := hL.2.1
  have hm8 : m ≤ 8 := hL.2.2.1
  have gU : ∀ t, t < m → zGd (U t) := hL.2.2.2.1
  have hn60 : n ≤ 60 := hL.2.2.2.2.1
  have hll : ll ≤ 400 := hL.2.2.2.2.2.1
  have hln : ∀ k, k < ll → narrow .char (.int (ln k)) = .int (ln k) := hL.2.2.2.2.2.2.1
  have hkf : kf = -1 ∨ 0 ≤ kf := hL.2.2.2.2.2.2.2.1
  have hdd : ld = 0 → dc = 0 := hL.2.2.2.2.2.2.2.2
  have hK' : zKt x A S m U n T ll ln hs kf ld dt dc σ := hK
  have hA := gA.1
  have hC8 := hA.1
  have hP8 := hA.2.1
  have wU : ∀ t, t < m → zDw (U t) := fun t ht => (gU t ht).1
  have eN : mN 0 m = min (m + 1) 8 := if_pos rfl
  have eU : UN 0 A U = zPu A U := if_pos rfl
  by_cases c1 : ¬ p1 < 0 ∧ p1 < nI (kC A)
  · obtain ⟨i, hi, rfl⟩ := zcas (by omega) c1
    have n16 := (hA.2.2 i (by omega)).1
    by_cases hp : 1 ≤ p2 ∧ p2 ≤ 5
    · refine zSem_ok (p' := (A, S, m, U, n, T, ll, ln, hs, kf, ld, dt, dc)) hM ?_ ?_ ?_ ?_ hL (zMet.pu hK (qX9_strandEnd hX hK' hA hi hp)) (fun t ht => by obtain ⟨tm, dn, K, hm⟩ := ht; have hm' : zMo (x + 261) 0 tm cd dn K A S m U n T ll ln hs kf ld dt dc t := hm; exact zMet.mq (p := (A, S, m, U, n, T, ll, ln, hs, kf, ld, dt, dc)) (qX10_strandEnd hX hm' gA hi hp)) <;> decide
    · refine zSem_no (p' := (A, S, m, U, n, T, ll, ln, hs, kf, ld, dt, dc)) "java/lang/IllegalArgumentException" 2 hM (by decide) ?_ ?_ ?_ ?_ hL (zMet.px hK (qX9_strandEndN hX hK' hA hi hp hN)) (fun t ht => by obtain ⟨tm, dn, K, hm⟩ := ht; have hm' : zMo (x + 261) 0 tm cd dn K A S m U n T ll ln hs kf ld dt dc t := hm; exact zMet.mq (p := (A, S, m, U, n, T, ll, ln, hs, kf, ld, dt, dc)) (R := fun _ => True) (qX10_strandEndN hX hm' gA hi hp)) <;> decide
  · refine zSem_no (p' := (A, S, m, U, n, T, ll, ln, hs, kf, ld, dt, dc)) "java/lang/IndexOutOfBoundsException" 1 hM (by decide) ?_ ?_ ?_ ?_ hL (zMet.px hK (qX9_strandEndX hX hK' hA c1 hN (p2 := p2))) (fun t ht => by obtain ⟨tm, dn, K, hm⟩ := ht; have hm' : zMo (x + 261) 0 tm cd dn K A S m U n T ll ln hs kf ld dt dc t := hm; exact zMet.mq (p := (A, S, m, U, n, T, ll, ln, hs, kf, ld, dt, dc)) (R := fun _ => True) (qX10_strandEndX hX hm' gA c1 (p2 := p2))) <;> decide
set_option maxRecDepth 100000 in
theorem sem_crossings {X : zX} (hX : X.1.stackTraces = false) {σ : zS} {x : Nat} {A S : zDk} {m : Nat} {U : Nat → zDk} {n : Nat} {T : Nat → Int32} {ll : Nat} {ln : Nat → Int32} {hs kf ld dt dc : Int32} {cd : Int32} (hK : zKp x (A, S, m, U, n, T, ll, ln, hs, kf, ld, dt, dc) σ) (hM : zMp (x + 261) cd (A, S, m, U, n, T, ll, ln, hs, kf, ld, dt, dc) σ) (hL : zLv (A, S, m, U, n, T, ll, ln, hs, kf, ld, dt, dc)) (hN : σ.2 = none) (hQ : ∀ i j : Nat, i < 7 → j < 7 → zQ X i = zQ X j → i = j) (p1 p2 p3 : Int32) : zSem X x mX9_crossings yX9_crossings mX10_crossings yX10_crossings [.int p1, .int p2, .int p3] [("java/lang/IndexOutOfBoundsException", 1), ("java/lang/IllegalArgumentException", 2)] σ := by
  have gA : zGd A := hL.1
  have gS : zGd S := hL.2.1
  have hm8 : m ≤ 8 := hL.2.2.1
  have gU : ∀ t, t < m → zGd (U t) := hL.2.2.2.1
  have hn60 : n ≤ 60 := hL.2.2.2.2.1
  have hll : ll ≤ 400 := hL.2.2.2.2.2.1
  have hln : ∀ k, k < ll → narrow .char (.int (ln k)) = .int (ln k) := hL.2.2.2.2.2.2.1
  have hkf : kf = -1 ∨ 0 ≤ kf := hL.2.2.2.2.2.2.2.1
  have hdd : ld = 0 → dc = 0 := hL.2.2.2.2.2.2.2.2
  have hK' : zKt x A S m U n T ll ln hs kf ld dt dc σ := hK
  have hA := gA.1
  have hC8 := hA.1
  have hP8 := hA.2.1
  have wU : ∀ t, t < m → zDw (U t) := fun t ht => (gU t ht).1
  have eN : mN 0 m = min (m + 1) 8 := if_pos rfl
  have eU : UN 0 A U = zPu A U := if_pos rfl
  by_cases c1 : ¬ p1 < 0 ∧ p1 < nI (kC A)
  · obtain ⟨i, hi, rfl⟩ := zcas (by omega) c1
    have n16 := (hA.2.2 i (by omega)).1
    by_cases hp : 1 ≤ p2 ∧ p2 ≤ 5
    · by_cases hp2 : 1 ≤ p3 ∧ p3 ≤ 5
      · refine zSem_ok (p' := (A, S, m, U, n, T, ll, ln, hs, kf, ld, dt, dc)) hM ?_ ?_ ?_ ?_ hL (zMet.pu hK (qX9_crossings hX hK' hA hi hp hp2)) (fun t ht => by obtain ⟨tm, dn, K, hm⟩ := ht; have hm' : zMo (x + 261) 0 tm cd dn K A S m U n T ll ln hs kf ld dt dc t := hm; exact zMet.mq (p := (A, S, m, U, n, T, ll, ln, hs, kf, ld, dt, dc)) (qX10_crossings hX hm' gA hi hp hp2)) <;> decide
      · refine zSem_no (p' := (A, S, m, U, n, T, ll, ln, hs, kf, ld, dt, dc)) "java/lang/IllegalArgumentException" 2 hM (by decide) ?_ ?_ ?_ ?_ hL (zMet.px hK (qX9_crossingsN2 hX hK' hA hi hp hp2 hN)) (fun t ht => by obtain ⟨tm, dn, K, hm⟩ := ht; have hm' : zMo (x + 261) 0 tm cd dn K A S m U n T ll ln hs kf ld dt dc t := hm; exact zMet.mq (p := (A, S, m, U, n, T, ll, ln, hs, kf, ld, dt, dc)) (R := fun _ => True) (qX10_crossingsN2 hX hm' gA hi hp hp2)) <;> decide
    · refine zSem_no (p' := (A, S, m, U, n, T, ll, ln, hs, kf, ld, dt, dc)) "java/lang/IllegalArgumentException" 2 hM (by decide) ?_ ?_ ?_ ?_ hL (zMet.px hK (qX9_crossingsN hX hK' hA hi hp hN (p2 := p3))) (fun t ht => by obtain ⟨tm, dn, K, hm⟩ := ht; have hm' : zMo (x + 261) 0 tm cd dn K A S m U n T ll ln hs kf ld dt dc t := hm; exact zMet.mq (p := (A, S, m, U, n, T, ll, ln, hs, kf, ld, dt, dc)) (R := fun _ => True) (qX10_crossingsN hX hm' gA hi hp (p2 := p3))) <;> decide
  · refine zSem_no (p' := (A, S, m, U, n, T, ll, ln, hs, kf, ld, dt, dc)) "java/lang/IndexOutOfBoundsException" 1 hM (by decide) ?_ ?_ ?_ ?_ hL (zMet.px hK (qX9_crossingsX hX hK' hA c1 hN (p2 := p2) (p3 := p3))) (fun t ht => by obtain ⟨tm, dn, K, hm⟩ := ht; have hm' : zMo (x + 261) 0 tm cd dn K A S m U n T ll ln hs kf ld dt dc t := hm; exact zMet.mq (p := (A, S, m, U, n, T, ll, ln, hs, kf, ld, dt, dc)) (R := fun _ => True) (qX10_crossingsX hX hm' gA c1 (p2 := p2) (p3 := p3))) <;> decide
set_option maxRecDepth 100000 in
theorem sem_relaxedLength {X : zX} (hX : X.1.stackTraces = false) {σ : zS} {x : Nat} {A S : zDk} {m : Nat} {U : Nat → zDk} {n : Nat} {T : Nat → Int32} {ll : Nat} {ln : Nat → Int32} {hs kf ld dt dc : Int32} {cd : Int32} (hK : zKp x (A, S, m, U, n, T, ll, ln, hs, kf, ld, dt, dc) σ) (hM : zMp (x + 261) cd (A, S, m, U, n, T, ll, ln, hs, kf, ld, dt, dc) σ) (hL : zLv (A, S, m, U, n, T, ll, ln, hs, kf, ld, dt, dc)) (hN : σ.2 = none) (hQ : ∀ i j : Nat, i < 7 → j < 7 → zQ X i = zQ X j → i = j) (p1 : Int32) : zSem X x mX9_relaxedLength yX9_relaxedLength mX10_relaxedLength yX10_relaxedLength [.int p1] [("java/lang/IndexOutOfBoundsException", 1), ("java/lang/IllegalStateException", 2)] σ := by
  have gA : zGd A := hL.1
  have gS : zGd S := hL.2.1
  have hm8 : m ≤ 8 := hL.2.2.1
  have gU : ∀ t, t < m → zGd (U t) := hL.2.2.2.1
  have hn60 : n ≤ 60 := hL.2.2.2.2.1
  have hll : ll ≤ 400 := hL.2.2.2.2.2.1
  have hln : ∀ k, k < ll → narrow .char (.int (ln k)) = .int (ln k) := hL.2.2.2.2.2.2.1
  have hkf : kf = -1 ∨ 0 ≤ kf := hL.2.2.2.2.2.2.2.1
  have hdd : ld = 0 → dc = 0 := hL.2.2.2.2.2.2.2.2
  have hK' : zKt x A S m U n T ll ln hs kf ld dt dc σ := hK
  have hA := gA.1
  have hC8 := hA.1
  have hP8 := hA.2.1
  have wU : ∀ t, t < m → zDw (U t) := fun t ht => (gU t ht).1
  have eN : mN 0 m = min (m + 1) 8 := if_pos rfl
  have eU : UN 0 A U = zPu A U := if_pos rfl
  by_cases c1 : ¬ p1 < 0 ∧ p1 < nI (kC A)
  · obtain ⟨i, hi, rfl⟩ := zcas (by omega) c1
    have n16 := (hA.2.2 i (by omega)).1
    rcases hO : zRn 2000 [] (zWd A i) with _ | q
    · refine zSem_no (p' := (A, S, m, U, n, T, ll, ln, hs, kf, ld, dt, dc)) "java/lang/IllegalStateException" 2 hM (by decide) ?_ ?_ ?_ ?_ hL (qX9_relaxedLengthN hX hK' hA hi hO hN) (fun t ht => by obtain ⟨tm, dn, K, hm⟩ := ht; have hm' : zMo (x + 261) 0 tm cd dn K A S m U n T ll ln hs kf ld dt dc t := hm; exact zMet.mq (p := (A, S, m, U, n, T, ll, ln, hs, kf, ld, dt, dc)) (R := fun _ => True) (qX10_relaxedLengthN hX hm' gA hi hO)) <;> decide
    · refine zSem_ok (p' := (A, S, m, U, n, T, ll, ln, hs, kf, ld, dt, dc)) hM ?_ ?_ ?_ ?_ hL (qX9_relaxedLength hX hK' hA hi hO) (fun t ht => by obtain ⟨tm, dn, K, hm⟩ := ht; have hm' : zMo (x + 261) 0 tm cd dn K A S m U n T ll ln hs kf ld dt dc t := hm; exact zMet.mq (p := (A, S, m, U, n, T, ll, ln, hs, kf, ld, dt, dc)) (qX10_relaxedLength hX hm' gA hi hO)) <;> decide
  · refine zSem_no (p' := (A, S, m, U, n, T, ll, ln, hs, kf, ld, dt, dc)) "java/lang/IndexOutOfBoundsException" 1 hM (by decide) ?_ ?_ ?_ ?_ hL (zMet.px hK (qX9_relaxedLengthX hX hK' hA c1 hN)) (fun t ht => by obtain ⟨tm, dn, K, hm⟩ := ht; have hm' : zMo (x + 261) 0 tm cd dn K A S m U n T ll ln hs kf ld dt dc t := hm; exact zMet.mq (p := (A, S, m, U, n, T, ll, ln, hs, kf, ld, dt, dc)) (R := fun _ => True) (qX10_relaxedLengthX hX hm' gA c1)) <;> decide
set_option maxRecDepth 100000 in
theorem sem_isTrivial {X : zX} (hX : X.1.stackTraces = false) {σ : zS} {x : Nat} {A S : zDk} {m : Nat} {U : Nat → zDk} {n : Nat} {T : Nat → Int32} {ll : Nat} {ln : Nat → Int32} {hs kf ld dt dc : Int32} {cd : Int32} (hK : zKp x (A, S, m, U, n, T, ll, ln, hs, kf, ld, dt, dc) σ) (hM : zMp (x + 261) cd (A, S, m, U, n, T, ll, ln, hs, kf, ld, dt, dc) σ) (hL : zLv (A, S, m, U, n, T, ll, ln, hs, kf, ld, dt, dc)) (hN : σ.2 = none) (hQ : ∀ i j : Nat, i < 7 → j < 7 → zQ X i = zQ X j → i = j) (p1 : Int32) : zSem X x mX9_isTrivial yX9_isTrivial mX10_isTrivial yX10_isTrivial [.int p1] [("java/lang/IndexOutOfBoundsException", 1), ("java/lang/IllegalStateException", 2)] σ := by
  have gA : zGd A := hL.1
  have gS : zGd S := hL.2.1
  have hm8 : m ≤ 8 := hL.2.2.1
  have gU : ∀ t, t < m → zGd (U t) := hL.2.2.2.1
  have hn60 : n ≤ 60 := hL.2.2.2.2.1
  have hll : ll ≤ 400 := hL.2.2.2.2.2.1
  have hln : ∀ k, k < ll → narrow .char (.int (ln k)) = .int (ln k) := hL.2.2.2.2.2.2.1
  have hkf : kf = -1 ∨ 0 ≤ kf := hL.2.2.2.2.2.2.2.1
  have hdd : ld = 0 → dc = 0 := hL.2.2.2.2.2.2.2.2
  have hK' : zKt x A S m U n T ll ln hs kf ld dt dc σ := hK
  have hA := gA.1
  have hC8 := hA.1
  have hP8 := hA.2.1
  have wU : ∀ t, t < m → zDw (U t) := fun t ht => (gU t ht).1
  have eN : mN 0 m = min (m + 1) 8 := if_pos rfl
  have eU : UN 0 A U = zPu A U := if_pos rfl
  by_cases c1 : ¬ p1 < 0 ∧ p1 < nI (kC A)
  · obtain ⟨i, hi, rfl⟩ := zcas (by omega) c1
    have n16 := (hA.2.2 i (by omega)).1
    rcases hO : zRn 2000 [] (zWd A i) with _ | q
    · refine zSem_no (p' := (A, S, m, U, n, T, ll, ln, hs, kf, ld, dt, dc)) "java/lang/IllegalStateException" 2 hM (by decide) ?_ ?_ ?_ ?_ hL (qX9_isTrivialN hX hK' hA hi hO hN) (fun t ht => by obtain ⟨tm, dn, K, hm⟩ := ht; have hm' : zMo (x + 261) 0 tm cd dn K A S m U n T ll ln hs kf ld dt dc t := hm; exact zMet.mq (p := (A, S, m, U, n, T, ll, ln, hs, kf, ld, dt, dc)) (R := fun _ => True) (qX10_isTrivialN hX hm' gA hi hO)) <;> decide
    · refine zSem_ok (p' := (A, S, m, U, n, T, ll, ln, hs, kf, ld, dt, dc)) hM ?_ ?_ ?_ ?_ hL (qX9_isTrivial hX hK' hA hi hO) (fun t ht => by obtain ⟨tm, dn, K, hm⟩ := ht; have hm' : zMo (x + 261) 0 tm cd dn K A S m U n T ll ln hs kf ld dt dc t := hm; exact zMet.mq (p := (A, S, m, U, n, T, ll, ln, hs, kf, ld, dt, dc)) (qX10_isTrivial hX hm' gA hi hO)) <;> decide
  · refine zSem_no (p' := (A, S, m, U, n, T, ll, ln, hs, kf, ld, dt, dc)) "java/lang/IndexOutOfBoundsException" 1 hM (by decide) ?_ ?_ ?_ ?_ hL (zMet.px hK (qX9_isTrivialX hX hK' hA c1 hN)) (fun t ht => by obtain ⟨tm, dn, K, hm⟩ := ht; have hm' : zMo (x + 261) 0 tm cd dn K A S m U n T ll ln hs kf ld dt dc t := hm; exact zMet.mq (p := (A, S, m, U, n, T, ll, ln, hs, kf, ld, dt, dc)) (R := fun _ => True) (qX10_isTrivialX hX hm' gA c1)) <;> decide
set_option maxRecDepth 100000 in
theorem sem_areEqual {X : zX} (hX : X.1.stackTraces = false) {σ : zS} {x : Nat} {A S : zDk} {m : Nat} {U : Nat → zDk} {n : Nat} {T : Nat → Int32} {ll : Nat} {ln : Nat → Int32} {hs kf ld dt dc : Int32} {cd : Int32} (hK : zKp x (A, S, m, U, n, T, ll, ln, hs, kf, ld, dt, dc) σ) (hM : zMp (x + 261) cd (A, S, m, U, n, T, ll, ln, hs, kf, ld, dt, dc) σ) (hL : zLv (A, S, m, U, n, T, ll, ln, hs, kf, ld, dt, dc)) (hN : σ.2 = none) (hQ : ∀ i j : Nat, i < 7 → j < 7 → zQ X i = zQ X j → i = j) (p1 p2 : Int32) : zSem X x mX9_areEqual yX9_areEqual mX10_areEqual yX10_areEqual [.int p1, .int p2] [("java/lang/IndexOutOfBoundsException", 1), ("java/lang/IllegalStateException", 2)] σ := by
  have gA : zGd A := hL.1
  have gS : zGd S := hL.2.1
  have hm8 : m ≤ 8 := hL.2.2.1
  have gU : ∀ t, t < m → zGd (U t) := hL.2.2.2.1
  have hn60 : n ≤ 60 := hL.2.2.2.2.1
  have hll : ll ≤ 400 := hL.2.2.2.2.2.1
  have hln : ∀ k, k < ll → narrow .char (.int (ln k)) = .int (ln k) := hL.2.2.2.2.2.2.1
  have hkf : kf = -1 ∨ 0 ≤ kf := hL.2.2.2.2.2.2.2.1
  have hdd : ld = 0 → dc = 0 := hL.2.2.2.2.2.2.2.2
  have hK' : zKt x A S m U n T ll ln hs kf ld dt dc σ := hK
  have hA := gA.1
  have hC8 := hA.1
  have hP8 := hA.2.1
  have wU : ∀ t, t < m → zDw (U t) := fun t ht => (gU t ht).1
  have eN : mN 0 m = min (m + 1) 8 := if_pos rfl
  have eU : UN 0 A U = zPu A U := if_pos rfl
  by_cases c1 : ¬ p1 < 0 ∧ p1 < nI (kC A)
  · obtain ⟨i, hi, rfl⟩ := zcas (by omega) c1
    have n16 := (hA.2.2 i (by omega)).1
    by_cases c2 : ¬ p2 < 0 ∧ p2 < nI (kC A)
    · obtain ⟨j, hj, rfl⟩ := zcas (by omega) c2
      rcases hO : zRn 2000 [] (zWq A i j) with _ | q
      · refine zSem_no (p' := (A, S, m, U, n, T, ll, ln, hs, kf, ld, dt, dc)) "java/lang/IllegalStateException" 2 hM (by decide) ?_ ?_ ?_ ?_ hL (qX9_areEqualN hX hK' hA hi hj hO hN) (fun t ht => by obtain ⟨tm, dn, K, hm⟩ := ht; have hm' : zMo (x + 261) 0 tm cd dn K A S m U n T ll ln hs kf ld dt dc t := hm; exact zMet.mq (p := (A, S, m, U, n, T, ll, ln, hs, kf, ld, dt, dc)) (R := fun _ => True) (qX10_areEqualN hX hm' gA hi hj hO)) <;> decide
      · refine zSem_ok (p' := (A, S, m, U, n, T, ll, ln, hs, kf, ld, dt, dc)) hM ?_ ?_ ?_ ?_ hL (qX9_areEqual hX hK' hA hi hj hO) (fun t ht => by obtain ⟨tm, dn, K, hm⟩ := ht; have hm' : zMo (x + 261) 0 tm cd dn K A S m U n T ll ln hs kf ld dt dc t := hm; exact zMet.mq (p := (A, S, m, U, n, T, ll, ln, hs, kf, ld, dt, dc)) (qX10_areEqual hX hm' gA hi hj hO)) <;> decide
    · refine zSem_no (p' := (A, S, m, U, n, T, ll, ln, hs, kf, ld, dt, dc)) "java/lang/IndexOutOfBoundsException" 1 hM (by decide) ?_ ?_ ?_ ?_ hL (zMet.px hK (qX9_areEqualX2 hX hK' hA hi c2 hN)) (fun t ht => by obtain ⟨tm, dn, K, hm⟩ := ht; have hm' : zMo (x + 261) 0 tm cd dn K A S m U n T ll ln hs kf ld dt dc t := hm; exact zMet.mq (p := (A, S, m, U, n, T, ll, ln, hs, kf, ld, dt, dc)) (R := fun _ => True) (qX10_areEqualX2 hX hm' gA hi c2)) <;> decide
  · refine zSem_no (p' := (A, S, m, U, n, T, ll, ln, hs, kf, ld, dt, dc)) "java/lang/IndexOutOfBoundsException" 1 hM (by decide) ?_ ?_ ?_ ?_ hL (zMet.px hK (qX9_areEqualX hX hK' hA c1 hN (p2 := p2))) (fun t ht => by obtain ⟨tm, dn, K, hm⟩ := ht; have hm' : zMo (x + 261) 0 tm cd dn K A S m U n T ll ln hs kf ld dt dc t := hm; exact zMet.mq (p := (A, S, m, U, n, T, ll, ln, hs, kf, ld, dt, dc)) (R := fun _ => True) (qX10_areEqualX hX hm' gA c1 (p2 := p2))) <;> decide
set_option maxRecDepth 100000 in
theorem sem_compare {X : zX} (hX : X.1.stackTraces = false) {σ : zS} {x : Nat} {A S : zDk} {m : Nat} {U : Nat → zDk} {n : Nat} {T : Nat → Int32} {ll : Nat} {ln : Nat → Int32} {hs kf ld dt dc : Int32} {cd : Int32} (hK : zKp x (A, S, m, U, n, T, ll, ln, hs, kf, ld, dt, dc) σ) (hM : zMp (x + 261) cd (A, S, m, U, n, T, ll, ln, hs, kf, ld, dt, dc) σ) (hL : zLv (A, S, m, U, n, T, ll, ln, hs, kf, ld, dt, dc)) (hN : σ.2 = none) (hQ : ∀ i j : Nat, i < 7 → j < 7 → zQ X i = zQ X j → i = j) (p1 p2 : Int32) : zSem X x mX9_compare yX9_compare mX10_compare yX10_compare [.int p1, .int p2] [("java/lang/IndexOutOfBoundsException", 1), ("java/lang/IllegalStateException", 2)] σ := by
  have gA : zGd A := hL.1
  have gS : zGd S := hL.2.1
  have hm8 : m ≤ 8 := hL.2.2.1
  have gU : ∀ t, t < m → zGd (U t) := hL.2.2.2.1
  have hn60 : n ≤ 60 := hL.2.2.2.2.1
  have hll : ll ≤ 400 := hL.2.2.2.2.2.1
  have hln : ∀ k, k < ll → narrow .char (.int (ln k)) = .int (ln k) := hL.2.2.2.2.2.2.1
  have hkf : kf = -1 ∨ 0 ≤ kf := hL.2.2.2.2.2.2.2.1
  have hdd : ld = 0 → dc = 0 := hL.2.2.2.2.2.2.2.2
  have hK' : zKt x A S m U n T ll ln hs kf ld dt dc σ := hK
  have hA := gA.1
  have hC8 := hA.1
  have hP8 := hA.2.1
  have wU : ∀ t, t < m → zDw (U t) := fun t ht => (gU t ht).1
  have eN : mN 0 m = min (m + 1) 8 := if_pos rfl
  have eU : UN 0 A U = zPu A U := if_pos rfl
  by_cases c1 : ¬ p1 < 0 ∧ p1 < nI (kC A)
  · obtain ⟨i, hi, rfl⟩ := zcas (by omega) c1
    have n16 := (hA.2.2 i (by omega)).1
    by_cases c2 : ¬ p2 < 0 ∧ p2 < nI (kC A)
    · obtain ⟨j, hj, rfl⟩ := zcas (by omega) c2
      rcases hO : zRn 2000 [] (zWq A i j) with _ | q
      · refine zSem_no (p' := (A, S, m, U, n, T, ll, ln, hs, kf, ld, dt, dc)) "java/lang/IllegalStateException" 2 hM (by decide) ?_ ?_ ?_ ?_ hL (qX9_compareN hX hK' hA hi hj hO hN) (fun t ht => by obtain ⟨tm, dn, K, hm⟩ := ht; have hm' : zMo (x + 261) 0 tm cd dn K A S m U n T ll ln hs kf ld dt dc t := hm; exact zMet.mq (p := (A, S, m, U, n, T, ll, ln, hs, kf, ld, dt, dc)) (R := fun _ => True) (qX10_compareN hX hm' gA hi hj hO)) <;> decide
      · refine zSem_ok (p' := (A, S, m, U, n, T, ll, ln, hs, kf, ld, dt, dc)) hM ?_ ?_ ?_ ?_ hL (qX9_compare hX hK' hA hi hj hO) (fun t ht => by obtain ⟨tm, dn, K, hm⟩ := ht; have hm' : zMo (x + 261) 0 tm cd dn K A S m U n T ll ln hs kf ld dt dc t := hm; exact zMet.mq (p := (A, S, m, U, n, T, ll, ln, hs, kf, ld, dt, dc)) (qX10_compare hX hm' gA hi hj hO)) <;> decide
    · refine zSem_no (p' := (A, S, m, U, n, T, ll, ln, hs, kf, ld, dt, dc)) "java/lang/IndexOutOfBoundsException" 1 hM (by decide) ?_ ?_ ?_ ?_ hL (zMet.px hK (qX9_compareX2 hX hK' hA hi c2 hN)) (fun t ht => by obtain ⟨tm, dn, K, hm⟩ := ht; have hm' : zMo (x + 261) 0 tm cd dn K A S m U n T ll ln hs kf ld dt dc t := hm; exact zMet.mq (p := (A, S, m, U, n, T, ll, ln, hs, kf, ld, dt, dc)) (R := fun _ => True) (qX10_compareX2 hX hm' gA hi c2)) <;> decide
  · refine zSem_no (p' := (A, S, m, U, n, T, ll, ln, hs, kf, ld, dt, dc)) "java/lang/IndexOutOfBoundsException" 1 hM (by decide) ?_ ?_ ?_ ?_ hL (zMet.px hK (qX9_compareX hX hK' hA c1 hN (p2 := p2))) (fun t ht => by obtain ⟨tm, dn, K, hm⟩ := ht; have hm' : zMo (x + 261) 0 tm cd dn K A S m U n T ll ln hs kf ld dt dc t := hm; exact zMet.mq (p := (A, S, m, U, n, T, ll, ln, hs, kf, ld, dt, dc)) (R := fun _ => True) (qX10_compareX hX hm' gA c1 (p2 := p2))) <;> decide
set_option maxRecDepth 100000 in
theorem sem_areEqualByCoordinates {X : zX} (hX : X.1.stackTraces = false) {σ : zS} {x : Nat} {A S : zDk} {m : Nat} {U : Nat → zDk} {n : Nat} {T : Nat → Int32} {ll : Nat} {ln : Nat → Int32} {hs kf ld dt dc : Int32} {cd : Int32} (hK : zKp x (A, S, m, U, n, T, ll, ln, hs, kf, ld, dt, dc) σ) (hM : zMp (x + 261) cd (A, S, m, U, n, T, ll, ln, hs, kf, ld, dt, dc) σ) (hL : zLv (A, S, m, U, n, T, ll, ln, hs, kf, ld, dt, dc)) (hN : σ.2 = none) (hQ : ∀ i j : Nat, i < 7 → j < 7 → zQ X i = zQ X j → i = j) (p1 p2 : Int32) : zSem X x mX9_areEqualByCoordinates yX9_areEqualByCoordinates mX10_areEqualByCoordinates yX10_areEqualByCoordinates [.int p1, .int p2] [("java/lang/IndexOutOfBoundsException", 1)] σ := by
  have gA : zGd A := hL.1
  have gS : zGd S := hL.2.1
  have hm8 : m ≤ 8 := hL.2.2.1
  have gU : ∀ t, t < m → zGd (U t) := hL.2.2.2.1
  have hn60 : n ≤ 60 := hL.2.2.2.2.1
  have hll : ll ≤ 400 := hL.2.2.2.2.2.1
  have hln : ∀ k, k < ll → narrow .char (.int (ln k)) = .int (ln k) := hL.2.2.2.2.2.2.1
  have hkf : kf = -1 ∨ 0 ≤ kf := hL.2.2.2.2.2.2.2.1
  have hdd : ld = 0 → dc = 0 := hL.2.2.2.2.2.2.2.2
  have hK' : zKt x A S m U n T ll ln hs kf ld dt dc σ := hK
  have hA := gA.1
  have hC8 := hA.1
  have hP8 := hA.2.1
  have wU : ∀ t, t < m → zDw (U t) := fun t ht => (gU t ht).1
  have eN : mN 0 m = min (m + 1) 8 := if_pos rfl
  have eU : UN 0 A U = zPu A U := if_pos rfl
  by_cases c1 : ¬ p1 < 0 ∧ p1 < nI (kC A)
  · obtain ⟨i, hi, rfl⟩ := zcas (by omega) c1
    have n16 := (hA.2.2 i (by omega)).1
    by_cases c2 : ¬ p2 < 0 ∧ p2 < nI (kC A)
    · obtain ⟨j, hj, rfl⟩ := zcas (by omega) c2
      refine zSem_ok (p' := (A, S, m, U, n, T, ll, ln, hs, kf, ld, dt, dc)) hM ?_ ?_ ?_ ?_ hL (qX9_areEqualByCoordinates hX hK' hA hi hj) (fun t ht => by obtain ⟨tm, dn, K, hm⟩ := ht; have hm' : zMo (x + 261) 0 tm cd dn K A S m U n T ll ln hs kf ld dt dc t := hm; exact zMet.mq (p := (A, S, m, U, n, T, ll, ln, hs, kf, ld, dt, dc)) (qX10_areEqualByCoordinates hX hm' gA hi hj)) <;> decide
    · refine zSem_no (p' := (A, S, m, U, n, T, ll, ln, hs, kf, ld, dt, dc)) "java/lang/IndexOutOfBoundsException" 1 hM (by decide) ?_ ?_ ?_ ?_ hL (zMet.px hK (qX9_areEqualByCoordinatesX2 hX hK' hA hi c2 hN)) (fun t ht => by obtain ⟨tm, dn, K, hm⟩ := ht; have hm' : zMo (x + 261) 0 tm cd dn K A S m U n T ll ln hs kf ld dt dc t := hm; exact zMet.mq (p := (A, S, m, U, n, T, ll, ln, hs, kf, ld, dt, dc)) (R := fun _ => True) (qX10_areEqualByCoordinatesX2 hX hm' gA hi c2)) <;> decide
  · refine zSem_no (p' := (A, S, m, U, n, T, ll, ln, hs, kf, ld, dt, dc)) "java/lang/IndexOutOfBoundsException" 1 hM (by decide) ?_ ?_ ?_ ?_ hL (zMet.px hK (qX9_areEqualByCoordinatesX hX hK' hA c1 hN (p2 := p2))) (fun t ht => by obtain ⟨tm, dn, K, hm⟩ := ht; have hm' : zMo (x + 261) 0 tm cd dn K A S m U n T ll ln hs kf ld dt dc t := hm; exact zMet.mq (p := (A, S, m, U, n, T, ll, ln, hs, kf, ld, dt, dc)) (R := fun _ => True) (qX10_areEqualByCoordinatesX hX hm' gA c1 (p2 := p2))) <;> decide
set_option maxRecDepth 100000 in
theorem sem_compareByCoordinates {X : zX} (hX : X.1.stackTraces = false) {σ : zS} {x : Nat} {A S : zDk} {m : Nat} {U : Nat → zDk} {n : Nat} {T : Nat → Int32} {ll : Nat} {ln : Nat → Int32} {hs kf ld dt dc : Int32} {cd : Int32} (hK : zKp x (A, S, m, U, n, T, ll, ln, hs, kf, ld, dt, dc) σ) (hM : zMp (x + 261) cd (A, S, m, U, n, T, ll, ln, hs, kf, ld, dt, dc) σ) (hL : zLv (A, S, m, U, n, T, ll, ln, hs, kf, ld, dt, dc)) (hN : σ.2 = none) (hQ : ∀ i j : Nat, i < 7 → j < 7 → zQ X i = zQ X j → i = j) (p1 p2 : Int32) : zSem X x mX9_compareByCoordinates yX9_compareByCoordinates mX10_compareByCoordinates yX10_compareByCoordinates [.int p1, .int p2] [("java/lang/IndexOutOfBoundsException", 1)] σ := by
  have gA : zGd A := hL.1
  have gS : zGd S := hL.2.1
  have hm8 : m ≤ 8 := hL.2.2.1
  have gU : ∀ t, t < m → zGd (U t) := hL.2.2.2.1
  have hn60 : n ≤ 60 := hL.2.2.2.2.1
  have hll : ll ≤ 400 := hL.2.2.2.2.2.1
  have hln : ∀ k, k < ll → narrow .char (.int (ln k)) = .int (ln k) := hL.2.2.2.2.2.2.1
  have hkf : kf = -1 ∨ 0 ≤ kf := hL.2.2.2.2.2.2.2.1
  have hdd : ld = 0 → dc = 0 := hL.2.2.2.2.2.2.2.2
  have hK' : zKt x A S m U n T ll ln hs kf ld dt dc σ := hK
  have hA := gA.1
  have hC8 := hA.1
  have hP8 := hA.2.1
  have wU : ∀ t, t < m → zDw (U t) := fun t ht => (gU t ht).1
  have eN : mN 0 m = min (m + 1) 8 := if_pos rfl
  have eU : UN 0 A U = zPu A U := if_pos rfl
  by_cases c1 : ¬ p1 < 0 ∧ p1 < nI (kC A)
  · obtain ⟨i, hi, rfl⟩ := zcas (by omega) c1
    have n16 := (hA.2.2 i (by omega)).1
    by_cases c2 : ¬ p2 < 0 ∧ p2 < nI (kC A)
    · obtain ⟨j, hj, rfl⟩ := zcas (by omega) c2
      refine zSem_ok (p' := (A, S, m, U, n, T, ll, ln, hs, kf, ld, dt, dc)) hM ?_ ?_ ?_ ?_ hL (qX9_compareByCoordinates hX hK' hA hi hj) (fun t ht => by obtain ⟨tm, dn, K, hm⟩ := ht; have hm' : zMo (x + 261) 0 tm cd dn K A S m U n T ll ln hs kf ld dt dc t := hm; exact zMet.mq (p := (A, S, m, U, n, T, ll, ln, hs, kf, ld, dt, dc)) (qX10_compareByCoordinates hX hm' gA hi hj)) <;> decide
    · refine zSem_no (p' := (A, S, m, U, n, T, ll, ln, hs, kf, ld, dt, dc)) "java/lang/IndexOutOfBoundsException" 1 hM (by decide) ?_ ?_ ?_ ?_ hL (zMet.px hK (qX9_compareByCoordinatesX2 hX hK' hA hi c2 hN)) (fun t ht => by obtain ⟨tm, dn, K, hm⟩ := ht; have hm' : zMo (x + 261) 0 tm cd dn K A S m U n T ll ln hs kf ld dt dc t := hm; exact zMet.mq (p := (A, S, m, U, n, T, ll, ln, hs, kf, ld, dt, dc)) (R := fun _ => True) (qX10_compareByCoordinatesX2 hX hm' gA hi c2)) <;> decide
  · refine zSem_no (p' := (A, S, m, U, n, T, ll, ln, hs, kf, ld, dt, dc)) "java/lang/IndexOutOfBoundsException" 1 hM (by decide) ?_ ?_ ?_ ?_ hL (zMet.px hK (qX9_compareByCoordinatesX hX hK' hA c1 hN (p2 := p2))) (fun t ht => by obtain ⟨tm, dn, K, hm⟩ := ht; have hm' : zMo (x + 261) 0 tm cd dn K A S m U n T ll ln hs kf ld dt dc t := hm; exact zMet.mq (p := (A, S, m, U, n, T, ll, ln, hs, kf, ld, dt, dc)) (R := fun _ => True) (qX10_compareByCoordinatesX hX hm' gA c1 (p2 := p2))) <;> decide
set_option maxRecDepth 100000 in
theorem sem_caseByBraid {X : zX} (hX : X.1.stackTraces = false) {σ : zS} {x : Nat} {A S : zDk} {m : Nat} {U : Nat → zDk} {n : Nat} {T : Nat → Int32} {ll : Nat} {ln : Nat → Int32} {hs kf ld dt dc : Int32} {cd : Int32} (hK : zKp x (A, S, m, U, n, T, ll, ln, hs, kf, ld, dt, dc) σ) (hM : zMp (x + 261) cd (A, S, m, U, n, T, ll, ln, hs, kf, ld, dt, dc) σ) (hL : zLv (A, S, m, U, n, T, ll, ln, hs, kf, ld, dt, dc)) (hN : σ.2 = none) (hQ : ∀ i j : Nat, i < 7 → j < 7 → zQ X i = zQ X j → i = j) (p1 : Int32) : zSem X x mX9_caseByBraid yX9_caseByBraid mX10_caseByBraid yX10_caseByBraid [.int p1] [("java/util/NoSuchElementException", 1)] σ := by
  have gA : zGd A := hL.1
  have gS : zGd S := hL.2.1
  have hm8 : m ≤ 8 := hL.2.2.1
  have gU : ∀ t, t < m → zGd (U t) := hL.2.2.2.1
  have hn60 : n ≤ 60 := hL.2.2.2.2.1
  have hll : ll ≤ 400 := hL.2.2.2.2.2.1
  have hln : ∀ k, k < ll → narrow .char (.int (ln k)) = .int (ln k) := hL.2.2.2.2.2.2.1
  have hkf : kf = -1 ∨ 0 ≤ kf := hL.2.2.2.2.2.2.2.1
  have hdd : ld = 0 → dc = 0 := hL.2.2.2.2.2.2.2.2
  have hK' : zKt x A S m U n T ll ln hs kf ld dt dc σ := hK
  have hA := gA.1
  have hC8 := hA.1
  have hP8 := hA.2.1
  have wU : ∀ t, t < m → zDw (U t) := fun t ht => (gU t ht).1
  have eN : mN 0 m = min (m + 1) 8 := if_pos rfl
  have eU : UN 0 A U = zPu A U := if_pos rfl
  by_cases hz : zCk A p1 0 (kC A) = -1
  · refine zSem_no (p' := (A, S, m, U, n, T, ll, ln, hs, kf, ld, dt, dc)) "java/util/NoSuchElementException" 1 hM (by decide) ?_ ?_ ?_ ?_ hL (qX9_caseByBraidN hX hK' hA hz hN) (fun t ht => by obtain ⟨tm, dn, K, hm⟩ := ht; have hm' : zMo (x + 261) 0 tm cd dn K A S m U n T ll ln hs kf ld dt dc t := hm; exact zMet.mq (p := (A, S, m, U, n, T, ll, ln, hs, kf, ld, dt, dc)) (R := fun _ => True) (qX10_caseByBraidN hX hm' gA (zqs_self hA) hz)) <;> decide
  · refine zSem_ok (p' := (A, S, m, U, n, T, ll, ln, hs, kf, ld, dt, dc)) hM ?_ ?_ ?_ ?_ hL (qX9_caseByBraid hX hK' hA hz) (fun t ht => by obtain ⟨tm, dn, K, hm⟩ := ht; have hm' : zMo (x + 261) 0 tm cd dn K A S m U n T ll ln hs kf ld dt dc t := hm; exact zMet.mq (p := (A, S, m, U, n, T, ll, ln, hs, kf, ld, dt, dc)) (qX10_caseByBraid hX hm' gA (zqs_self hA) hz)) <;> decide
set_option maxRecDepth 100000 in
theorem sem_precedentOf {X : zX} (hX : X.1.stackTraces = false) {σ : zS} {x : Nat} {A S : zDk} {m : Nat} {U : Nat → zDk} {n : Nat} {T : Nat → Int32} {ll : Nat} {ln : Nat → Int32} {hs kf ld dt dc : Int32} {cd : Int32} (hK : zKp x (A, S, m, U, n, T, ll, ln, hs, kf, ld, dt, dc) σ) (hM : zMp (x + 261) cd (A, S, m, U, n, T, ll, ln, hs, kf, ld, dt, dc) σ) (hL : zLv (A, S, m, U, n, T, ll, ln, hs, kf, ld, dt, dc)) (hN : σ.2 = none) (hQ : ∀ i j : Nat, i < 7 → j < 7 → zQ X i = zQ X j → i = j) (p1 : Int32) : zSem X x mX9_precedentOf yX9_precedentOf mX10_precedentOf yX10_precedentOf [.int p1] [("java/lang/IndexOutOfBoundsException", 1), ("java/util/NoSuchElementException", 2)] σ := by
  have gA : zGd A := hL.1
  have gS : zGd S := hL.2.1
  have hm8 : m ≤ 8 := hL.2.2.1
  have gU : ∀ t, t < m → zGd (U t) := hL.2.2.2.1
  have hn60 : n ≤ 60 := hL.2.2.2.2.1
  have hll : ll ≤ 400 := hL.2.2.2.2.2.1
  have hln : ∀ k, k < ll → narrow .char (.int (ln k)) = .int (ln k) := hL.2.2.2.2.2.2.1
  have hkf : kf = -1 ∨ 0 ≤ kf := hL.2.2.2.2.2.2.2.1
  have hdd : ld = 0 → dc = 0 := hL.2.2.2.2.2.2.2.2
  have hK' : zKt x A S m U n T ll ln hs kf ld dt dc σ := hK
  have hA := gA.1
  have hC8 := hA.1
  have hP8 := hA.2.1
  have wU : ∀ t, t < m → zDw (U t) := fun t ht => (gU t ht).1
  have eN : mN 0 m = min (m + 1) 8 := if_pos rfl
  have eU : UN 0 A U = zPu A U := if_pos rfl
  by_cases c1 : ¬ p1 < 0 ∧ p1 < nI (kC A)
  · obtain ⟨i, hi, rfl⟩ := zcas (by omega) c1
    have n16 := (hA.2.2 i (by omega)).1
    by_cases hr : kR A i = -1
    · refine zSem_no (p' := (A, S, m, U, n, T, ll, ln, hs, kf, ld, dt, dc)) "java/util/NoSuchElementException" 2 hM (by decide) ?_ ?_ ?_ ?_ hL (zMet.px hK (qX9_precedentOfN hX hK' hA hi hr hN)) (fun t ht => by obtain ⟨tm, dn, K, hm⟩ := ht; have hm' : zMo (x + 261) 0 tm cd dn K A S m U n T ll ln hs kf ld dt dc t := hm; exact zMet.mq (p := (A, S, m, U, n, T, ll, ln, hs, kf, ld, dt, dc)) (R := fun _ => True) (qX10_precedentOfN hX hm' gA hi hr)) <;> decide
    · refine zSem_ok (p' := (A, S, m, U, n, T, ll, ln, hs, kf, ld, dt, dc)) hM ?_ ?_ ?_ ?_ hL (zMet.pu hK (qX9_precedentOf hX hK' hA hi hr)) (fun t ht => by obtain ⟨tm, dn, K, hm⟩ := ht; have hm' : zMo (x + 261) 0 tm cd dn K A S m U n T ll ln hs kf ld dt dc t := hm; exact zMet.mq (p := (A, S, m, U, n, T, ll, ln, hs, kf, ld, dt, dc)) (qX10_precedentOf hX hm' gA hi hr)) <;> decide
  · refine zSem_no (p' := (A, S, m, U, n, T, ll, ln, hs, kf, ld, dt, dc)) "java/lang/IndexOutOfBoundsException" 1 hM (by decide) ?_ ?_ ?_ ?_ hL (zMet.px hK (qX9_precedentOfX hX hK' hA c1 hN)) (fun t ht => by obtain ⟨tm, dn, K, hm⟩ := ht; have hm' : zMo (x + 261) 0 tm cd dn K A S m U n T ll ln hs kf ld dt dc t := hm; exact zMet.mq (p := (A, S, m, U, n, T, ll, ln, hs, kf, ld, dt, dc)) (R := fun _ => True) (qX10_precedentOfX hX hm' gA c1)) <;> decide
set_option maxRecDepth 100000 in
theorem sem_findPrecedent {X : zX} (hX : X.1.stackTraces = false) {σ : zS} {x : Nat} {A S : zDk} {m : Nat} {U : Nat → zDk} {n : Nat} {T : Nat → Int32} {ll : Nat} {ln : Nat → Int32} {hs kf ld dt dc : Int32} {cd : Int32} (hK : zKp x (A, S, m, U, n, T, ll, ln, hs, kf, ld, dt, dc) σ) (hM : zMp (x + 261) cd (A, S, m, U, n, T, ll, ln, hs, kf, ld, dt, dc) σ) (hL : zLv (A, S, m, U, n, T, ll, ln, hs, kf, ld, dt, dc)) (hN : σ.2 = none) (hQ : ∀ i j : Nat, i < 7 → j < 7 → zQ X i = zQ X j → i = j) (p1 : Int32) : zSem X x mX9_findPrecedent yX9_findPrecedent mX10_findPrecedent yX10_findPrecedent [.int p1] [("java/lang/IndexOutOfBoundsException", 1), ("java/util/NoSuchElementException", 2)] σ := by
  have gA : zGd A := hL.1
  have gS : zGd S := hL.2.1
  have hm8 : m ≤ 8 := hL.2.2.1
  have gU : ∀ t, t < m → zGd (U t) := hL.2.2.2.1
  have hn60 : n ≤ 60 := hL.2.2.2.2.1
  have hll : ll ≤ 400 := hL.2.2.2.2.2.1
  have hln : ∀ k, k < ll → narrow .char (.int (ln k)) = .int (ln k) := hL.2.2.2.2.2.2.1
  have hkf : kf = -1 ∨ 0 ≤ kf := hL.2.2.2.2.2.2.2.1
  have hdd : ld = 0 → dc = 0 := hL.2.2.2.2.2.2.2.2
  have hK' : zKt x A S m U n T ll ln hs kf ld dt dc σ := hK
  have hA := gA.1
  have hC8 := hA.1
  have hP8 := hA.2.1
  have wU : ∀ t, t < m → zDw (U t) := fun t ht => (gU t ht).1
  have eN : mN 0 m = min (m + 1) 8 := if_pos rfl
  have eU : UN 0 A U = zPu A U := if_pos rfl
  by_cases c1 : ¬ p1 < 0 ∧ p1 < nI (kC A)
  · obtain ⟨i, hi, rfl⟩ := zcas (by omega) c1
    have n16 := (hA.2.2 i (by omega)).1
    by_cases hz : zPf A i = -1
    · refine zSem_no (p' := (A, S, m, U, n, T, ll, ln, hs, kf, ld, dt, dc)) "java/util/NoSuchElementException" 2 hM (by decide) ?_ ?_ ?_ ?_ hL (qX9_findPrecedentN hX hK' hA hi hz hN) (fun t ht => by obtain ⟨tm, dn, K, hm⟩ := ht; have hm' : zMo (x + 261) 0 tm cd dn K A S m U n T ll ln hs kf ld dt dc t := hm; exact zMet.mq (p := (A, S, m, U, n, T, ll, ln, hs, kf, ld, dt, dc)) (R := fun _ => True) (qX10_findPrecedentN hX hm' gA hi hz)) <;> decide
    · refine zSem_ok (p' := (A, S, m, U, n, T, ll, ln, hs, kf, ld, dt, dc)) hM ?_ ?_ ?_ ?_ hL (qX9_findPrecedent hX hK' hA hi hz) (fun t ht => by obtain ⟨tm, dn, K, hm⟩ := ht; have hm' : zMo (x + 261) 0 tm cd dn K A S m U n T ll ln hs kf ld dt dc t := hm; exact zMet.mq (p := (A, S, m, U, n, T, ll, ln, hs, kf, ld, dt, dc)) (qX10_findPrecedent hX hm' gA hi hz)) <;> decide
  · refine zSem_no (p' := (A, S, m, U, n, T, ll, ln, hs, kf, ld, dt, dc)) "java/lang/IndexOutOfBoundsException" 1 hM (by decide) ?_ ?_ ?_ ?_ hL (zMet.px hK (qX9_findPrecedentX hX hK' hA c1 hN)) (fun t ht => by obtain ⟨tm, dn, K, hm⟩ := ht; have hm' : zMo (x + 261) 0 tm cd dn K A S m U n T ll ln hs kf ld dt dc t := hm; exact zMet.mq (p := (A, S, m, U, n, T, ll, ln, hs, kf, ld, dt, dc)) (R := fun _ => True) (qX10_findPrecedentX hX hm' gA c1)) <;> decide
set_option maxRecDepth 100000 in
theorem sem_isAppealed {X : zX} (hX : X.1.stackTraces = false) {σ : zS} {x : Nat} {A S : zDk} {m : Nat} {U : Nat → zDk} {n : Nat} {T : Nat → Int32} {ll : Nat} {ln : Nat → Int32} {hs kf ld dt dc : Int32} {cd : Int32} (hK : zKp x (A, S, m, U, n, T, ll, ln, hs, kf, ld, dt, dc) σ) (hM : zMp (x + 261) cd (A, S, m, U, n, T, ll, ln, hs, kf, ld, dt, dc) σ) (hL : zLv (A, S, m, U, n, T, ll, ln, hs, kf, ld, dt, dc)) (hN : σ.2 = none) (hQ : ∀ i j : Nat, i < 7 → j < 7 → zQ X i = zQ X j → i = j) (p1 : Int32) : zSem X x mX9_isAppealed yX9_isAppealed mX10_isAppealed yX10_isAppealed [.int p1] [("java/lang/IndexOutOfBoundsException", 1)] σ := by
  have gA : zGd A := hL.1
  have gS : zGd S := hL.2.1
  have hm8 : m ≤ 8 := hL.2.2.1
  have gU : ∀ t, t < m → zGd (U t) := hL.2.2.2.1
  have hn60 : n ≤ 60 := hL.2.2.2.2.1
  have hll : ll ≤ 400 := hL.2.2.2.2.2.1
  have hln : ∀ k, k < ll → narrow .char (.int (ln k)) = .int (ln k) := hL.2.2.2.2.2.2.1
  have hkf : kf = -1 ∨ 0 ≤ kf := hL.2.2.2.2.2.2.2.1
  have hdd : ld = 0 → dc = 0 := hL.2.2.2.2.2.2.2.2
  have hK' : zKt x A S m U n T ll ln hs kf ld dt dc σ := hK
  have hA := gA.1
  have hC8 := hA.1
  have hP8 := hA.2.1
  have wU : ∀ t, t < m → zDw (U t) := fun t ht => (gU t ht).1
  have eN : mN 0 m = min (m + 1) 8 := if_pos rfl
  have eU : UN 0 A U = zPu A U := if_pos rfl
  by_cases c1 : ¬ p1 < 0 ∧ p1 < nI (kP A)
  · obtain ⟨i, hi, rfl⟩ := zcas (by omega) c1
    refine zSem_ok (p' := (A, S, m, U, n, T, ll, ln, hs, kf, ld, dt, dc)) hM ?_ ?_ ?_ ?_ hL (zMet.pu hK (qX9_isAppealed hX hK' hA hi)) (fun t ht => by obtain ⟨tm, dn, K, hm⟩ := ht; have hm' : zMo (x + 261) 0 tm cd dn K A S m U n T ll ln hs kf ld dt dc t := hm; exact zMet.mq (p := (A, S, m, U, n, T, ll, ln, hs, kf, ld, dt, dc)) (qX10_isAppealed hX hm' gA hi)) <;> decide
  · refine zSem_no (p' := (A, S, m, U, n, T, ll, ln, hs, kf, ld, dt, dc)) "java/lang/IndexOutOfBoundsException" 1 hM (by decide) ?_ ?_ ?_ ?_ hL (zMet.px hK (qX9_isAppealedX hX hK' hA c1 hN)) (fun t ht => by obtain ⟨tm, dn, K, hm⟩ := ht; have hm' : zMo (x + 261) 0 tm cd dn K A S m U n T ll ln hs kf ld dt dc t := hm; exact zMet.mq (p := (A, S, m, U, n, T, ll, ln, hs, kf, ld, dt, dc)) (R := fun _ => True) (qX10_isAppealedX hX hm' gA c1)) <;> decide
set_option maxRecDepth 100000 in
theorem sem_casesOn {X : zX} (hX : X.1.stackTraces = false) {σ : zS} {x : Nat} {A S : zDk} {m : Nat} {U : Nat → zDk} {n : Nat} {T : Nat → Int32} {ll : Nat} {ln : Nat → Int32} {hs kf ld dt dc : Int32} {cd : Int32} (hK : zKp x (A, S, m, U, n, T, ll, ln, hs, kf, ld, dt, dc) σ) (hM : zMp (x + 261) cd (A, S, m, U, n, T, ll, ln, hs, kf, ld, dt, dc) σ) (hL : zLv (A, S, m, U, n, T, ll, ln, hs, kf, ld, dt, dc)) (hN : σ.2 = none) (hQ : ∀ i j : Nat, i < 7 → j < 7 → zQ X i = zQ X j → i = j) (p1 : Int32) : zSem X x mX9_casesOn yX9_casesOn mX10_casesOn yX10_casesOn [.int p1] [("java/lang/IndexOutOfBoundsException", 1)] σ := by
  have gA : zGd A := hL.1
  have gS : zGd S := hL.2.1
  have hm8 : m ≤ 8 := hL.2.2.1
  have gU : ∀ t, t < m → zGd (U t) := hL.2.2.2.1
  have hn60 : n ≤ 60 := hL.2.2.2.2.1
  have hll : ll ≤ 400 := hL.2.2.2.2.2.1
  have hln : ∀ k, k < ll → narrow .char (.int (ln k)) = .int (ln k) := hL.2.2.2.2.2.2.1
  have hkf : kf = -1 ∨ 0 ≤ kf := hL.2.2.2.2.2.2.2.1
  have hdd : ld = 0 → dc = 0 := hL.2.2.2.2.2.2.2.2
  have hK' : zKt x A S m U n T ll ln hs kf ld dt dc σ := hK
  have hA := gA.1
  have hC8 := hA.1
  have hP8 := hA.2.1
  have wU : ∀ t, t < m → zDw (U t) := fun t ht => (gU t ht).1
  have eN : mN 0 m = min (m + 1) 8 := if_pos rfl
  have eU : UN 0 A U = zPu A U := if_pos rfl
  by_cases c1 : ¬ p1 < 0 ∧ p1 < nI (kP A)
  · obtain ⟨i, hi, rfl⟩ := zcas (by omega) c1
    refine zSem_ok (p' := (A, S, m, U, n, T, ll, ln, hs, kf, ld, dt, dc)) hM ?_ ?_ ?_ ?_ hL (zMet.pu hK (qX9_casesOn hX hK' hA hi)) (fun t ht => by obtain ⟨tm, dn, K, hm⟩ := ht; have hm' : zMo (x + 261) 0 tm cd dn K A S m U n T ll ln hs kf ld dt dc t := hm; exact zMet.mq (p := (A, S, m, U, n, T, ll, ln, hs, kf, ld, dt, dc)) (qX10_casesOn hX hm' gA hi)) <;> decide
  · refine zSem_no (p' := (A, S, m, U, n, T, ll, ln, hs, kf, ld, dt, dc)) "java/lang/IndexOutOfBoundsException" 1 hM (by decide) ?_ ?_ ?_ ?_ hL (zMet.px hK (qX9_casesOnX hX hK' hA c1 hN)) (fun t ht => by obtain ⟨tm, dn, K, hm⟩ := ht; have hm' : zMo (x + 261) 0 tm cd dn K A S m U n T ll ln hs kf ld dt dc t := hm; exact zMet.mq (p := (A, S, m, U, n, T, ll, ln, hs, kf, ld, dt, dc)) (R := fun _ => True) (qX10_casesOnX hX hm' gA c1)) <;> decide
set_option maxRecDepth 100000 in
theorem sem_faultPosition {X : zX} (hX : X.1.stackTraces = false) {σ : zS} {x : Nat} {A S : zDk} {m : Nat} {U : Nat → zDk} {n : Nat} {T : Nat → Int32} {ll : Nat} {ln : Nat → Int32} {hs kf ld dt dc : Int32} {cd : Int32} (hK : zKp x (A, S, m, U, n, T, ll, ln, hs, kf, ld, dt, dc) σ) (hM : zMp (x + 261) cd (A, S, m, U, n, T, ll, ln, hs, kf, ld, dt, dc) σ) (hL : zLv (A, S, m, U, n, T, ll, ln, hs, kf, ld, dt, dc)) (hN : σ.2 = none) (hQ : ∀ i j : Nat, i < 7 → j < 7 → zQ X i = zQ X j → i = j) : zSem X x mX9_faultPosition yX9_faultPosition mX10_faultPosition yX10_faultPosition [] [("java/util/NoSuchElementException", 1)] σ := by
  have gA : zGd A := hL.1
  have gS : zGd S := hL.2.1
  have hm8 : m ≤ 8 := hL.2.2.1
  have gU : ∀ t, t < m → zGd (U t) := hL.2.2.2.1
  have hn60 : n ≤ 60 := hL.2.2.2.2.1
  have hll : ll ≤ 400 := hL.2.2.2.2.2.1
  have hln : ∀ k, k < ll → narrow .char (.int (ln k)) = .int (ln k) := hL.2.2.2.2.2.2.1
  have hkf : kf = -1 ∨ 0 ≤ kf := hL.2.2.2.2.2.2.2.1
  have hdd : ld = 0 → dc = 0 := hL.2.2.2.2.2.2.2.2
  have hK' : zKt x A S m U n T ll ln hs kf ld dt dc σ := hK
  have hA := gA.1
  have hC8 := hA.1
  have hP8 := hA.2.1
  have wU : ∀ t, t < m → zDw (U t) := fun t ht => (gU t ht).1
  have eN : mN 0 m = min (m + 1) 8 := if_pos rfl
  have eU : UN 0 A U = zPu A U := if_pos rfl
  by_cases hz : kf = -1
  · refine zSem_no (p' := (A, S, m, U, n, T, ll, ln, hs, kf, ld, dt, dc)) "java/util/NoSuchElementException" 1 hM (by decide) ?_ ?_ ?_ ?_ hL (zMet.px hK (qX9_faultPositionN hX hK' hA hz hN)) (fun t ht => by obtain ⟨tm, dn, K, hm⟩ := ht; have hm' : zMo (x + 261) 0 tm cd dn K A S m U n T ll ln hs kf ld dt dc t := hm; exact zMet.mq (p := (A, S, m, U, n, T, ll, ln, hs, kf, ld, dt, dc)) (R := fun _ => True) (qX10_faultPositionN hX hm' gA hz)) <;> decide
  · refine zSem_ok (p' := (A, S, m, U, n, T, ll, ln, hs, kf, ld, dt, dc)) hM ?_ ?_ ?_ ?_ hL (zMet.pu hK (qX9_faultPosition hX hK' hA hz)) (fun t ht => by obtain ⟨tm, dn, K, hm⟩ := ht; have hm' : zMo (x + 261) 0 tm cd dn K A S m U n T ll ln hs kf ld dt dc t := hm; exact zMet.mq (p := (A, S, m, U, n, T, ll, ln, hs, kf, ld, dt, dc)) (qX10_faultPosition hX hm' gA (hkf.resolve_left hz))) <;> decide
set_option maxRecDepth 100000 in
theorem sem_lineCharacter {X : zX} (hX : X.1.stackTraces = false) {σ : zS} {x : Nat} {A S : zDk} {m : Nat} {U : Nat → zDk} {n : Nat} {T : Nat → Int32} {ll : Nat} {ln : Nat → Int32} {hs kf ld dt dc : Int32} {cd : Int32} (hK : zKp x (A, S, m, U, n, T, ll, ln, hs, kf, ld, dt, dc) σ) (hM : zMp (x + 261) cd (A, S, m, U, n, T, ll, ln, hs, kf, ld, dt, dc) σ) (hL : zLv (A, S, m, U, n, T, ll, ln, hs, kf, ld, dt, dc)) (hN : σ.2 = none) (hQ : ∀ i j : Nat, i < 7 → j < 7 → zQ X i = zQ X j → i = j) (p1 : Int32) : zSem X x mX9_lineCharacter yX9_lineCharacter mX10_lineCharacter yX10_lineCharacter [.int p1] [("java/lang/IndexOutOfBoundsException", 1)] σ := by
  have gA : zGd A := hL.1
  have gS : zGd S := hL.2.1
  have hm8 : m ≤ 8 := hL.2.2.1
  have gU : ∀ t, t < m → zGd (U t) := hL.2.2.2.1
  have hn60 : n ≤ 60 := hL.2.2.2.2.1
  have hll : ll ≤ 400 := hL.2.2.2.2.2.1
  have hln : ∀ k, k < ll → narrow .char (.int (ln k)) = .int (ln k) := hL.2.2.2.2.2.2.1
  have hkf : kf = -1 ∨ 0 ≤ kf := hL.2.2.2.2.2.2.2.1
  have hdd : ld = 0 → dc = 0 := hL.2.2.2.2.2.2.2.2
  have hK' : zKt x A S m U n T ll ln hs kf ld dt dc σ := hK
  have hA := gA.1
  have hC8 := hA.1
  have hP8 := hA.2.1
  have wU : ∀ t, t < m → zDw (U t) := fun t ht => (gU t ht).1
  have eN : mN 0 m = min (m + 1) 8 := if_pos rfl
  have eU : UN 0 A U = zPu A U := if_pos rfl
  by_cases c1 : ¬ p1 < 0 ∧ p1 < nI (ll)
  · obtain ⟨j, hj, rfl⟩ := zcas (by omega) c1
    refine zSem_ok (p' := (A, S, m, U, n, T, ll, ln, hs, kf, ld, dt, dc)) hM ?_ ?_ ?_ ?_ hL (zMet.pu hK (qX9_lineCharacter hX hK' hA hj hll hln)) (fun t ht => by obtain ⟨tm, dn, K, hm⟩ := ht; have hm' : zMo (x + 261) 0 tm cd dn K A S m U n T ll ln hs kf ld dt dc t := hm; exact zMet.mq (p := (A, S, m, U, n, T, ll, ln, hs, kf, ld, dt, dc)) (qX10_lineCharacter hX hm' gA hj hln)) <;> decide
  · refine zSem_no (p' := (A, S, m, U, n, T, ll, ln, hs, kf, ld, dt, dc)) "java/lang/IndexOutOfBoundsException" 1 hM (by decide) ?_ ?_ ?_ ?_ hL (zMet.px hK (qX9_lineCharacterX hX hK' hA c1 hN)) (fun t ht => by obtain ⟨tm, dn, K, hm⟩ := ht; have hm' : zMo (x + 261) 0 tm cd dn K A S m U n T ll ln hs kf ld dt dc t := hm; exact zMet.mq (p := (A, S, m, U, n, T, ll, ln, hs, kf, ld, dt, dc)) (R := fun _ => True) (qX10_lineCharacterX hX hm' gA c1)) <;> decide
set_option maxRecDepth 100000 in
theorem sem_denial {X : zX} (hX : X.1.stackTraces = false) {σ : zS} {x : Nat} {A S : zDk} {m : Nat} {U : Nat → zDk} {n : Nat} {T : Nat → Int32} {ll : Nat} {ln : Nat → Int32} {hs kf ld dt dc : Int32} {cd : Int32} (hK : zKp x (A, S, m, U, n, T, ll, ln, hs, kf, ld, dt, dc) σ) (hM : zMp (x + 261) cd (A, S, m, U, n, T, ll, ln, hs, kf, ld, dt, dc) σ) (hL : zLv (A, S, m, U, n, T, ll, ln, hs, kf, ld, dt, dc)) (hN : σ.2 = none) (hQ : ∀ i j : Nat, i < 7 → j < 7 → zQ X i = zQ X j → i = j) : zSem X x mX9_denial yX9_denial mX10_denial yX10_denial [] [("java/util/NoSuchElementException", 1)] σ := by
  have gA : zGd A := hL.1
  have gS : zGd S := hL.2.1
  have hm8 : m ≤ 8 := hL.2.2.1
  have gU : ∀ t, t < m → zGd (U t) := hL.2.2.2.1
  have hn60 : n ≤ 60 := hL.2.2.2.2.1
  have hll : ll ≤ 400 := hL.2.2.2.2.2.1
  have hln : ∀ k, k < ll → narrow .char (.int (ln k)) = .int (ln k) := hL.2.2.2.2.2.2.1
  have hkf : kf = -1 ∨ 0 ≤ kf := hL.2.2.2.2.2.2.2.1
  have hdd : ld = 0 → dc = 0 := hL.2.2.2.2.2.2.2.2
  have hK' : zKt x A S m U n T ll ln hs kf ld dt dc σ := hK
  have hA := gA.1
  have hC8 := hA.1
  have hP8 := hA.2.1
  have wU : ∀ t, t < m → zDw (U t) := fun t ht => (gU t ht).1
  have eN : mN 0 m = min (m + 1) 8 := if_pos rfl
  have eU : UN 0 A U = zPu A U := if_pos rfl
  by_cases hz : ld = 0
  · refine zSem_no (p' := (A, S, m, U, n, T, ll, ln, hs, kf, ld, dt, dc)) "java/util/NoSuchElementException" 1 hM (by decide) ?_ ?_ ?_ ?_ hL (zMet.px hK (qX9_denialX hX hK' hA hz hN)) (fun t ht => by obtain ⟨tm, dn, K, hm⟩ := ht; have hm' : zMo (x + 261) 0 tm cd dn K A S m U n T ll ln hs kf ld dt dc t := hm; exact zMet.mq (p := (A, S, m, U, n, T, ll, ln, hs, kf, ld, dt, dc)) (R := fun _ => True) (qX10_denialN hX hm' gA hz)) <;> decide
  · refine zSem_ok (p' := (A, S, m, U, n, T, ll, ln, hs, kf, ld, dt, dc)) hM ?_ ?_ ?_ ?_ hL (zMet.pu hK (qX9_denial hX hK' hA hz)) (fun t ht => by obtain ⟨tm, dn, K, hm⟩ := ht; have hm' : zMo (x + 261) 0 tm cd dn K A S m U n T ll ln hs kf ld dt dc t := hm; exact zMet.mq (p := (A, S, m, U, n, T, ll, ln, hs, kf, ld, dt, dc)) (qX10_denial hX hm' gA hz)) <;> decide
set_option maxRecDepth 100000 in
theorem sem_denialDetail {X : zX} (hX : X.1.stackTraces = false) {σ : zS} {x : Nat} {A S : zDk} {m : Nat} {U : Nat → zDk} {n : Nat} {T : Nat → Int32} {ll : Nat} {ln : Nat → Int32} {hs kf ld dt dc : Int32} {cd : Int32} (hK : zKp x (A, S, m, U, n, T, ll, ln, hs, kf, ld, dt, dc) σ) (hM : zMp (x + 261) cd (A, S, m, U, n, T, ll, ln, hs, kf, ld, dt, dc) σ) (hL : zLv (A, S, m, U, n, T, ll, ln, hs, kf, ld, dt, dc)) (hN : σ.2 = none) (hQ : ∀ i j : Nat, i < 7 → j < 7 → zQ X i = zQ X j → i = j) : zSem X x mX9_denialDetail yX9_denialDetail mX10_denialDetail yX10_denialDetail [] [("java/util/NoSuchElementException", 1)] σ := by
  have gA : zGd A := hL.1
  have gS : zGd S := hL.2.1
  have hm8 : m ≤ 8 := hL.2.2.1
  have gU : ∀ t, t < m → zGd (U t) := hL.2.2.2.1
  have hn60 : n ≤ 60 := hL.2.2.2.2.1
  have hll : ll ≤ 400 := hL.2.2.2.2.2.1
  have hln : ∀ k, k < ll → narrow .char (.int (ln k)) = .int (ln k) := hL.2.2.2.2.2.2.1
  have hkf : kf = -1 ∨ 0 ≤ kf := hL.2.2.2.2.2.2.2.1
  have hdd : ld = 0 → dc = 0 := hL.2.2.2.2.2.2.2.2
  have hK' : zKt x A S m U n T ll ln hs kf ld dt dc σ := hK
  have hA := gA.1
  have hC8 := hA.1
  have hP8 := hA.2.1
  have wU : ∀ t, t < m → zDw (U t) := fun t ht => (gU t ht).1
  have eN : mN 0 m = min (m + 1) 8 := if_pos rfl
  have eU : UN 0 A U = zPu A U := if_pos rfl
  by_cases hz : ld = 0
  · refine zSem_no (p' := (A, S, m, U, n, T, ll, ln, hs, kf, ld, dt, dc)) "java/util/NoSuchElementException" 1 hM (by decide) ?_ ?_ ?_ ?_ hL (zMet.px hK (qX9_denialDetailX hX hK' hA hz hN)) (fun t ht => by obtain ⟨tm, dn, K, hm⟩ := ht; have hm' : zMo (x + 261) 0 tm cd dn K A S m U n T ll ln hs kf ld dt dc t := hm; exact zMet.mq (p := (A, S, m, U, n, T, ll, ln, hs, kf, ld, dt, dc)) (R := fun _ => True) (qX10_denialDetailN hX hm' gA hz)) <;> decide
  · refine zSem_ok (p' := (A, S, m, U, n, T, ll, ln, hs, kf, ld, dt, dc)) hM ?_ ?_ ?_ ?_ hL (zMet.pu hK (qX9_denialDetail hX hK' hA hz)) (fun t ht => by obtain ⟨tm, dn, K, hm⟩ := ht; have hm' : zMo (x + 261) 0 tm cd dn K A S m U n T ll ln hs kf ld dt dc t := hm; exact zMet.mq (p := (A, S, m, U, n, T, ll, ln, hs, kf, ld, dt, dc)) (qX10_denialDetail hX hm' gA hz)) <;> decide
set_option maxRecDepth 100000 in
theorem sem_denialCause {X : zX} (hX : X.1.stackTraces = false) {σ : zS} {x : Nat} {A S : zDk} {m : Nat} {U : Nat → zDk} {n : Nat} {T : Nat → Int32} {ll : Nat} {ln : Nat → Int32} {hs kf ld dt dc : Int32} {cd : Int32} (hK : zKp x (A, S, m, U, n, T, ll, ln, hs, kf, ld, dt, dc) σ) (hM : zMp (x + 261) cd (A, S, m, U, n, T, ll, ln, hs, kf, ld, dt, dc) σ) (hL : zLv (A, S, m, U, n, T, ll, ln, hs, kf, ld, dt, dc)) (hN : σ.2 = none) (hQ : ∀ i j : Nat, i < 7 → j < 7 → zQ X i = zQ X j → i = j) : zSem X x mX9_denialCause yX9_denialCause mX10_denialCause yX10_denialCause [] [("java/util/NoSuchElementException", 1)] σ := by
  have gA : zGd A := hL.1
  have gS : zGd S := hL.2.1
  have hm8 : m ≤ 8 := hL.2.2.1
  have gU : ∀ t, t < m → zGd (U t) := hL.2.2.2.1
  have hn60 : n ≤ 60 := hL.2.2.2.2.1
  have hll : ll ≤ 400 := hL.2.2.2.2.2.1
  have hln : ∀ k, k < ll → narrow .char (.int (ln k)) = .int (ln k) := hL.2.2.2.2.2.2.1
  have hkf : kf = -1 ∨ 0 ≤ kf := hL.2.2.2.2.2.2.2.1
  have hdd : ld = 0 → dc = 0 := hL.2.2.2.2.2.2.2.2
  have hK' : zKt x A S m U n T ll ln hs kf ld dt dc σ := hK
  have hA := gA.1
  have hC8 := hA.1
  have hP8 := hA.2.1
  have wU : ∀ t, t < m → zDw (U t) := fun t ht => (gU t ht).1
  have eN : mN 0 m = min (m + 1) 8 := if_pos rfl
  have eU : UN 0 A U = zPu A U := if_pos rfl
  by_cases hz : dc = 0
  · by_cases hl : ld = 0
    · refine zSem_no (p' := (A, S, m, U, n, T, ll, ln, hs, kf, ld, dt, dc)) "java/util/NoSuchElementException" 1 hM (by decide) ?_ ?_ ?_ ?_ hL (zMet.px hK (qX9_denialCauseX hX hK' hA hl hN)) (fun t ht => by obtain ⟨tm, dn, K, hm⟩ := ht; have hm' : zMo (x + 261) 0 tm cd dn K A S m U n T ll ln hs kf ld dt dc t := hm; exact zMet.mq (p := (A, S, m, U, n, T, ll, ln, hs, kf, ld, dt, dc)) (R := fun _ => True) (qX10_denialCauseN hX hm' gA hz)) <;> decide
    · refine zSem_no (p' := (A, S, m, U, n, T, ll, ln, hs, kf, ld, dt, dc)) "java/util/NoSuchElementException" 1 hM (by decide) ?_ ?_ ?_ ?_ hL (zMet.px hK (qX9_denialCauseN hX hK' hA hl hz hN)) (fun t ht => by obtain ⟨tm, dn, K, hm⟩ := ht; have hm' : zMo (x + 261) 0 tm cd dn K A S m U n T ll ln hs kf ld dt dc t := hm; exact zMet.mq (p := (A, S, m, U, n, T, ll, ln, hs, kf, ld, dt, dc)) (R := fun _ => True) (qX10_denialCauseN hX hm' gA hz)) <;> decide
  · refine zSem_ok (p' := (A, S, m, U, n, T, ll, ln, hs, kf, ld, dt, dc)) hM ?_ ?_ ?_ ?_ hL (zMet.pu hK (qX9_denialCause hX hK' hA (fun q => hz (hdd q)) hz)) (fun t ht => by obtain ⟨tm, dn, K, hm⟩ := ht; have hm' : zMo (x + 261) 0 tm cd dn K A S m U n T ll ln hs kf ld dt dc t := hm; exact zMet.mq (p := (A, S, m, U, n, T, ll, ln, hs, kf, ld, dt, dc)) (qX10_denialCause hX hm' gA hz)) <;> decide
set_option maxRecDepth 100000 in
theorem sem_undo {X : zX} (hX : X.1.stackTraces = false) {σ : zS} {x : Nat} {A S : zDk} {m : Nat} {U : Nat → zDk} {n : Nat} {T : Nat → Int32} {ll : Nat} {ln : Nat → Int32} {hs kf ld dt dc : Int32} {cd : Int32} (hK : zKp x (A, S, m, U, n, T, ll, ln, hs, kf, ld, dt, dc) σ) (hM : zMp (x + 261) cd (A, S, m, U, n, T, ll, ln, hs, kf, ld, dt, dc) σ) (hL : zLv (A, S, m, U, n, T, ll, ln, hs, kf, ld, dt, dc)) (hN : σ.2 = none) (hQ : ∀ i j : Nat, i < 7 → j < 7 → zQ X i = zQ X j → i = j) : zSem X x mX9_undo yX9_undo mX10_undo yX10_undo [] [("java/lang/IllegalStateException", 1)] σ := by
  have gA : zGd A := hL.1
  have gS : zGd S := hL.2.1
  have hm8 : m ≤ 8 := hL.2.2.1
  have gU : ∀ t, t < m → zGd (U t) := hL.2.2.2.1
  have hn60 : n ≤ 60 := hL.2.2.2.2.1
  have hll : ll ≤ 400 := hL.2.2.2.2.2.1
  have hln : ∀ k, k < ll → narrow .char (.int (ln k)) = .int (ln k) := hL.2.2.2.2.2.2.1
  have hkf : kf = -1 ∨ 0 ≤ kf := hL.2.2.2.2.2.2.2.1
  have hdd : ld = 0 → dc = 0 := hL.2.2.2.2.2.2.2.2
  have hK' : zKt x A S m U n T ll ln hs kf ld dt dc σ := hK
  have hA := gA.1
  have hC8 := hA.1
  have hP8 := hA.2.1
  have wU : ∀ t, t < m → zDw (U t) := fun t ht => (gU t ht).1
  have eN : mN 0 m = min (m + 1) 8 := if_pos rfl
  have eU : UN 0 A U = zPu A U := if_pos rfl
  by_cases hz : m = 0
  · refine zSem_no (p' := (A, S, m, U, n, T, ll, ln, hs, kf, ld, dt, dc)) "java/lang/IllegalStateException" 1 hM (by decide) ?_ ?_ ?_ ?_ hL (zMet.px hK (qX9_undoN hX hK' hA hz hN)) (fun t ht => by obtain ⟨tm, dn, K, hm⟩ := ht; have hm' : zMo (x + 261) 0 tm cd dn K A S m U n T ll ln hs kf ld dt dc t := hm; exact zMet.mq (p := (A, S, m, U, n, T, ll, ln, hs, kf, ld, dt, dc)) (R := fun _ => True) (qX10_undoN hX hm' gA hz)) <;> decide
  · refine zSem_ok (p' := (U 0, S, m - 1, fun t => U (t + 1), n, T, ll, ln, hs, kf, ld, dt, dc)) hM ?_ ?_ ?_ ?_ ⟨gU 0 (by omega), gS, (show m - 1 ≤ 8 by omega), (fun t (ht : t < m - 1) => gU (t + 1) (by omega)), hn60, hll, hln, hkf, hdd⟩ (qX9_undo hX hK' hA (by omega) hm8) (fun t ht => by obtain ⟨tm, dn, K, hm⟩ := ht; have hm' : zMo (x + 261) 0 tm cd dn K A S m U n T ll ln hs kf ld dt dc t := hm; exact zMet.mq (p := (U 0, S, m - 1, fun t => U (t + 1), n, T, ll, ln, hs, kf, ld, dt, dc)) (qX10_undo hX hm' gA (by omega) wU)) <;> decide
set_option maxRecDepth 100000 in
theorem sem_saveSnapshot {X : zX} (hX : X.1.stackTraces = false) {σ : zS} {x : Nat} {A S : zDk} {m : Nat} {U : Nat → zDk} {n : Nat} {T : Nat → Int32} {ll : Nat} {ln : Nat → Int32} {hs kf ld dt dc : Int32} {cd : Int32} (hK : zKp x (A, S, m, U, n, T, ll, ln, hs, kf, ld, dt, dc) σ) (hM : zMp (x + 261) cd (A, S, m, U, n, T, ll, ln, hs, kf, ld, dt, dc) σ) (hL : zLv (A, S, m, U, n, T, ll, ln, hs, kf, ld, dt, dc)) (hN : σ.2 = none) (hQ : ∀ i j : Nat, i < 7 → j < 7 → zQ X i = zQ X j → i = j) : zSem X x mX9_saveSnapshot yX9_saveSnapshot mX10_saveSnapshot yX10_saveSnapshot [] [] σ := by
  have gA : zGd A := hL.1
  have gS : zGd S := hL.2.1
  have hm8 : m ≤ 8 := hL.2.2.1
  have gU : ∀ t, t < m → zGd (U t) := hL.2.2.2.1
  have hn60 : n ≤ 60 := hL.2.2.2.2.1
  have hll : ll ≤ 400 := hL.2.2.2.2.2.1
  have hln : ∀ k, k < ll → narrow .char (.int (ln k)) = .int (ln k) := hL.2.2.2.2.2.2.1
  have hkf : kf = -1 ∨ 0 ≤ kf := hL.2.2.2.2.2.2.2.1
  have hdd : ld = 0 → dc = 0 := hL.2.2.2.2.2.2.2.2
  have hK' : zKt x A S m U n T ll ln hs kf ld dt dc σ := hK
  have hA := gA.1
  have hC8 := hA.1
  have hP8 := hA.2.1
  have wU : ∀ t, t < m → zDw (U t) := fun t ht => (gU t ht).1
  have eN : mN 0 m = min (m + 1) 8 := if_pos rfl
  have eU : UN 0 A U = zPu A U := if_pos rfl
  refine zSem_ok (p' := (A, A, m, U, n, T, ll, ln, 1, kf, ld, dt, dc)) hM ?_ ?_ ?_ ?_ ⟨gA, gA, hm8, gU, hn60, hll, hln, hkf, hdd⟩ (qX9_saveSnapshot hX hK' hA) (fun t ht => by obtain ⟨tm, dn, K, hm⟩ := ht; have hm' : zMo (x + 261) 0 tm cd dn K A S m U n T ll ln hs kf ld dt dc t := hm; exact zMet.mq (p := (A, A, m, U, n, T, ll, ln, 1, kf, ld, dt, dc)) (qX10_saveSnapshot hX hm' gA)) <;> decide
set_option maxRecDepth 100000 in
theorem sem_restoreSnapshot {X : zX} (hX : X.1.stackTraces = false) {σ : zS} {x : Nat} {A S : zDk} {m : Nat} {U : Nat → zDk} {n : Nat} {T : Nat → Int32} {ll : Nat} {ln : Nat → Int32} {hs kf ld dt dc : Int32} {cd : Int32} (hK : zKp x (A, S, m, U, n, T, ll, ln, hs, kf, ld, dt, dc) σ) (hM : zMp (x + 261) cd (A, S, m, U, n, T, ll, ln, hs, kf, ld, dt, dc) σ) (hL : zLv (A, S, m, U, n, T, ll, ln, hs, kf, ld, dt, dc)) (hN : σ.2 = none) (hQ : ∀ i j : Nat, i < 7 → j < 7 → zQ X i = zQ X j → i = j) : zSem X x mX9_restoreSnapshot yX9_restoreSnapshot mX10_restoreSnapshot yX10_restoreSnapshot [] [("java/lang/IllegalStateException", 1)] σ := by
  have gA : zGd A := hL.1
  have gS : zGd S := hL.2.1
  have hm8 : m ≤ 8 := hL.2.2.1
  have gU : ∀ t, t < m → zGd (U t) := hL.2.2.2.1
  have hn60 : n ≤ 60 := hL.2.2.2.2.1
  have hll : ll ≤ 400 := hL.2.2.2.2.2.1
  have hln : ∀ k, k < ll → narrow .char (.int (ln k)) = .int (ln k) := hL.2.2.2.2.2.2.1
  have hkf : kf = -1 ∨ 0 ≤ kf := hL.2.2.2.2.2.2.2.1
  have hdd : ld = 0 → dc = 0 := hL.2.2.2.2.2.2.2.2
  have hK' : zKt x A S m U n T ll ln hs kf ld dt dc σ := hK
  have hA := gA.1
  have hC8 := hA.1
  have hP8 := hA.2.1
  have wU : ∀ t, t < m → zDw (U t) := fun t ht => (gU t ht).1
  have eN : mN 0 m = min (m + 1) 8 := if_pos rfl
  have eU : UN 0 A U = zPu A U := if_pos rfl
  by_cases hz : hs = 0
  · refine zSem_no (p' := (A, S, m, U, n, T, ll, ln, hs, kf, ld, dt, dc)) "java/lang/IllegalStateException" 1 hM (by decide) ?_ ?_ ?_ ?_ hL (zMet.px hK (qX9_restoreSnapshotN hX hK' hA hz hN)) (fun t ht => by obtain ⟨tm, dn, K, hm⟩ := ht; have hm' : zMo (x + 261) 0 tm cd dn K A S m U n T ll ln hs kf ld dt dc t := hm; exact zMet.mq (p := (A, S, m, U, n, T, ll, ln, hs, kf, ld, dt, dc)) (R := fun _ => True) (qX10_restoreSnapshotN hX hm' gA hz)) <;> decide
  · refine zSem_ok (p' := (S, S, 0, U, n, T, ll, ln, hs, kf, ld, dt, dc)) hM ?_ ?_ ?_ ?_ ⟨gS, gS, Nat.zero_le _, (fun t ht => absurd ht (Nat.not_lt_zero t)), hn60, hll, hln, hkf, hdd⟩ (qX9_restoreSnapshot hX hK' hA hz gS.1) (fun t ht => by obtain ⟨tm, dn, K, hm⟩ := ht; have hm' : zMo (x + 261) 0 tm cd dn K A S m U n T ll ln hs kf ld dt dc t := hm; exact zMet.mq (p := (S, S, 0, U, n, T, ll, ln, hs, kf, ld, dt, dc)) (qX10_restoreSnapshot hX hm' gA hz gS.1)) <;> decide
set_option maxRecDepth 100000 in
theorem sem_isConsistent {X : zX} (hX : X.1.stackTraces = false) {σ : zS} {x : Nat} {A S : zDk} {m : Nat} {U : Nat → zDk} {n : Nat} {T : Nat → Int32} {ll : Nat} {ln : Nat → Int32} {hs kf ld dt dc : Int32} {cd : Int32} (hK : zKp x (A, S, m, U, n, T, ll, ln, hs, kf, ld, dt, dc) σ) (hM : zMp (x + 261) cd (A, S, m, U, n, T, ll, ln, hs, kf, ld, dt, dc) σ) (hL : zLv (A, S, m, U, n, T, ll, ln, hs, kf, ld, dt, dc)) (hN : σ.2 = none) (hQ : ∀ i j : Nat, i < 7 → j < 7 → zQ X i = zQ X j → i = j) : zSem X x mX9_isConsistent yX9_isConsistent mX10_isConsistent yX10_isConsistent [] [] σ := by
  have gA : zGd A := hL.1
  have gS : zGd S := hL.2.1
  have hm8 : m ≤ 8 := hL.2.2.1
  have gU : ∀ t, t < m → zGd (U t) := hL.2.2.2.1
  have hn60 : n ≤ 60 := hL.2.2.2.2.1
  have hll : ll ≤ 400 := hL.2.2.2.2.2.1
  have hln : ∀ k, k < ll → narrow .char (.int (ln k)) = .int (ln k) := hL.2.2.2.2.2.2.1
  have hkf : kf = -1 ∨ 0 ≤ kf := hL.2.2.2.2.2.2.2.1
  have hdd : ld = 0 → dc = 0 := hL.2.2.2.2.2.2.2.2
  have hK' : zKt x A S m U n T ll ln hs kf ld dt dc σ := hK
  have hA := gA.1
  have hC8 := hA.1
  have hP8 := hA.2.1
  have wU : ∀ t, t < m → zDw (U t) := fun t ht => (gU t ht).1
  have eN : mN 0 m = min (m + 1) 8 := if_pos rfl
  have eU : UN 0 A U = zPu A U := if_pos rfl
  refine zSem_ok (p' := (A, S, m, U, n, T, ll, ln, hs, kf, ld, dt, dc)) hM ?_ ?_ ?_ ?_ hL (qX9_isConsistent hX hK' hA (fun i j h1 h2 => zAg_1 gA (Nat.lt_trans h1 h2) h2)) (fun t ht => by obtain ⟨tm, dn, K, hm⟩ := ht; have hm' : zMo (x + 261) 0 tm cd dn K A S m U n T ll ln hs kf ld dt dc t := hm; exact zMet.mq (p := (A, S, m, U, n, T, ll, ln, hs, kf, ld, dt, dc)) (qX10_isConsistent hX hm' gA)) <;> decide
set_option maxRecDepth 100000 in
theorem sem_feed {X : zX} (hX : X.1.stackTraces = false) {σ : zS} {x : Nat} {A S : zDk} {m : Nat} {U : Nat → zDk} {n : Nat} {T : Nat → Int32} {ll : Nat} {ln : Nat → Int32} {hs kf ld dt dc : Int32} {cd : Int32} (hK : zKp x (A, S, m, U, n, T, ll, ln, hs, kf, ld, dt, dc) σ) (hM : zMp (x + 261) cd (A, S, m, U, n, T, ll, ln, hs, kf, ld, dt, dc) σ) (hL : zLv (A, S, m, U, n, T, ll, ln, hs, kf, ld, dt, dc)) (hN : σ.2 = none) (hQ : ∀ i j : Nat, i < 7 → j < 7 → zQ X i = zQ X j → i = j) (p1 : Int32) (hc : vp_nar .char p1 = p1) : zSem X x mX9_feed yX9_feed mX10_feed yX10_feed [.int p1] [("java/lang/IllegalStateException", 1)] σ := by
  have gA : zGd A := hL.1
  have gS : zGd S := hL.2.1
  have hm8 : m ≤ 8 := hL.2.2.1
  have gU : ∀ t, t < m → zGd (U t) := hL.2.2.2.1
  have hn60 : n ≤ 60 := hL.2.2.2.2.1
  have hll : ll ≤ 400 := hL.2.2.2.2.2.1
  have hln : ∀ k, k < ll → narrow .char (.int (ln k)) = .int (ln k) := hL.2.2.2.2.2.2.1
  have hkf : kf = -1 ∨ 0 ≤ kf := hL.2.2.2.2.2.2.2.1
  have hdd : ld = 0 → dc = 0 := hL.2.2.2.2.2.2.2.2
  have hK' : zKt x A S m U n T ll ln hs kf ld dt dc σ := hK
  have hA := gA.1
  have hC8 := hA.1
  have hP8 := hA.2.1
  have wU : ∀ t, t < m → zDw (U t) := fun t ht => (gU t ht).1
  have eN : mN 0 m = min (m + 1) 8 := if_pos rfl
  have eU : UN 0 A U = zPu A U := if_pos rfl
  by_cases h6 : n < 60
  · refine zSem_ok (p' := (A, S, m, U, n + 1, upd T n p1, ll, ln, hs, kf, ld, dt, dc)) hM ?_ ?_ ?_ ?_ ⟨gA, gS, hm8, gU, (show n + 1 ≤ 60 by omega), hll, hln, hkf, hdd⟩ (qX9_feed hX hK' hA h6 hc) (fun t ht => by obtain ⟨tm, dn, K, hm⟩ := ht; have hm' : zMo (x + 261) 0 tm cd dn K A S m U n T ll ln hs kf ld dt dc t := hm; exact zMet.mq (p := (A, S, m, U, n + 1, upd T n p1, ll, ln, hs, kf, ld, dt, dc)) (qX10_feed hX hm' gA h6)) <;> decide
  · have n6 : n = 60 := by omega
    refine zSem_no (p' := (A, S, m, U, n, T, ll, ln, hs, kf, ld, dt, dc)) "java/lang/IllegalStateException" 1 hM (by decide) ?_ ?_ ?_ ?_ hL (zMet.px hK (qX9_feedN hX hK' hA h6 hN)) (fun t ht => by obtain ⟨tm, dn, K, hm⟩ := ht; have hm' : zMo (x + 261) 0 tm cd dn K A S m U n T ll ln hs kf ld dt dc t := hm; exact zMet.mq (p := (A, S, m, U, n, T, ll, ln, hs, kf, ld, dt, dc)) (R := fun _ => True) (qX10_feedN hX hm' gA n6)) <;> decide
set_option maxRecDepth 100000 in
theorem sem_writeCase {X : zX} (hX : X.1.stackTraces = false) {σ : zS} {x : Nat} {A S : zDk} {m : Nat} {U : Nat → zDk} {n : Nat} {T : Nat → Int32} {ll : Nat} {ln : Nat → Int32} {hs kf ld dt dc : Int32} {cd : Int32} (hK : zKp x (A, S, m, U, n, T, ll, ln, hs, kf, ld, dt, dc) σ) (hM : zMp (x + 261) cd (A, S, m, U, n, T, ll, ln, hs, kf, ld, dt, dc) σ) (hL : zLv (A, S, m, U, n, T, ll, ln, hs, kf, ld, dt, dc)) (hN : σ.2 = none) (hQ : ∀ i j : Nat, i < 7 → j < 7 → zQ X i = zQ X j → i = j) (p1 : Int32) : zSem X x mX9_writeCase yX9_writeCase mX10_writeCase yX10_writeCase [.int p1] [("java/lang/IndexOutOfBoundsException", 1)] σ := by
  have gA : zGd A := hL.1
  have gS : zGd S := hL.2.1
  have hm8 : m ≤ 8 := hL.2.2.1
  have gU : ∀ t, t < m → zGd (U t) := hL.2.2.2.1
  have hn60 : n ≤ 60 := hL.2.2.2.2.1
  have hll : ll ≤ 400 := hL.2.2.2.2.2.1
  have hln : ∀ k, k < ll → narrow .char (.int (ln k)) = .int (ln k) := hL.2.2.2.2.2.2.1
  have hkf : kf = -1 ∨ 0 ≤ kf := hL.2.2.2.2.2.2.2.1
  have hdd : ld = 0 → dc = 0 := hL.2.2.2.2.2.2.2.2
  have hK' : zKt x A S m U n T ll ln hs kf ld dt dc σ := hK
  have hA := gA.1
  have hC8 := hA.1
  have hP8 := hA.2.1
  have wU : ∀ t, t < m → zDw (U t) := fun t ht => (gU t ht).1
  have eN : mN 0 m = min (m + 1) 8 := if_pos rfl
  have eU : UN 0 A U = zPu A U := if_pos rfl
  by_cases c1 : ¬ p1 < 0 ∧ p1 < nI (kC A)
  · obtain ⟨i, hi, rfl⟩ := zcas (by omega) c1
    have n16 := (hA.2.2 i (by omega)).1
    refine zSem_ok (p' := (A, S, m, U, n, T, kN A i + 2, zln A i, hs, kf, ld, dt, dc)) hM ?_ ?_ ?_ ?_ ⟨gA, gS, hm8, gU, hn60, (show kN A i + 2 ≤ 400 by omega), (fun k _ => zln_nar A i k), hkf, hdd⟩ (qX9_writeCase hX hK' hA hi) (fun t ht => by obtain ⟨tm, dn, K, hm⟩ := ht; have hm' : zMo (x + 261) 0 tm cd dn K A S m U n T ll ln hs kf ld dt dc t := hm; exact zMet.mq (p := (A, S, m, U, n, T, kN A i + 2, zln A i, hs, kf, ld, dt, dc)) (qX10_writeCase hX hm' gA hi)) <;> decide
  · refine zSem_no (p' := (A, S, m, U, n, T, ll, ln, hs, kf, ld, dt, dc)) "java/lang/IndexOutOfBoundsException" 1 hM (by decide) ?_ ?_ ?_ ?_ hL (zMet.px hK (qX9_writeCaseX hX hK' hA c1 hN)) (fun t ht => by obtain ⟨tm, dn, K, hm⟩ := ht; have hm' : zMo (x + 261) 0 tm cd dn K A S m U n T ll ln hs kf ld dt dc t := hm; exact zMet.mq (p := (A, S, m, U, n, T, ll, ln, hs, kf, ld, dt, dc)) (R := fun _ => True) (qX10_writeCaseX hX hm' gA c1)) <;> decide
set_option maxRecDepth 100000 in
theorem sem_writeRelaxed {X : zX} (hX : X.1.stackTraces = false) {σ : zS} {x : Nat} {A S : zDk} {m : Nat} {U : Nat → zDk} {n : Nat} {T : Nat → Int32} {ll : Nat} {ln : Nat → Int32} {hs kf ld dt dc : Int32} {cd : Int32} (hK : zKp x (A, S, m, U, n, T, ll, ln, hs, kf, ld, dt, dc) σ) (hM : zMp (x + 261) cd (A, S, m, U, n, T, ll, ln, hs, kf, ld, dt, dc) σ) (hL : zLv (A, S, m, U, n, T, ll, ln, hs, kf, ld, dt, dc)) (hN : σ.2 = none) (hQ : ∀ i j : Nat, i < 7 → j < 7 → zQ X i = zQ X j → i = j) (p1 : Int32) : zSem X x mX9_writeRelaxed yX9_writeRelaxed mX10_writeRelaxed yX10_writeRelaxed [.int p1] [("java/lang/IndexOutOfBoundsException", 1), ("java/lang/IllegalStateException", 2)] σ := by
  have gA : zGd A := hL.1
  have gS : zGd S := hL.2.1
  have hm8 : m ≤ 8 := hL.2.2.1
  have gU : ∀ t, t < m → zGd (U t) := hL.2.2.2.1
  have hn60 : n ≤ 60 := hL.2.2.2.2.1
  have hll : ll ≤ 400 := hL.2.2.2.2.2.1
  have hln : ∀ k, k < ll → narrow .char (.int (ln k)) = .int (ln k) := hL.2.2.2.2.2.2.1
  have hkf : kf = -1 ∨ 0 ≤ kf := hL.2.2.2.2.2.2.2.1
  have hdd : ld = 0 → dc = 0 := hL.2.2.2.2.2.2.2.2
  have hK' : zKt x A S m U n T ll ln hs kf ld dt dc σ := hK
  have hA := gA.1
  have hC8 := hA.1
  have hP8 := hA.2.1
  have wU : ∀ t, t < m → zDw (U t) := fun t ht => (gU t ht).1
  have eN : mN 0 m = min (m + 1) 8 := if_pos rfl
  have eU : UN 0 A U = zPu A U := if_pos rfl
  by_cases c1 : ¬ p1 < 0 ∧ p1 < nI (kC A)
  · obtain ⟨i, hi, rfl⟩ := zcas (by omega) c1
    have n16 := (hA.2.2 i (by omega)).1
    rcases hO : zRn 2000 [] (zWd A i) with _ | q
    · refine zSem_no (p' := (A, S, m, U, n, T, ll, ln, hs, kf, ld, dt, dc)) "java/lang/IllegalStateException" 2 hM (by decide) ?_ ?_ ?_ ?_ hL (qX9_writeRelaxedN hX hK' hA hi hO hN) (fun t ht => by obtain ⟨tm, dn, K, hm⟩ := ht; have hm' : zMo (x + 261) 0 tm cd dn K A S m U n T ll ln hs kf ld dt dc t := hm; exact zMet.mq (p := (A, S, m, U, n, T, ll, ln, hs, kf, ld, dt, dc)) (R := fun _ => True) (qX10_writeRelaxedN hX hm' gA hi hO)) <;> decide
    · refine zSem_ok (p' := (A, S, m, U, n, T, q.2.length, fun k => zchr (wv q.2 k), hs, kf, ld, dt, dc)) hM ?_ ?_ ?_ ?_ ⟨gA, gS, hm8, gU, hn60, (zRn_ln 2000 (zWd A i) [] q.1 q.2 (by have := zWd_len hA (i := i) (by omega); rw [List.length_nil]; omega) hO), (fun k _ => zchr_nar _), hkf, hdd⟩ (qX9_writeRelaxed hX hK' hA hi hO) (fun t ht => by obtain ⟨tm, dn, K, hm⟩ := ht; have hm' : zMo (x + 261) 0 tm cd dn K A S m U n T ll ln hs kf ld dt dc t := hm; exact zMet.mq (p := (A, S, m, U, n, T, q.2.length, fun k => zchr (wv q.2 k), hs, kf, ld, dt, dc)) (qX10_writeRelaxed hX hm' gA hi hO)) <;> decide
  · refine zSem_no (p' := (A, S, m, U, n, T, ll, ln, hs, kf, ld, dt, dc)) "java/lang/IndexOutOfBoundsException" 1 hM (by decide) ?_ ?_ ?_ ?_ hL (zMet.px hK (qX9_writeRelaxedX hX hK' hA c1 hN)) (fun t ht => by obtain ⟨tm, dn, K, hm⟩ := ht; have hm' : zMo (x + 261) 0 tm cd dn K A S m U n T ll ln hs kf ld dt dc t := hm; exact zMet.mq (p := (A, S, m, U, n, T, ll, ln, hs, kf, ld, dt, dc)) (R := fun _ => True) (qX10_writeRelaxedX hX hm' gA c1)) <;> decide
set_option maxRecDepth 100000 in
theorem sem_openCase {X : zX} (hX : X.1.stackTraces = false) {σ : zS} {x : Nat} {A S : zDk} {m : Nat} {U : Nat → zDk} {n : Nat} {T : Nat → Int32} {ll : Nat} {ln : Nat → Int32} {hs kf ld dt dc : Int32} {cd : Int32} (hK : zKp x (A, S, m, U, n, T, ll, ln, hs, kf, ld, dt, dc) σ) (hM : zMp (x + 261) cd (A, S, m, U, n, T, ll, ln, hs, kf, ld, dt, dc) σ) (hL : zLv (A, S, m, U, n, T, ll, ln, hs, kf, ld, dt, dc)) (hN : σ.2 = none) (hQ : ∀ i j : Nat, i < 7 → j < 7 → zQ X i = zQ X j → i = j) : zSem X x mX9_openCase yX9_openCase mX10_openCase yX10_openCase [] [("java/lang/UnsupportedOperationException", 1)] σ := by
  have gA : zGd A := hL.1
  have gS : zGd S := hL.2.1
  have hm8 : m ≤ 8 := hL.2.2.1
  have gU : ∀ t, t < m → zGd (U t) := hL.2.2.2.1
  have hn60 : n ≤ 60 := hL.2.2.2.2.1
  have hll : ll ≤ 400 := hL.2.2.2.2.2.1
  have hln : ∀ k, k < ll → narrow .char (.int (ln k)) = .int (ln k) := hL.2.2.2.2.2.2.1
  have hkf : kf = -1 ∨ 0 ≤ kf := hL.2.2.2.2.2.2.2.1
  have hdd : ld = 0 → dc = 0 := hL.2.2.2.2.2.2.2.2
  have hK' : zKt x A S m U n T ll ln hs kf ld dt dc σ := hK
  have hA := gA.1
  have hC8 := hA.1
  have hP8 := hA.2.1
  have wU : ∀ t, t < m → zDw (U t) := fun t ht => (gU t ht).1
  have eN : mN 0 m = min (m + 1) 8 := if_pos rfl
  have eU : UN 0 A U = zPu A U := if_pos rfl
  by_cases hob : zOb A 0 0 = 0
  · have al := zOb_ok hob (by decide)
    refine zSem_ok (p' := (aCase A, S, min (m + 1) 8, zPu A U, n, T, ll, ln, hs, kf, ld, dt, dc)) hM ?_ ?_ ?_ ?_ ⟨(gA.cmd (c := 0) (k := 0) (l := 0) al (by decide) (fun q => absurd q (by decide))), gS, (show min (m + 1) 8 ≤ 8 by omega), (zgPu gA gU), hn60, hll, hln, hkf, hdd⟩ (qX9_openCase hX hK' hA hQ hob) (fun t ht => by obtain ⟨tm, dn, K, hm⟩ := ht; have hm' : zMo (x + 261) 0 tm cd dn K A S m U n T ll ln hs kf ld dt dc t := hm; have h2 := qX10_openCase hX hm' gA wU (al.1 rfl); rw [eN, eU] at h2; exact zMet.mq (p := (aCase A, S, min (m + 1) 8, zPu A U, n, T, ll, ln, hs, kf, ld, dt, dc)) h2) <;> decide
  · refine zSem_no (p' := (A, S, m, U, n, T, ll, ln, hs, kf, (zOb A 0 0), (zDt A 0 0 (zOb A 0 0)), 0)) "java/lang/UnsupportedOperationException" 1 hM (by decide) ?_ ?_ ?_ ?_ ⟨gA, gS, hm8, gU, hn60, hll, hln, hkf, (fun _ => rfl)⟩ (qX9_openCaseD hX hK' hA hQ hob hN) (fun t ht => by obtain ⟨tm, dn, K, hm⟩ := ht; have hm' : zMo (x + 261) 0 tm cd dn K A S m U n T ll ln hs kf ld dt dc t := hm; exact zMet.mq (p := (A, S, m, U, n, T, ll, ln, hs, kf, (zOb A 0 0), (zDt A 0 0 (zOb A 0 0)), 0)) (R := fun _ => True) (qX10_openCaseD hX hm' gA hob)) <;> decide
set_option maxRecDepth 100000 in
theorem sem_cross {X : zX} (hX : X.1.stackTraces = false) {σ : zS} {x : Nat} {A S : zDk} {m : Nat} {U : Nat → zDk} {n : Nat} {T : Nat → Int32} {ll : Nat} {ln : Nat → Int32} {hs kf ld dt dc : Int32} {cd : Int32} (hK : zKp x (A, S, m, U, n, T, ll, ln, hs, kf, ld, dt, dc) σ) (hM : zMp (x + 261) cd (A, S, m, U, n, T, ll, ln, hs, kf, ld, dt, dc) σ) (hL : zLv (A, S, m, U, n, T, ll, ln, hs, kf, ld, dt, dc)) (hN : σ.2 = none) (hQ : ∀ i j : Nat, i < 7 → j < 7 → zQ X i = zQ X j → i = j) (p1 p2 : Int32) : zSem X x mX9_cross yX9_cross mX10_cross yX10_cross [.int p1, .int p2] [("java/lang/IndexOutOfBoundsException", 1), ("java/lang/IllegalArgumentException", 2), ("java/lang/UnsupportedOperationException", 3)] σ := by
  have gA : zGd A := hL.1
  have gS : zGd S := hL.2.1
  have hm8 : m ≤ 8 := hL.2.2.1
  have gU : ∀ t, t < m → zGd (U t) := hL.2.2.2.1
  have hn60 : n ≤ 60 := hL.2.2.2.2.1
  have hll : ll ≤ 400 := hL.2.2.2.2.2.1
  have hln : ∀ k, k < ll → narrow .char (.int (ln k)) = .int (ln k) := hL.2.2.2.2.2.2.1
  have hkf : kf = -1 ∨ 0 ≤ kf := hL.2.2.2.2.2.2.2.1
  have hdd : ld = 0 → dc = 0 := hL.2.2.2.2.2.2.2.2
  have hK' : zKt x A S m U n T ll ln hs kf ld dt dc σ := hK
  have hA := gA.1
  have hC8 := hA.1
  have hP8 := hA.2.1
  have wU : ∀ t, t < m → zDw (U t) := fun t ht => (gU t ht).1
  have eN : mN 0 m = min (m + 1) 8 := if_pos rfl
  have eU : UN 0 A U = zPu A U := if_pos rfl
  by_cases c1 : ¬ p1 < 0 ∧ p1 < nI (kC A)
  · obtain ⟨i, hi, rfl⟩ := zcas (by omega) c1
    have n16 := (hA.2.2 i (by omega)).1
    by_cases hl : zlet p2 = 0
    · refine zSem_no (p' := (A, S, m, U, n, T, ll, ln, hs, kf, ld, dt, dc)) "java/lang/IllegalArgumentException" 2 hM (by decide) ?_ ?_ ?_ ?_ hL (zMet.px hK (qX9_crossN hX hK' hA hi hl hN)) (fun t ht => by obtain ⟨tm, dn, K, hm⟩ := ht; have hm' : zMo (x + 261) 0 tm cd dn K A S m U n T ll ln hs kf ld dt dc t := hm; exact zMet.mq (p := (A, S, m, U, n, T, ll, ln, hs, kf, ld, dt, dc)) (R := fun _ => True) (qX10_crossN hX hm' gA hi hl)) <;> decide
    · by_cases hob : zOb A 1 i = 0
      · have al := zOb_ok hob (by decide)
        have hr : kR A i = -1 := al.2.2.2.2.2.1 (by decide) (by decide)
        refine zSem_ok (p' := (aWord A i (kN A i + 1) (upd (kL A i) (kN A i) (zlet p2)), S, min (m + 1) 8, zPu A U, n, T, ll, ln, hs, kf, ld, dt, dc)) hM ?_ ?_ ?_ ?_ ⟨(gA.cmd (c := 1) (k := i) (l := zlet p2) al (by decide) (fun _ => zlet_lt hl)), gS, (show min (m + 1) 8 ≤ 8 by omega), (zgPu gA gU), hn60, hll, hln, hkf, hdd⟩ (qX9_cross hX hK' hA hQ hi hl hob) (fun t ht => by obtain ⟨tm, dn, K, hm⟩ := ht; have hm' : zMo (x + 261) 0 tm cd dn K A S m U n T ll ln hs kf ld dt dc t := hm; have h2 := qX10_cross hX hm' gA hi hl hr (al.2.2.1 rfl) wU; rw [eN, eU] at h2; exact zMet.mq (p := (aWord A i (kN A i + 1) (upd (kL A i) (kN A i) (zlet p2)), S, min (m + 1) 8, zPu A U, n, T, ll, ln, hs, kf, ld, dt, dc)) h2) <;> decide
      · refine zSem_no (p' := (A, S, m, U, n, T, ll, ln, hs, kf, (zOb A 1 i), (zDt A 1 i (zOb A 1 i)), 0)) "java/lang/UnsupportedOperationException" 3 hM (by decide) ?_ ?_ ?_ ?_ ⟨gA, gS, hm8, gU, hn60, hll, hln, hkf, (fun _ => rfl)⟩ (qX9_crossD hX hK' hA hQ hi hl hob hN) (fun t ht => by obtain ⟨tm, dn, K, hm⟩ := ht; have hm' : zMo (x + 261) 0 tm cd dn K A S m U n T ll ln hs kf ld dt dc t := hm; exact zMet.mq (p := (A, S, m, U, n, T, ll, ln, hs, kf, (zOb A 1 i), (zDt A 1 i (zOb A 1 i)), 0)) (R := fun _ => True) (qX10_crossD hX hm' gA hi hl hob)) <;> decide
  · refine zSem_no (p' := (A, S, m, U, n, T, ll, ln, hs, kf, ld, dt, dc)) "java/lang/IndexOutOfBoundsException" 1 hM (by decide) ?_ ?_ ?_ ?_ hL (zMet.px hK (qX9_crossX hX hK' hA c1 hN (c := p2))) (fun t ht => by obtain ⟨tm, dn, K, hm⟩ := ht; have hm' : zMo (x + 261) 0 tm cd dn K A S m U n T ll ln hs kf ld dt dc t := hm; exact zMet.mq (p := (A, S, m, U, n, T, ll, ln, hs, kf, ld, dt, dc)) (R := fun _ => True) (qX10_crossX hX hm' gA c1 (c := p2))) <;> decide
set_option maxRecDepth 100000 in
theorem sem_cutLast {X : zX} (hX : X.1.stackTraces = false) {σ : zS} {x : Nat} {A S : zDk} {m : Nat} {U : Nat → zDk} {n : Nat} {T : Nat → Int32} {ll : Nat} {ln : Nat → Int32} {hs kf ld dt dc : Int32} {cd : Int32} (hK : zKp x (A, S, m, U, n, T, ll, ln, hs, kf, ld, dt, dc) σ) (hM : zMp (x + 261) cd (A, S, m, U, n, T, ll, ln, hs, kf, ld, dt, dc) σ) (hL : zLv (A, S, m, U, n, T, ll, ln, hs, kf, ld, dt, dc)) (hN : σ.2 = none) (hQ : ∀ i j : Nat, i < 7 → j < 7 → zQ X i = zQ X j → i = j) (p1 : Int32) : zSem X x mX9_cutLast yX9_cutLast mX10_cutLast yX10_cutLast [.int p1] [("java/lang/IndexOutOfBoundsException", 1), ("java/lang/UnsupportedOperationException", 2)] σ := by
  have gA : zGd A := hL.1
  have gS : zGd S := hL.2.1
  have hm8 : m ≤ 8 := hL.2.2.1
  have gU : ∀ t, t < m → zGd (U t) := hL.2.2.2.1
  have hn60 : n ≤ 60 := hL.2.2.2.2.1
  have hll : ll ≤ 400 := hL.2.2.2.2.2.1
  have hln : ∀ k, k < ll → narrow .char (.int (ln k)) = .int (ln k) := hL.2.2.2.2.2.2.1
  have hkf : kf = -1 ∨ 0 ≤ kf := hL.2.2.2.2.2.2.2.1
  have hdd : ld = 0 → dc = 0 := hL.2.2.2.2.2.2.2.2
  have hK' : zKt x A S m U n T ll ln hs kf ld dt dc σ := hK
  have hA := gA.1
  have hC8 := hA.1
  have hP8 := hA.2.1
  have wU : ∀ t, t < m → zDw (U t) := fun t ht => (gU t ht).1
  have eN : mN 0 m = min (m + 1) 8 := if_pos rfl
  have eU : UN 0 A U = zPu A U := if_pos rfl
  by_cases c1 : ¬ p1 < 0 ∧ p1 < nI (kC A)
  · obtain ⟨i, hi, rfl⟩ := zcas (by omega) c1
    have n16 := (hA.2.2 i (by omega)).1
    by_cases hob : zOb A 2 i = 0
    · have al := zOb_ok hob (by decide)
      have hr : kR A i = -1 := al.2.2.2.2.2.1 (by decide) (by decide)
      refine zSem_ok (p' := (aWord A i (kN A i - 1) (kL A i), S, min (m + 1) 8, zPu A U, n, T, ll, ln, hs, kf, ld, dt, dc)) hM ?_ ?_ ?_ ?_ ⟨(gA.cmd (c := 2) (k := i) (l := 0) al (by decide) (fun q => absurd q (by decide))), gS, (show min (m + 1) 8 ≤ 8 by omega), (zgPu gA gU), hn60, hll, hln, hkf, hdd⟩ (qX9_cutLast hX hK' hA hQ hi hob) (fun t ht => by obtain ⟨tm, dn, K, hm⟩ := ht; have hm' : zMo (x + 261) 0 tm cd dn K A S m U n T ll ln hs kf ld dt dc t := hm; have h2 := qX10_cutLast hX hm' gA hi hr (al.2.2.2.1 rfl) wU; rw [eN, eU] at h2; exact zMet.mq (p := (aWord A i (kN A i - 1) (kL A i), S, min (m + 1) 8, zPu A U, n, T, ll, ln, hs, kf, ld, dt, dc)) h2) <;> decide
    · refine zSem_no (p' := (A, S, m, U, n, T, ll, ln, hs, kf, (zOb A 2 i), (zDt A 2 i (zOb A 2 i)), 0)) "java/lang/UnsupportedOperationException" 2 hM (by decide) ?_ ?_ ?_ ?_ ⟨gA, gS, hm8, gU, hn60, hll, hln, hkf, (fun _ => rfl)⟩ (qX9_cutLastD hX hK' hA hQ hi hob hN) (fun t ht => by obtain ⟨tm, dn, K, hm⟩ := ht; have hm' : zMo (x + 261) 0 tm cd dn K A S m U n T ll ln hs kf ld dt dc t := hm; exact zMet.mq (p := (A, S, m, U, n, T, ll, ln, hs, kf, (zOb A 2 i), (zDt A 2 i (zOb A 2 i)), 0)) (R := fun _ => True) (qX10_cutLastD hX hm' gA hi hob)) <;> decide
  · refine zSem_no (p' := (A, S, m, U, n, T, ll, ln, hs, kf, ld, dt, dc)) "java/lang/IndexOutOfBoundsException" 1 hM (by decide) ?_ ?_ ?_ ?_ hL (zMet.px hK (qX9_cutLastX hX hK' hA c1 hN)) (fun t ht => by obtain ⟨tm, dn, K, hm⟩ := ht; have hm' : zMo (x + 261) 0 tm cd dn K A S m U n T ll ln hs kf ld dt dc t := hm; exact zMet.mq (p := (A, S, m, U, n, T, ll, ln, hs, kf, ld, dt, dc)) (R := fun _ => True) (qX10_cutLastX hX hm' gA c1)) <;> decide
set_option maxRecDepth 100000 in
theorem sem_cancel {X : zX} (hX : X.1.stackTraces = false) {σ : zS} {x : Nat} {A S : zDk} {m : Nat} {U : Nat → zDk} {n : Nat} {T : Nat → Int32} {ll : Nat} {ln : Nat → Int32} {hs kf ld dt dc : Int32} {cd : Int32} (hK : zKp x (A, S, m, U, n, T, ll, ln, hs, kf, ld, dt, dc) σ) (hM : zMp (x + 261) cd (A, S, m, U, n, T, ll, ln, hs, kf, ld, dt, dc) σ) (hL : zLv (A, S, m, U, n, T, ll, ln, hs, kf, ld, dt, dc)) (hN : σ.2 = none) (hQ : ∀ i j : Nat, i < 7 → j < 7 → zQ X i = zQ X j → i = j) (p1 : Int32) : zSem X x mX9_cancel yX9_cancel mX10_cancel yX10_cancel [.int p1] [("java/lang/IndexOutOfBoundsException", 1), ("java/lang/UnsupportedOperationException", 2)] σ := by
  have gA : zGd A := hL.1
  have gS : zGd S := hL.2.1
  have hm8 : m ≤ 8 := hL.2.2.1
  have gU : ∀ t, t < m → zGd (U t) := hL.2.2.2.1
  have hn60 : n ≤ 60 := hL.2.2.2.2.1
  have hll : ll ≤ 400 := hL.2.2.2.2.2.1
  have hln : ∀ k, k < ll → narrow .char (.int (ln k)) = .int (ln k) := hL.2.2.2.2.2.2.1
  have hkf : kf = -1 ∨ 0 ≤ kf := hL.2.2.2.2.2.2.2.1
  have hdd : ld = 0 → dc = 0 := hL.2.2.2.2.2.2.2.2
  have hK' : zKt x A S m U n T ll ln hs kf ld dt dc σ := hK
  have hA := gA.1
  have hC8 := hA.1
  have hP8 := hA.2.1
  have wU : ∀ t, t < m → zDw (U t) := fun t ht => (gU t ht).1
  have eN : mN 0 m = min (m + 1) 8 := if_pos rfl
  have eU : UN 0 A U = zPu A U := if_pos rfl
  by_cases c1 : ¬ p1 < 0 ∧ p1 < nI (kC A)
  · obtain ⟨i, hi, rfl⟩ := zcas (by omega) c1
    have n16 := (hA.2.2 i (by omega)).1
    by_cases hob : zOb A 3 i = 0
    · have al := zOb_ok hob (by decide)
      have hr : kR A i = -1 := al.2.2.2.2.2.1 (by decide) (by decide)
      refine zSem_ok (p' := (aWord A i (zRP (kL A i) (kN A i)).1 (zRP (kL A i) (kN A i)).2, S, min (m + 1) 8, zPu A U, n, T, ll, ln, hs, kf, ld, dt, dc)) hM ?_ ?_ ?_ ?_ ⟨(gA.cmd (c := 3) (k := i) (l := 0) al (by decide) (fun q => absurd q (by decide))), gS, (show min (m + 1) 8 ≤ 8 by omega), (zgPu gA gU), hn60, hll, hln, hkf, hdd⟩ (qX9_cancel hX hK' hA hQ hi hob) (fun t ht => by obtain ⟨tm, dn, K, hm⟩ := ht; have hm' : zMo (x + 261) 0 tm cd dn K A S m U n T ll ln hs kf ld dt dc t := hm; have h2 := qX10_cancel hX hm' gA hi hr wU; rw [eN, eU] at h2; exact zMet.mq (p := (aWord A i (zRP (kL A i) (kN A i)).1 (zRP (kL A i) (kN A i)).2, S, min (m + 1) 8, zPu A U, n, T, ll, ln, hs, kf, ld, dt, dc)) h2) <;> decide
    · refine zSem_no (p' := (A, S, m, U, n, T, ll, ln, hs, kf, (zOb A 3 i), (zDt A 3 i (zOb A 3 i)), 0)) "java/lang/UnsupportedOperationException" 2 hM (by decide) ?_ ?_ ?_ ?_ ⟨gA, gS, hm8, gU, hn60, hll, hln, hkf, (fun _ => rfl)⟩ (qX9_cancelD hX hK' hA hQ hi hob hN) (fun t ht => by obtain ⟨tm, dn, K, hm⟩ := ht; have hm' : zMo (x + 261) 0 tm cd dn K A S m U n T ll ln hs kf ld dt dc t := hm; exact zMet.mq (p := (A, S, m, U, n, T, ll, ln, hs, kf, (zOb A 3 i), (zDt A 3 i (zOb A 3 i)), 0)) (R := fun _ => True) (qX10_cancelD hX hm' gA hi hob)) <;> decide
  · refine zSem_no (p' := (A, S, m, U, n, T, ll, ln, hs, kf, ld, dt, dc)) "java/lang/IndexOutOfBoundsException" 1 hM (by decide) ?_ ?_ ?_ ?_ hL (zMet.px hK (qX9_cancelX hX hK' hA c1 hN)) (fun t ht => by obtain ⟨tm, dn, K, hm⟩ := ht; have hm' : zMo (x + 261) 0 tm cd dn K A S m U n T ll ln hs kf ld dt dc t := hm; exact zMet.mq (p := (A, S, m, U, n, T, ll, ln, hs, kf, ld, dt, dc)) (R := fun _ => True) (qX10_cancelX hX hm' gA c1)) <;> decide
set_option maxRecDepth 100000 in
theorem sem_relax {X : zX} (hX : X.1.stackTraces = false) {σ : zS} {x : Nat} {A S : zDk} {m : Nat} {U : Nat → zDk} {n : Nat} {T : Nat → Int32} {ll : Nat} {ln : Nat → Int32} {hs kf ld dt dc : Int32} {cd : Int32} (hK : zKp x (A, S, m, U, n, T, ll, ln, hs, kf, ld, dt, dc) σ) (hM : zMp (x + 261) cd (A, S, m, U, n, T, ll, ln, hs, kf, ld, dt, dc) σ) (hL : zLv (A, S, m, U, n, T, ll, ln, hs, kf, ld, dt, dc)) (hN : σ.2 = none) (hQ : ∀ i j : Nat, i < 7 → j < 7 → zQ X i = zQ X j → i = j) (p1 : Int32) : zSem X x mX9_relax yX9_relax mX10_relax yX10_relax [.int p1] [("java/lang/IndexOutOfBoundsException", 1), ("java/lang/UnsupportedOperationException", 2)] σ := by
  have gA : zGd A := hL.1
  have gS : zGd S := hL.2.1
  have hm8 : m ≤ 8 := hL.2.2.1
  have gU : ∀ t, t < m → zGd (U t) := hL.2.2.2.1
  have hn60 : n ≤ 60 := hL.2.2.2.2.1
  have hll : ll ≤ 400 := hL.2.2.2.2.2.1
  have hln : ∀ k, k < ll → narrow .char (.int (ln k)) = .int (ln k) := hL.2.2.2.2.2.2.1
  have hkf : kf = -1 ∨ 0 ≤ kf := hL.2.2.2.2.2.2.2.1
  have hdd : ld = 0 → dc = 0 := hL.2.2.2.2.2.2.2.2
  have hK' : zKt x A S m U n T ll ln hs kf ld dt dc σ := hK
  have hA := gA.1
  have hC8 := hA.1
  have hP8 := hA.2.1
  have wU : ∀ t, t < m → zDw (U t) := fun t ht => (gU t ht).1
  have eN : mN 0 m = min (m + 1) 8 := if_pos rfl
  have eU : UN 0 A U = zPu A U := if_pos rfl
  by_cases c1 : ¬ p1 < 0 ∧ p1 < nI (kC A)
  · obtain ⟨i, hi, rfl⟩ := zcas (by omega) c1
    have n16 := (hA.2.2 i (by omega)).1
    by_cases hob : zOb A 4 i = 0
    · have al := zOb_ok hob (by decide)
      have hr : kR A i = -1 := al.2.2.2.2.2.1 (by decide) (by decide)
      obtain ⟨⟨q, W⟩, hO, hw⟩ := al.2.2.2.2.1 rfl
      refine zSem_ok (p' := (aWord A i W.length (wv W), S, min (m + 1) 8, zPu A U, n, T, ll, ln, hs, kf, ld, dt, dc)) hM ?_ ?_ ?_ ?_ ⟨(gA.rel (by omega) hr hO hw), gS, (show min (m + 1) 8 ≤ 8 by omega), (zgPu gA gU), hn60, hll, hln, hkf, hdd⟩ (qX9_relax hX hK' hA hQ hi hO hw hob) (fun t ht => by obtain ⟨tm, dn, K, hm⟩ := ht; have hm' : zMo (x + 261) 0 tm cd dn K A S m U n T ll ln hs kf ld dt dc t := hm; have h2 := qX10_relax hX hm' gA hi hr hO hw wU; rw [eN, eU] at h2; exact zMet.mq (p := (aWord A i W.length (wv W), S, min (m + 1) 8, zPu A U, n, T, ll, ln, hs, kf, ld, dt, dc)) h2) <;> decide
    · refine zSem_no (p' := (A, S, m, U, n, T, ll, ln, hs, kf, (zOb A 4 i), (zDt A 4 i (zOb A 4 i)), 0)) "java/lang/UnsupportedOperationException" 2 hM (by decide) ?_ ?_ ?_ ?_ ⟨gA, gS, hm8, gU, hn60, hll, hln, hkf, (fun _ => rfl)⟩ (qX9_relaxD hX hK' hA hQ hi hob hN) (fun t ht => by obtain ⟨tm, dn, K, hm⟩ := ht; have hm' : zMo (x + 261) 0 tm cd dn K A S m U n T ll ln hs kf ld dt dc t := hm; exact zMet.mq (p := (A, S, m, U, n, T, ll, ln, hs, kf, (zOb A 4 i), (zDt A 4 i (zOb A 4 i)), 0)) (R := fun _ => True) (qX10_relaxD hX hm' gA hi hob)) <;> decide
  · refine zSem_no (p' := (A, S, m, U, n, T, ll, ln, hs, kf, ld, dt, dc)) "java/lang/IndexOutOfBoundsException" 1 hM (by decide) ?_ ?_ ?_ ?_ hL (zMet.px hK (qX9_relaxX hX hK' hA c1 hN)) (fun t ht => by obtain ⟨tm, dn, K, hm⟩ := ht; have hm' : zMo (x + 261) 0 tm cd dn K A S m U n T ll ln hs kf ld dt dc t := hm; exact zMet.mq (p := (A, S, m, U, n, T, ll, ln, hs, kf, ld, dt, dc)) (R := fun _ => True) (qX10_relaxX hX hm' gA c1)) <;> decide
set_option maxRecDepth 100000 in
theorem sem_decide {X : zX} (hX : X.1.stackTraces = false) {σ : zS} {x : Nat} {A S : zDk} {m : Nat} {U : Nat → zDk} {n : Nat} {T : Nat → Int32} {ll : Nat} {ln : Nat → Int32} {hs kf ld dt dc : Int32} {cd : Int32} (hK : zKp x (A, S, m, U, n, T, ll, ln, hs, kf, ld, dt, dc) σ) (hM : zMp (x + 261) cd (A, S, m, U, n, T, ll, ln, hs, kf, ld, dt, dc) σ) (hL : zLv (A, S, m, U, n, T, ll, ln, hs, kf, ld, dt, dc)) (hN : σ.2 = none) (hQ : ∀ i j : Nat, i < 7 → j < 7 → zQ X i = zQ X j → i = j) (p1 : Int32) : zSem X x mX9_decide yX9_decide mX10_decide yX10_decide [.int p1] [("java/lang/IndexOutOfBoundsException", 1), ("java/lang/UnsupportedOperationException", 2)] σ := by
  have gA : zGd A := hL.1
  have gS : zGd S := hL.2.1
  have hm8 : m ≤ 8 := hL.2.2.1
  have gU : ∀ t, t < m → zGd (U t) := hL.2.2.2.1
  have hn60 : n ≤ 60 := hL.2.2.2.2.1
  have hll : ll ≤ 400 := hL.2.2.2.2.2.1
  have hln : ∀ k, k < ll → narrow .char (.int (ln k)) = .int (ln k) := hL.2.2.2.2.2.2.1
  have hkf : kf = -1 ∨ 0 ≤ kf := hL.2.2.2.2.2.2.2.1
  have hdd : ld = 0 → dc = 0 := hL.2.2.2.2.2.2.2.2
  have hK' : zKt x A S m U n T ll ln hs kf ld dt dc σ := hK
  have hA := gA.1
  have hC8 := hA.1
  have hP8 := hA.2.1
  have wU : ∀ t, t < m → zDw (U t) := fun t ht => (gU t ht).1
  have eN : mN 0 m = min (m + 1) 8 := if_pos rfl
  have eU : UN 0 A U = zPu A U := if_pos rfl
  by_cases c1 : ¬ p1 < 0 ∧ p1 < nI (kC A)
  · obtain ⟨i, hi, rfl⟩ := zcas (by omega) c1
    have n16 := (hA.2.2 i (by omega)).1
    by_cases hob : zOb A 5 i = 0
    · have al := zOb_ok hob (by decide)
      have hr : kR A i = -1 := al.2.2.2.2.2.1 (by decide) (by decide)
      refine zSem_ok (p' := (aVer A i, S, min (m + 1) 8, zPu A U, n, T, ll, ln, hs, kf, ld, dt, dc)) hM ?_ ?_ ?_ ?_ ⟨(gA.cmd (c := 5) (k := i) (l := 0) al (by decide) (fun q => absurd q (by decide))), gS, (show min (m + 1) 8 ≤ 8 by omega), (zgPu gA gU), hn60, hll, hln, hkf, hdd⟩ (qX9_decide hX hK' hA hQ hi (by have := gA.lt hi hr; omega) (show zDw (aCmd A 5 i 0) from (gA.cmd (c := 5) (k := i) (l := 0) al (by decide) (fun q => absurd q (by decide))).1) hob) (fun t ht => by obtain ⟨tm, dn, K, hm⟩ := ht; have hm' : zMo (x + 261) 0 tm cd dn K A S m U n T ll ln hs kf ld dt dc t := hm; have h2 := qX10_decide hX hm' gA hi hr wU; rw [eN, eU] at h2; exact zMet.mq (p := (aVer A i, S, min (m + 1) 8, zPu A U, n, T, ll, ln, hs, kf, ld, dt, dc)) h2) <;> decide
    · refine zSem_no (p' := (A, S, m, U, n, T, ll, ln, hs, kf, (zOb A 5 i), (zDt A 5 i (zOb A 5 i)), 0)) "java/lang/UnsupportedOperationException" 2 hM (by decide) ?_ ?_ ?_ ?_ ⟨gA, gS, hm8, gU, hn60, hll, hln, hkf, (fun _ => rfl)⟩ (qX9_decideD hX hK' hA hQ hi hob hN) (fun t ht => by obtain ⟨tm, dn, K, hm⟩ := ht; have hm' : zMo (x + 261) 0 tm cd dn K A S m U n T ll ln hs kf ld dt dc t := hm; exact zMet.mq (p := (A, S, m, U, n, T, ll, ln, hs, kf, (zOb A 5 i), (zDt A 5 i (zOb A 5 i)), 0)) (R := fun _ => True) (qX10_decideD hX hm' gA hi hob)) <;> decide
  · refine zSem_no (p' := (A, S, m, U, n, T, ll, ln, hs, kf, ld, dt, dc)) "java/lang/IndexOutOfBoundsException" 1 hM (by decide) ?_ ?_ ?_ ?_ hL (zMet.px hK (qX9_decideX hX hK' hA c1 hN)) (fun t ht => by obtain ⟨tm, dn, K, hm⟩ := ht; have hm' : zMo (x + 261) 0 tm cd dn K A S m U n T ll ln hs kf ld dt dc t := hm; exact zMet.mq (p := (A, S, m, U, n, T, ll, ln, hs, kf, ld, dt, dc)) (R := fun _ => True) (qX10_decideX hX hm' gA c1)) <;> decide
set_option maxRecDepth 100000 in
theorem sem_appeal {X : zX} (hX : X.1.stackTraces = false) {σ : zS} {x : Nat} {A S : zDk} {m : Nat} {U : Nat → zDk} {n : Nat} {T : Nat → Int32} {ll : Nat} {ln : Nat → Int32} {hs kf ld dt dc : Int32} {cd : Int32} (hK : zKp x (A, S, m, U, n, T, ll, ln, hs, kf, ld, dt, dc) σ) (hM : zMp (x + 261) cd (A, S, m, U, n, T, ll, ln, hs, kf, ld, dt, dc) σ) (hL : zLv (A, S, m, U, n, T, ll, ln, hs, kf, ld, dt, dc)) (hN : σ.2 = none) (hQ : ∀ i j : Nat, i < 7 → j < 7 → zQ X i = zQ X j → i = j) (p1 : Int32) : zSem X x mX9_appeal yX9_appeal mX10_appeal yX10_appeal [.int p1] [("java/lang/IndexOutOfBoundsException", 1), ("java/lang/UnsupportedOperationException", 2)] σ := by
  have gA : zGd A := hL.1
  have gS : zGd S := hL.2.1
  have hm8 : m ≤ 8 := hL.2.2.1
  have gU : ∀ t, t < m → zGd (U t) := hL.2.2.2.1
  have hn60 : n ≤ 60 := hL.2.2.2.2.1
  have hll : ll ≤ 400 := hL.2.2.2.2.2.1
  have hln : ∀ k, k < ll → narrow .char (.int (ln k)) = .int (ln k) := hL.2.2.2.2.2.2.1
  have hkf : kf = -1 ∨ 0 ≤ kf := hL.2.2.2.2.2.2.2.1
  have hdd : ld = 0 → dc = 0 := hL.2.2.2.2.2.2.2.2
  have hK' : zKt x A S m U n T ll ln hs kf ld dt dc σ := hK
  have hA := gA.1
  have hC8 := hA.1
  have hP8 := hA.2.1
  have wU : ∀ t, t < m → zDw (U t) := fun t ht => (gU t ht).1
  have eN : mN 0 m = min (m + 1) 8 := if_pos rfl
  have eU : UN 0 A U = zPu A U := if_pos rfl
  by_cases c1 : ¬ p1 < 0 ∧ p1 < nI (kC A)
  · obtain ⟨i, hi, rfl⟩ := zcas (by omega) c1
    have n16 := (hA.2.2 i (by omega)).1
    by_cases hob : zOb A 6 i = 0
    · have al := zOb_ok hob (by decide)
      obtain ⟨p, hp, hR⟩ := kR_at gA hi (al.2.2.2.2.2.2 rfl).1
      have hk := (al.2.2.2.2.2.2 rfl).2
      rw [hR, nI_clamp (by omega)] at hk
      have gR : zGd (aRev A (kR A i).toNatClampNeg) := (gA.cmd (c := 6) (k := i) (l := 0) al (by decide) (fun q => absurd q (by decide)))
      rw [hR, nI_clamp (by omega)] at gR
      refine zSem_ok (p' := (aRev A p, S, min (m + 1) 8, zPu A U, n, T, ll, ln, hs, kf, ld, dt, dc)) hM ?_ ?_ ?_ ?_ ⟨gR, gS, (show min (m + 1) 8 ≤ 8 by omega), (zgPu gA gU), hn60, hll, hln, hkf, hdd⟩ (qX9_appeal hX hK' hA hQ hi hR (by omega) hob) (fun t ht => by obtain ⟨tm, dn, K, hm⟩ := ht; have hm' : zMo (x + 261) 0 tm cd dn K A S m U n T ll ln hs kf ld dt dc t := hm; have h2 := qX10_appeal hX hm' gA hi hp hR hk wU; rw [eN, eU] at h2; exact zMet.mq (p := (aRev A p, S, min (m + 1) 8, zPu A U, n, T, ll, ln, hs, kf, ld, dt, dc)) h2) <;> decide
    · refine zSem_no (p' := (A, S, m, U, n, T, ll, ln, hs, kf, (zOb A 6 i), (zDt A 6 i (zOb A 6 i)), 0)) "java/lang/UnsupportedOperationException" 2 hM (by decide) ?_ ?_ ?_ ?_ ⟨gA, gS, hm8, gU, hn60, hll, hln, hkf, (fun _ => rfl)⟩ (qX9_appealD hX hK' hA hQ hi hob hN) (fun t ht => by obtain ⟨tm, dn, K, hm⟩ := ht; have hm' : zMo (x + 261) 0 tm cd dn K A S m U n T ll ln hs kf ld dt dc t := hm; exact zMet.mq (p := (A, S, m, U, n, T, ll, ln, hs, kf, (zOb A 6 i), (zDt A 6 i (zOb A 6 i)), 0)) (R := fun _ => True) (qX10_appealD hX hm' gA hi hob)) <;> decide
  · refine zSem_no (p' := (A, S, m, U, n, T, ll, ln, hs, kf, ld, dt, dc)) "java/lang/IndexOutOfBoundsException" 1 hM (by decide) ?_ ?_ ?_ ?_ hL (zMet.px hK (qX9_appealX hX hK' hA c1 hN)) (fun t ht => by obtain ⟨tm, dn, K, hm⟩ := ht; have hm' : zMo (x + 261) 0 tm cd dn K A S m U n T ll ln hs kf ld dt dc t := hm; exact zMet.mq (p := (A, S, m, U, n, T, ll, ln, hs, kf, ld, dt, dc)) (R := fun _ => True) (qX10_appealX hX hm' gA c1)) <;> decide
theorem zEx_gd : ∀ {L : zTL} {A B : zDk} {i : Nat}, zGd A → (∀ q ∈ L, zLok q) → zEx A i L = .inl B → zGd B
  | [], A, B, i, gA, _, h => by injection h with h; exact h ▸ gA
  | (c, k, l) :: L, A, B, i, gA, ok, h => by
    have h1 := ok _ List.mem_cons_self
    by_cases hob : zOb A c k = 0
    · rw [zEx_ok L hob] at h
      exact zEx_gd (gA.cmd (zOb_ok hob h1.1) h1.1 h1.2.2) (fun q hq => ok q (List.mem_cons_of_mem _ hq)) h
    · rw [zEx_no L hob] at h; cases h
set_option maxRecDepth 100000 in
theorem sem_execute {X : zX} (hX : X.1.stackTraces = false) {σ : zS} {x : Nat} {A S : zDk} {m : Nat} {U : Nat → zDk} {n : Nat} {T : Nat → Int32} {ll : Nat} {ln : Nat → Int32} {hs kf ld dt dc : Int32} {cd : Int32} (hK : zKp x (A, S, m, U, n, T, ll, ln, hs, kf, ld, dt, dc) σ) (hM : zMp (x + 261) cd (A, S, m, U, n, T, ll, ln, hs, kf, ld, dt, dc) σ) (hL : zLv (A, S, m, U, n, T, ll, ln, hs, kf, ld, dt, dc)) (hN : σ.2 = none) (hQ : ∀ i j : Nat, i < 7 → j < 7 → zQ X i = zQ X j → i = j) : zSem X x mX9_execute yX9_execute mX10_execute yX10_execute [] [("java/lang/IllegalArgumentException", 1), ("java/lang/UnsupportedOperationException", 2)] σ := by
  have gA : zGd A := hL.1
  have gS : zGd S := hL.2.1
  have hm8 : m ≤ 8 := hL.2.2.1
  have gU : ∀ t, t < m → zGd (U t) := hL.2.2.2.1
  have hn60 : n ≤ 60 := hL.2.2.2.2.1
  have hll : ll ≤ 400 := hL.2.2.2.2.2.1
  have hln : ∀ k, k < ll → narrow .char (.int (ln k)) = .int (ln k) := hL.2.2.2.2.2.2.1
  have hkf : kf = -1 ∨ 0 ≤ kf := hL.2.2.2.2.2.2.2.1
  have hdd : ld = 0 → dc = 0 := hL.2.2.2.2.2.2.2.2
  have hK' : zKt x A S m U n T ll ln hs kf ld dt dc σ := hK
  have hA := gA.1
  have hC8 := hA.1
  have hP8 := hA.2.1
  have wU : ∀ t, t < m → zDw (U t) := fun t ht => (gU t ht).1
  have eN : mN 0 m = min (m + 1) 8 := if_pos rfl
  have eU : UN 0 A U = zPu A U := if_pos rfl
  rcases hP : zps T n 61 0 [] with ⟨ok, at_, L⟩
  have hz := zps_len (f := T) (n := n) hn60 61 0 [] (Nat.zero_le _) (Nat.le_refl _)
  have hok := zps_ok (f := T) (n := n) 61 0 [] (Nat.zero_le _) (fun q hq => by cases hq)
  rw [hP] at hz hok
  have at60 : at_ < 2 ^ 31 := by have := hz.1; simp only at this; omega
  replace hok : ∀ q ∈ L, zLok q := hok
  cases ok
  · refine zSem_no (p' := (A, S, m, U, 0, T, ll, ln, hs, nI at_, ld, dt, dc)) "java/lang/IllegalArgumentException" 1 hM (by decide) ?_ ?_ ?_ ?_ ⟨gA, gS, hm8, gU, Nat.zero_le _, hll, hln, (Or.inr (Int32.not_lt.mp (nI_pos at60))), hdd⟩ (qX9_executeF hX hK' gA hQ hP hN) (fun t ht => by obtain ⟨tm, dn, K, hm⟩ := ht; have hm' : zMo (x + 261) 0 tm cd dn K A S m U n T ll ln hs kf ld dt dc t := hm; exact (qX10_executeF hX hm' gA wU hP).mono (fun o u q => by obtain ⟨r, e, e2, F, tm1, h3⟩ := q; exact ⟨r, e, e2, F, tm1, _, _, h3⟩)) <;> decide
  · rcases hE : zEx A 0 L with B | ⟨i, ob⟩
    · have gB := zEx_gd gA hok hE
      have h1 := qX9_execute hX hK' gA hQ hP hN
      rw [hE] at h1
      refine zSem_ok (p' := (B, S, min (m + 1) 8, zPu A U, 0, T, ll, ln, hs, kf, ld, dt, dc)) hM ?_ ?_ ?_ ?_ ⟨gB, gS, (show min (m + 1) 8 ≤ 8 by omega), (zgPu gA gU), Nat.zero_le _, hll, hln, hkf, hdd⟩ h1 (fun t ht => by obtain ⟨tm, dn, K, hm⟩ := ht; have hm' : zMo (x + 261) 0 tm cd dn K A S m U n T ll ln hs kf ld dt dc t := hm; have h2 := qX10_execute hX hm' gA wU hP; rw [hE] at h2; exact h2.mono (fun o u q => by obtain ⟨r, e, e2, F, tm1, dn1, h3⟩ := q; exact ⟨r, e, e2, F, tm1, _, _, h3⟩)) <;> decide
    · have h1 := qX9_execute hX hK' gA hQ hP hN
      rw [hE] at h1
      refine zSem_no (p' := (A, S, m, U, 0, T, ll, ln, hs, kf, 7, nI i, ob)) "java/lang/UnsupportedOperationException" 2 hM (by decide) ?_ ?_ ?_ ?_ ⟨gA, gS, hm8, gU, Nat.zero_le _, hll, hln, hkf, (fun q => absurd (show (7 : Int32) = 0 from q) (by decide))⟩ h1 (fun t ht => by obtain ⟨tm, dn, K, hm⟩ := ht; have hm' : zMo (x + 261) 0 tm cd dn K A S m U n T ll ln hs kf ld dt dc t := hm; have h2 := qX10_execute hX hm' gA wU hP; rw [hE] at h2; exact h2.mono (fun o u q => by obtain ⟨r, e, e2, F, tm1, h3⟩ := q; exact ⟨r, e, e2, F, tm1, _, _, h3⟩)) <;> decide
