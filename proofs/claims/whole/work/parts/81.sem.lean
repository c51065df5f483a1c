/-! each call of both: alike -/
theorem zcas {p : Int32} {c : Nat} (hc : c < 2 ^ 31) (h : ¬ p < 0 ∧ p < nI c) : ∃ i, i < c ∧ p = nI i := by
  obtain ⟨h1, h2⟩ := h
  have a : 0 ≤ p.toInt := by
    have q : ¬ p.toInt < (0 : Int32).toInt := fun z => h1 (Int32.lt_iff_toInt_lt.mpr z)
    have e : (0 : Int32).toInt = 0 := by decide
    omega
  have e2 : p = nI p.toInt.toNat := by
    apply Int32.toInt_inj.mp
    have b := Int32.toInt_lt p
    show p.toInt = (Int32.ofNat p.toInt.toNat).toInt
    rw [Int32.toInt_ofNat_of_lt (by omega)]
    omega
  refine ⟨p.toInt.toNat, ?_, e2⟩
  rw [e2] at h2
  have b := Int32.toInt_lt p
  exact (nI_ltI (by omega) hc).mp h2
theorem zgPu {A : zDk} {U : Nat → zDk} {m : Nat} (gA : zGd A) (gU : ∀ t, t < m → zGd (U t)) : ∀ t, t < min (m + 1) 8 → zGd (zPu A U t)
  | 0, _ => gA
  | t + 1, h => gU t (by omega)
set_option maxRecDepth 100000 in
theorem sem_wordLength {X : zX} (hX : X.1.stackTraces = false) {σ : zS} {x : Nat} {A S : zDk} {m : Nat} {U : Nat → zDk} {n : Nat} {T : Nat → Int32} {ll : Nat} {ln : Nat → Int32} {hs kf ld dt dc : Int32} {cd : Int32} (hK : zKp x (A, S, m, U, n, T, ll, ln, hs, kf, ld, dt, dc) σ) (hM : zMp (x + 261) cd (A, S, m, U, n, T, ll, ln, hs, kf, ld, dt, dc) σ) (hL : zLv (A, S, m, U, n, T, ll, ln, hs, kf, ld, dt, dc)) (hN : σ.2 = none) (hQ : ∀ i j : Nat, i < 7 → j < 7 → zQ X i = zQ X j → i = j) (p1 : Int32) : zSem X x mX9_wordLength yX9_wordLength mX10_wordLength yX10_wordLength [.int p1] [("java/lang/IndexOutOfBoundsException", 1)] σ := by
  have gA : zGd A := hL.1
  have gS : zGd S := hL.2.1
  have hm8 : m ≤ 8 := hL.2.2.1
  have gU : ∀ t, t < m → zGd (U t) := hL.2.2.2.1
  have hn60 : n ≤ 60 := hL.2.2.2.2.1
  have hll : ll ≤ 400 := hL.2.2.2.2.2.1
  have hln : ∀ k, k < ll → narrow .char (.int (ln k)) = .int (ln k) := hL.2.2.2.2.2.2.1
  have hkf : kf = -1 ∨ 0 ≤ kf := hL.2.2.2.2.2.2.2.1
  have hdd : ld = 0 → dc = 0 := hL.2.2.2.2.2.2.2.2
  have hK' : zKt x A S m U n T ll ln hs kf ld dt dc σ := hK
  have hA := gA.1
  have hC8 := hA.1
  have hP8 := hA.2.1
  have wU : ∀ t, t < m → zDw (U t) := fun t ht => (gU t ht).1
  have eN : mN 0 m = min (m + 1) 8 := if_pos rfl
  have eU : UN 0 A U = zPu A U := if_pos rfl
  by_cases c1 : ¬ p1 < 0 ∧ p1 < nI (kC A)
  · obtain ⟨i, hi, rfl⟩ := zcas (by omega) c1
    refine zSem_ok (p' := (A, S, m, U, n, T, ll, ln, hs, kf, ld, dt, dc)) hM ?_ ?_ ?_ ?_ hL (zMet.pu hK (qX9_wordLength hX hK' hA hi)) (fun t ht => by obtain ⟨tm, dn, K, hm⟩ := ht; have hm' : zMo (x + 261) 0 tm cd dn K A S m U n T ll ln hs kf ld dt dc t := hm; exact zMet.mq (p := (A, S, m, U, n, T, ll, ln, hs, kf, ld, dt, dc)) (qX10_wordLength hX hm' gA hi)) <;> decide
  · refine zSem_no (p' := (A, S, m, U, n, T, ll, ln, hs, kf, ld, dt, dc)) "java/lang/IndexOutOfBoundsException" 1 hM (by decide) ?_ ?_ ?_ ?_ hL (zMet.px hK (qX9_wordLengthX hX hK' hA c1 hN)) (fun t ht => by obtain ⟨tm, dn, K, hm⟩ := ht; have hm' : zMo (x + 261) 0 tm cd dn K A S m U n T ll ln hs kf ld dt dc t := hm; exact zMet.mq (p := (A, S, m, U, n, T, ll, ln, hs, kf, ld, dt, dc)) (R := fun _ => True) (qX10_wordLengthX hX hm' gA c1)) <;> decide
set_option maxRecDepth 100000 in
theorem sem_writhe {X : zX} (hX : X.1.stackTraces = false) {σ : zS} {x : Nat} {A S : zDk} {m : Nat} {U : Nat → zDk} {n : Nat} {T : Nat → Int32} {ll : Nat} {ln : Nat → Int32} {hs kf ld dt dc : Int32} {cd : Int32} (hK : zKp x (A, S, m, U, n, T, ll, ln, hs, kf, ld, dt, dc) σ) (hM : zMp (x + 261) cd (A, S, m, U, n, T, ll, ln, hs, kf, ld, dt, dc) σ) (hL : zLv (A, S, m, U, n, T, ll, ln, hs, kf, ld, dt, dc)) (hN : σ.2 = none) (hQ : ∀ i j : Nat, i < 7 → j < 7 → zQ X i = zQ X j → i = j) (p1 : Int32) : zSem X x mX9_writhe yX9_writhe mX10_writhe yX10_writhe [.int p1] [("java/lang/IndexOutOfBoundsException", 1)] σ := by
  have gA : zGd A := hL.1
  have gS : zGd S := hL.2.1
  have hm8 : m ≤ 8 := hL.2.2.1
  have gU : ∀ t, t < m → zGd (U t) := hL.2.2.2.1
  have hn60 : n ≤ 60 := hL.2.2.2.2.1
  have hll : ll ≤ 400 := hL.2.2.2.2.2.1
  have hln : ∀ k, k < ll → narrow .char (.int (ln k)) = .int (ln k) := hL.2.2.2.2.2.2.1
  have hkf : kf = -1 ∨ 0 ≤ kf := hL.2.2.2.2.2.2.2.1
  have hdd : ld = 0 → dc = 0 := hL.2.2.2.2.2.2.2.2
  have hK' : zKt x A S m U n T ll ln hs kf ld dt dc σ := hK
  have hA := gA.1
  have hC8 := hA.1
  have hP8 := hA.2.1
  have wU : ∀ t, t < m → zDw (U t) := fun t ht => (gU t ht).1
  have eN : mN 0 m = min (m + 1) 8 := if_pos rfl
  have eU : UN 0 A U = zPu A U := if_pos rfl
  by_cases c1 : ¬ p1 < 0 ∧ p1 < nI (kC A)
  · obtain ⟨i, hi, rfl⟩ := zcas (by omega) c1
    refine zSem_ok (p' := (A, S, m, U, n, T, ll, ln, hs, kf, ld, dt, dc)) hM ?_ ?_ ?_ ?_ hL (zMet.pu hK (qX9_writhe hX hK' hA hi)) (fun t ht => by obtain ⟨tm, dn, K, hm⟩ := ht; have hm' : zMo (x + 261) 0 tm cd dn K A S m U n T ll ln hs kf ld dt dc t := hm; exact zMet.mq (p := (A, S, m, U, n, T, ll, ln, hs, kf, ld, dt, dc)) (qX10_writhe hX hm' gA hi)) <;> decide
  · refine zSem_no (p' := (A, S, m, U, n, T, ll, ln, hs, kf, ld, dt, dc)) "java/lang/IndexOutOfBoundsException" 1 hM (by decide) ?_ ?_ ?_ ?_ hL (zMet.px hK (qX9_writheX hX hK' hA c1 hN)) (fun t ht => by obtain ⟨tm, dn, K, hm⟩ := ht; have hm' : zMo (x + 261) 0 tm cd dn K A S m U n T ll ln hs kf ld dt dc t := hm; exact zMet.mq (p := (A, S, m, U, n, T, ll, ln, hs, kf, ld, dt, dc)) (R := fun _ => True) (qX10_writheX hX hm' gA c1)) <;> decide
set_option maxRecDepth 100000 in
theorem sem_closedThreads {X : zX} (hX : X.1.stackTraces = false) {σ : zS} {x : Nat} {A S : zDk} {m : Nat} {U : Nat → zDk} {n : Nat} {T : Nat → Int32} {ll : Nat} {ln : Nat → Int32} {hs kf ld dt dc : Int32} {cd : Int32} (hK : zKp x (A, S, m, U, n, T, ll, ln, hs, kf, ld, dt, dc) σ) (hM : zMp (x + 261) cd (A, S, m, U, n, T, ll, ln, hs, kf, ld, dt, dc) σ) (hL : zLv (A, S, m, U, n, T, ll, ln, hs, kf, ld, dt, dc)) (hN : σ.2 = none) (hQ : ∀ i j : Nat, i < 7 → j < 7 → zQ X i = zQ X j → i = j) (p1 : Int32) : zSem X x mX9_closedThreads yX9_closedThreads mX10_closedThreads yX10_closedThreads [.int p1] [("java/lang/IndexOutOfBoundsException", 1)] σ := by
  have gA : zGd A := hL.1
  have gS : zGd S := hL.2.1
  have hm8 : m ≤ 8 := hL.2.2.1
  have gU : ∀ t, t < m → zGd (U t) := hL.2.2.2.1
  have hn60 : n ≤ 60 := hL.2.2.2.2.1
  have hll : ll ≤ 400 := hL.2.2.2.2.2.1
  have hln : ∀ k, k < ll → narrow .char (.int (ln k)) = .int (ln k) := hL.2.2.2.2.2.2.1
  have hkf : kf = -1 ∨ 0 ≤ kf := hL.2.2.2.2.2.2.2.1
  have hdd : ld = 0 → dc = 0 := hL.2.2.2.2.2.2.2.2
  have hK' : zKt x A S m U n T ll ln hs kf ld dt dc σ := hK
  have hA := gA.1
  have hC8 := hA.1
  have hP8 := hA.2.1
  have wU : ∀ t, t < m → zDw (U t) := fun t ht => (gU t ht).1
  have eN : mN 0 m = min (m + 1) 8 := if_pos rfl
  have eU : UN 0 A U = zPu A U := if_pos rfl
  by_cases c1 : ¬ p1 < 0 ∧ p1 < nI (kC A)
  · obtain ⟨i, hi, rfl⟩ := zcas (by omega) c1
    refine zSem_ok (p' := (A, S, m, U, n, T, ll, ln, hs, kf, ld, dt, dc)) hM ?_ ?_ ?_ ?_ hL (zMet.pu hK (qX9_closedThreads hX hK' hA hi)) (fun t ht => by obtain ⟨tm, dn, K, hm⟩ := ht; have hm' : zMo (x + 261) 0 tm cd dn K A S m U n T ll ln hs kf ld dt dc t := hm; exact zMet.mq (p := (A, S, m, U, n, T, ll, ln, hs, kf, ld, dt, dc)) (qX10_closedThreads hX hm' gA hi)) <;> decide
  · refine zSem_no (p' := (A, S, m, U, n, T, ll, ln, hs, kf, ld, dt, dc)) "java/lang/IndexOutOfBoundsException" 1 hM (by decide) ?_ ?_ ?_ ?_ hL (zMet.px hK (qX9_closedThreadsX hX hK' hA c1 hN)) (fun t ht => by obtain ⟨tm, dn, K, hm⟩ := ht; have hm' : zMo (x + 261) 0 tm cd dn K A S m U n T ll ln hs kf ld dt dc t := hm; exact zMet.mq (p := (A, S, m, U, n, T, ll, ln, hs, kf, ld, dt, dc)) (R := fun _ => True) (qX10_closedThreadsX hX hm' gA c1)) <;> decide
set_option maxRecDepth 100000 in
theorem sem_isDecided {X : zX} (hX : X.1.stackTraces = false) {σ : zS} {x : Nat} {A S : zDk} {m : Nat} {U : Nat → zDk} {n : Nat} {T : Nat → Int32} {ll : Nat} {ln : Nat → Int32} {hs kf ld dt dc : Int32} {cd : Int32} (hK : zKp x (A, S, m, U, n, T, ll, ln, hs, kf, ld, dt, dc) σ) (hM : zMp (x + 261) cd (A, S, m, U, n, T, ll, ln, hs, kf, ld, dt, dc) σ) (hL : zLv (A, S, m, U, n, T, ll, ln, hs, kf, ld, dt, dc)) (hN : σ.2 = none) (hQ : ∀ i j : Nat, i < 7 → j < 7 → zQ X i = zQ X j → i = j) (p1 : Int32) : zSem X x mX9_isDecided yX9_isDecided mX10_isDecided yX10_isDecided [.int p1] [("java/lang/IndexOutOfBoundsException", 1)] σ := by
  have gA : zGd A := hL.1
  have gS : zGd S := hL.2.1
  have hm8 : m ≤ 8 := hL.2.2.1
  have gU : ∀ t, t < m → zGd (U t) := hL.2.2.2.1
  have hn60 : n ≤ 60 := hL.2.2.2.2.1
  have hll : ll ≤ 400 := hL.2.2.2.2.2.1
  have hln : ∀ k, k < ll → narrow .char (.int (ln k)) = .int (ln k) := hL.2.2.2.2.2.2.1
  have hkf : kf = -1 ∨ 0 ≤ kf := hL.2.2.2.2.2.2.2.1
  have hdd : ld = 0 → dc = 0 := hL.2.2.2.2.2.2.2.2
  have hK' : zKt x A S m U n T ll ln hs kf ld dt dc σ := hK
  have hA := gA.1
  have hC8 := hA.1
  have hP8 := hA.2.1
  have wU : ∀ t, t < m → zDw (U t) := fun t ht => (gU t ht).1
  have eN : mN 0 m = min (m + 1) 8 := if_pos rfl
  have eU : UN 0 A U = zPu A U := if_pos rfl
  by_cases c1 : ¬ p1 < 0 ∧ p1 < nI (kC A)
  · obtain ⟨i, hi, rfl⟩ := zcas (by omega) c1
    refine zSem_ok (p' := (A, S, m, U, n, T, ll, ln, hs, kf, ld, dt, dc)) hM ?_ ?_ ?_ ?_ hL (zMet.pu hK (qX9_isDecided hX hK' hA hi)) (fun t ht => by obtain ⟨tm, dn, K, hm⟩ := ht; have hm' : zMo (x + 261) 0 tm cd dn K A S m U n T ll ln hs kf ld dt dc t := hm; exact zMet.mq (p := (A, S, m, U, n, T, ll, ln, hs, kf, ld, dt, dc)) (qX10_isDecided hX hm' gA hi)) <;> decide
  · refine zSem_no (p' := (A, S, m, U, n, T, ll, ln, hs, kf, ld, dt, dc)) "java/lang/IndexOutOfBoundsException" 1 hM (by decide) ?_ ?_ ?_ ?_ hL (zMet.px hK (qX9_isDecidedX hX hK' hA c1 hN)) (fun t ht => by obtain ⟨tm, dn, K, hm⟩ := ht; have hm' : zMo (x + 261) 0 tm cd dn K A S m U n T ll ln hs kf ld dt dc t := hm; exact zMet.mq (p := (A, S, m, U, n, T, ll, ln, hs, kf, ld, dt, dc)) (R := fun _ => True) (qX10_isDecidedX hX hm' gA c1)) <;> decide
set_option maxRecDepth 100000 in
theorem sem_isTangled {X : zX} (hX : X.1.stackTraces = false) {σ : zS} {x : Nat} {A S : zDk} {m : Nat} {U : Nat → zDk} {n : Nat} {T : Nat → Int32} {ll : Nat} {ln : Nat → Int32} {hs kf ld dt dc : Int32} {cd : Int32} (hK : zKp x (A, S, m, U, n, T, ll, ln, hs, kf, ld, dt, dc) σ) (hM : zMp (x + 261) cd (A, S, m, U, n, T, ll, ln, hs, kf, ld, dt, dc) σ) (hL : zLv (A, S, m, U, n, T, ll, ln, hs, kf, ld, dt, dc)) (hN : σ.2 = none) (hQ : ∀ i j : Nat, i < 7 → j < 7 → zQ X i = zQ X j → i = j) (p1 : Int32) : zSem X x mX9_isTangled yX9_isTangled mX10_isTangled yX10_isTangled [.int p1] [("java/lang/IndexOutOfBoundsException", 1)] σ := by
  have gA : zGd A := hL.1
  have gS : zGd S := hL.2.1
  have hm8 : m ≤ 8 := hL.2.2.1
  have gU : ∀ t, t < m → zGd (U t) := hL.2.2.2.1
  have hn60 : n ≤ 60 := hL.2.2.2.2.1
  have hll : ll ≤ 400 := hL.2.2.2.2.2.1
  have hln : ∀ k, k < ll → narrow .char (.int (ln k)) = .int (ln k) := hL.2.2.2.2.2.2.1
  have hkf : kf = -1 ∨ 0 ≤ kf := hL.2.2.2.2.2.2.2.1
  have hdd : ld = 0 → dc = 0 := hL.2.2.2.2.2.2.2.2
  have hK' : zKt x A S m U n T ll ln hs kf ld dt dc σ := hK
  have hA := gA.1
  have hC8 := hA.1
  have hP8 := hA.2.1
  have wU : ∀ t, t < m → zDw (U t) := fun t ht => (gU t ht).1
  have eN : mN 0 m = min (m + 1) 8 := if_pos rfl
  have eU : UN 0 A U = zPu A U := if_pos rfl
  by_cases c1 : ¬ p1 < 0 ∧ p1 < nI (kC A)
  · obtain ⟨i, hi, rfl⟩ := zcas (by omega) c1
    refine zSem_ok (p' := (A, S, m, U, n, T, ll, ln, hs, kf, ld, dt, dc)) hM ?_ ?_ ?_ ?_ hL (zMet.pu hK (qX9_isTangled hX hK' hA hi)) (fun t ht => by obtain ⟨tm, dn, K, hm⟩ := ht; have hm' : zMo (x + 261) 0 tm cd dn K A S m U n T ll ln hs kf ld dt dc t := hm; exact zMet.mq (p := (A, S, m, U, n, T, ll, ln, hs, kf, ld, dt, dc)) (qX10_isTangled hX hm' gA hi)) <;> decide
  · refine zSem_no (p' := (A, S, m, U, n, T, ll, ln, hs, kf, ld, dt, dc)) "java/lang/IndexOutOfBoundsException" 1 hM (by decide) ?_ ?_ ?_ ?_ hL (zMet.px hK (qX9_isTangledX hX hK' hA c1 hN)) (fun t ht => by obtain ⟨tm, dn, K, hm⟩ := ht; have hm' : zMo (x + 261) 0 tm cd dn K A S m U n T ll ln hs kf ld dt dc t := hm; exact zMet.mq (p := (A, S, m, U, n, T, ll, ln, hs, kf, ld, dt, dc)) (R := fun _ => True) (qX10_isTangledX hX hm' gA c1)) <;> decide
set_option maxRecDepth 100000 in
theorem sem_caseCount {X : zX} (hX : X.1.stackTraces = false) {σ : zS} {x : Nat} {A S : zDk} {m : Nat} {U : Nat → zDk} {n : Nat} {T : Nat → Int32} {ll : Nat} {ln : Nat → Int32} {hs kf ld dt dc : Int32} {cd : Int32} (hK : zKp x (A, S, m, U, n, T, ll, ln, hs, kf, ld, dt, dc) σ) (hM : zMp (x + 261) cd (A, S, m, U, n, T, ll, ln, hs, kf, ld, dt, dc) σ) (hL : zLv (A, S, m, U, n, T, ll, ln, hs, kf, ld, dt, dc)) (hN : σ.2 = none) (hQ : ∀ i j : Nat, i < 7 → j < 7 → zQ X i = zQ X j → i = j) : zSem X x mX9_caseCount yX9_caseCount mX10_caseCount yX10_caseCount [] [] σ := by
  have gA : zGd A := hL.1
  have gS : zGd S := hL.2.1
  have hm8 : m ≤ 8 := hL.2.2.1
  have gU : ∀ t, t < m → zGd (U t) := hL.2.2.2.1
  have hn60 : n ≤ 60 := hL.2.2.2.2.1
  have hll : ll ≤ 400 := hL.2.2.2.2.2.1
  have hln : ∀ k, k < ll → narrow .char (.int (ln k)) = .int (ln k) := hL.2.2.2.2.2.2.1
  have hkf : kf = -1 ∨ 0 ≤ kf := hL.2.2.2.2.2.2.2.1
  have hdd : ld = 0 → dc = 0 := hL.2.2.2.2.2.2.2.2
  have hK' : zKt x A S m U n T ll ln hs kf ld dt dc σ := hK
  have hA := gA.1
  have hC8 := hA.1
  have hP8 := hA.2.1
  have wU : ∀ t, t < m → zDw (U t) := fun t ht => (gU t ht).1
  have eN : mN 0 m = min (m + 1) 8 := if_pos rfl
  have eU : UN 0 A U = zPu A U := if_pos rfl
  refine zSem_ok (p' := (A, S, m, U, n, T, ll, ln, hs, kf, ld, dt, dc)) hM ?_ ?_ ?_ ?_ hL (zMet.pu hK (qX9_caseCount hX hK' hA)) (fun t ht => by obtain ⟨tm, dn, K, hm⟩ := ht; have hm' : zMo (x + 261) 0 tm cd dn K A S m U n T ll ln hs kf ld dt dc t := hm; exact zMet.mq (p := (A, S, m, U, n, T, ll, ln, hs, kf, ld, dt, dc)) (qX10_caseCount hX hm' gA)) <;> decide
set_option maxRecDepth 100000 in
theorem sem_precedentCount {X : zX} (hX : X.1.stackTraces = false) {σ : zS} {x : Nat} {A S : zDk} {m : Nat} {U : Nat → zDk} {n : Nat} {T : Nat → Int32} {ll : Nat} {ln : Nat → Int32} {hs kf ld dt dc : Int32} {cd : Int32} (hK : zKp x (A, S, m, U, n, T, ll, ln, hs, kf, ld, dt, dc) σ) (hM : zMp (x + 261) cd (A, S, m, U, n, T, ll, ln, hs, kf, ld, dt, dc) σ) (hL : zLv (A, S, m, U, n, T, ll, ln, hs, kf, ld, dt, dc)) (hN : σ.2 = none) (hQ : ∀ i j : Nat, i < 7 → j < 7 → zQ X i = zQ X j → i = j) : zSem X x mX9_precedentCount yX9_precedentCount mX10_precedentCount yX10_precedentCount [] [] σ := by
  have gA : zGd A := hL.1
  have gS : zGd S := hL.2.1
  have hm8 : m ≤ 8 := hL.2.2.1
  have gU : ∀ t, t < m → zGd (U t) := hL.2.2.2.1
  have hn60 : n ≤ 60 := hL.2.2.2.2.1
  have hll : ll ≤ 400 := hL.2.2.2.2.2.1
  have hln : ∀ k, k < ll → narrow .char (.int (ln k)) = .int (ln k) := hL.2.2.2.2.2.2.1
  have hkf : kf = -1 ∨ 0 ≤ kf := hL.2.2.2.2.2.2.2.1
  have hdd : ld = 0 → dc = 0 := hL.2.2.2.2.2.2.2.2
  have hK' : zKt x A S m U n T ll ln hs kf ld dt dc σ := hK
  have hA := gA.1
  have hC8 := hA.1
  have hP8 := hA.2.1
  have wU : ∀ t, t < m → zDw (U t) := fun t ht => (gU t ht).1
  have eN : mN 0 m = min (m + 1) 8 := if_pos rfl
  have eU : UN 0 A U = zPu A U := if_pos rfl
  refine zSem_ok (p' := (A, S, m, U, n, T, ll, ln, hs, kf, ld, dt, dc)) hM ?_ ?_ ?_ ?_ hL (zMet.pu hK (qX9_precedentCount hX hK' hA)) (fun t ht => by obtain ⟨tm, dn, K, hm⟩ := ht; have hm' : zMo (x + 261) 0 tm cd dn K A S m U n T ll ln hs kf ld dt dc t := hm; exact zMet.mq (p := (A, S, m, U, n, T, ll, ln, hs, kf, ld, dt, dc)) (qX10_precedentCount hX hm' gA)) <;> decide
set_option maxRecDepth 100000 in
theorem sem_decidedCount {X : zX} (hX : X.1.stackTraces = false) {σ : zS} {x : Nat} {A S : zDk} {m : Nat} {U : Nat → zDk} {n : Nat} {T : Nat → Int32} {ll : Nat} {ln : Nat → Int32} {hs kf ld dt dc : Int32} {cd : Int32} (hK : zKp x (A, S, m, U, n, T, ll, ln, hs, kf, ld, dt, dc) σ) (hM : zMp (x + 261) cd (A, S, m, U, n, T, ll, ln, hs, kf, ld, dt, dc) σ) (hL : zLv (A, S, m, U, n, T, ll, ln, hs, kf, ld, dt, dc)) (hN : σ.2 = none) (hQ : ∀ i j : Nat, i < 7 → j < 7 → zQ X i = zQ X j → i = j) : zSem X x mX9_decidedCount yX9_decidedCount mX10_decidedCount yX10_decidedCount [] [] σ := by
  have gA : zGd A := hL.1
  have gS : zGd S := hL.2.1
  have hm8 : m ≤ 8 := hL.2.2.1
  have gU : ∀ t, t < m → zGd (U t) := hL.2.2.2.1
  have hn60 : n ≤ 60 := hL.2.2.2.2.1
  have hll : ll ≤ 400 := hL.2.2.2.2.2.1
  have hln : ∀ k, k < ll → narrow .char (.int (ln k)) = .int (ln k) := hL.2.2.2.2.2.2.1
  have hkf : kf = -1 ∨ 0 ≤ kf := hL.2.2.2.2.2.2.2.1
  have hdd : ld = 0 → dc = 0 := hL.2.2.2.2.2.2.2.2
  have hK' : zKt x A S m U n T ll ln hs kf ld dt dc σ := hK
  have hA := gA.1
  have hC8 := hA.1
  have hP8 := hA.2.1
  have wU : ∀ t, t < m → zDw (U t) := fun t ht => (gU t ht).1
  have eN : mN 0 m = min (m + 1) 8 := if_pos rfl
  have eU : UN 0 A U = zPu A U := if_pos rfl
  refine zSem_ok (p' := (A, S, m, U, n, T, ll, ln, hs, kf, ld, dt, dc)) hM ?_ ?_ ?_ ?_ hL (zMet.pu hK (qX9_decidedCount hX hK' hA)) (fun t ht => by obtain ⟨tm, dn, K, hm⟩ := ht; have hm' : zMo (x + 261) 0 tm cd dn K A S m U n T ll ln hs kf ld dt dc t := hm; exact zMet.mq (p := (A, S, m, U, n, T, ll, ln, hs, kf, ld, dt, dc)) (qX10_decidedCount hX hm' gA)) <;> decide
set_option maxRecDepth 100000 in
theorem sem_tangledCount {X : zX} (hX : X.1.stackTraces = false) {σ : zS} {x : Nat} {A S : zDk} {m : Nat} {U : Nat → zDk} {n : Nat} {T : Nat → Int32} {ll : Nat} {ln : Nat → Int32} {hs kf ld dt dc : Int32} {cd : Int32} (hK : zKp x (A, S, m, U, n, T, ll, ln, hs, kf, ld, dt, dc) σ) (hM : zMp (x + 261) cd (A, S, m, U, n, T, ll, ln, hs, kf, ld, dt, dc) σ) (hL : zLv (A, S, m, U, n, T, ll, ln, hs, kf, ld, dt, dc)) (hN : σ.2 = none) (hQ : ∀ i j : Nat, i < 7 → j < 7 → zQ X i = zQ X j → i = j) : zSem X x mX9_tangledCount yX9_tangledCount mX10_tangledCount yX10_tangledCount [] [] σ := by
  have gA : zGd A := hL.1
  have gS : zGd S := hL.2.1
  have hm8 : m ≤ 8 := hL.2.2.1
  have gU : ∀ t, t < m → zGd (U t) := hL.2.2.2.1
  have hn60 : n ≤ 60 := hL.2.2.2.2.1
  have hll : ll ≤ 400 := hL.2.2.2.2.2.1
  have hln : ∀ k, k < ll → narrow .char (.int (ln k)) = .int (ln k) := hL.2.2.2.2.2.2.1
  have hkf : kf = -1 ∨ 0 ≤ kf := hL.2.2.2.2.2.2.2.1
  have hdd : ld = 0 → dc = 0 := hL.2.2.2.2.2.2.2.2
  have hK' : zKt x A S m U n T ll ln hs kf ld dt dc σ := hK
  have hA := gA.1
  have hC8 := hA.1
  have hP8 := hA.2.1
  have wU : ∀ t, t < m → zDw (U t) := fun t ht => (gU t ht).1
  have eN : mN 0 m = min (m + 1) 8 := if_pos rfl
  have eU : UN 0 A U = zPu A U := if_pos rfl
  refine zSem_ok (p' := (A, S, m, U, n, T, ll, ln, hs, kf, ld, dt, dc)) hM ?_ ?_ ?_ ?_ hL (zMet.pu hK (qX9_tangledCount hX hK' hA)) (fun t ht => by obtain ⟨tm, dn, K, hm⟩ := ht; have hm' : zMo (x + 261) 0 tm cd dn K A S m U n T ll ln hs kf ld dt dc t := hm; exact zMet.mq (p := (A, S, m, U, n, T, ll, ln, hs, kf, ld, dt, dc)) (qX10_tangledCount hX hm' gA)) <;> decide
set_option maxRecDepth 100000 in
theorem sem_undoCount {X : zX} (hX : X.1.stackTraces = false) {σ : zS} {x : Nat} {A S : zDk} {m : Nat} {U : Nat → zDk} {n : Nat} {T : Nat → Int32} {ll : Nat} {ln : Nat → Int32} {hs kf ld dt dc : Int32} {cd : Int32} (hK : zKp x (A, S, m, U, n, T, ll, ln, hs, kf, ld, dt, dc) σ) (hM : zMp (x + 261) cd (A, S, m, U, n, T, ll, ln, hs, kf, ld, dt, dc) σ) (hL : zLv (A, S, m, U, n, T, ll, ln, hs, kf, ld, dt, dc)) (hN : σ.2 = none) (hQ : ∀ i j : Nat, i < 7 → j < 7 → zQ X i = zQ X j → i = j) : zSem X x mX9_undoCount yX9_undoCount mX10_undoCount yX10_undoCount [] [] σ := by
  have gA : zGd A := hL.1
  have gS : zGd S := hL.2.1
  have hm8 : m ≤ 8 := hL.2.2.1
  have gU : ∀ t, t < m → zGd (U t) := hL.2.2.2.1
  have hn60 : n ≤ 60 := hL.2.2.2.2.1
  have hll : ll ≤ 400 := hL.2.2.2.2.2.1
  have hln : ∀ k, k < ll → narrow .char (.int (ln k)) = .int (ln k) := hL.2.2.2.2.2.2.1
  have hkf : kf = -1 ∨ 0 ≤ kf := hL.2.2.2.2.2.2.2.1
  have hdd : ld = 0 → dc = 0 := hL.2.2.2.2.2.2.2.2
  have hK' : zKt x A S m U n T ll ln hs kf ld dt dc σ := hK
  have hA := gA.1
  have hC8 := hA.1
  have hP8 := hA.2.1
  have wU : ∀ t, t < m → zDw (U t) := fun t ht => (gU t ht).1
  have eN : mN 0 m = min (m + 1) 8 := if_pos rfl
  have eU : UN 0 A U = zPu A U := if_pos rfl
  refine zSem_ok (p' := (A, S, m, U, n, T, ll, ln, hs, kf, ld, dt, dc)) hM ?_ ?_ ?_ ?_ hL (zMet.pu hK (qX9_undoCount hX hK' hA)) (fun t ht => by obtain ⟨tm, dn, K, hm⟩ := ht; have hm' : zMo (x + 261) 0 tm cd dn K A S m U n T ll ln hs kf ld dt dc t := hm; exact zMet.mq (p := (A, S, m, U, n, T, ll, ln, hs, kf, ld, dt, dc)) (qX10_undoCount hX hm' gA)) <;> decide
set_option maxRecDepth 100000 in
theorem sem_letterAt {X : zX} (hX : X.1.stackTraces = false) {σ : zS} {x : Nat} {A S : zDk} {m : Nat} {U : Nat → zDk} {n : Nat} {T : Nat → Int32} {ll : Nat} {ln : Nat → Int32} {hs kf ld dt dc : Int32} {cd : Int32} (hK : zKp x (A, S, m, U, n, T, ll, ln, hs, kf, ld, dt, dc) σ) (hM : zMp (x + 261) cd (A, S, m, U, n, T, ll, ln, hs, kf, ld, dt, dc) σ) (hL : zLv (A, S, m, U, n, T, ll, ln, hs, kf, ld, dt, dc)) (hN : σ.2 = none) (hQ : ∀ i j : Nat, i < 7 → j < 7 → zQ X i = zQ X j → i = j) (p1 p2 : Int32) : zSem X x mX9_letterAt yX9_letterAt mX10_letterAt yX10_letterAt [.int p1, .int p2] [("java/lang/IndexOutOfBoundsException", 1), ("java/util/NoSuchElementException", 2)] σ := by
  have gA : zGd A := hL.1
  have gS : zGd S := hL.2.1
  have hm8 : m ≤ 8 := hL.2.2.1
  have gU : ∀ t, t < m → zGd (U t) := hL.2.2.2.1
  have hn60 : n ≤ 60 := hL.2.2.2.2.1
  have hll : ll ≤ 400 := hL.2.2.2.2.2.1
  have hln : ∀ k, k < ll → narrow .char (.int (ln k)) = .int (ln k) := hL.2.2.2.2.2.2.1
  have hkf : kf = -1 ∨ 0 ≤ kf := hL.2.2.2.2.2.2.2.1
  have hdd : ld = 0 → dc = 0 := hL.2.2.2.2.2.2.2.2
  have hK' : zKt x A S m U n T ll ln hs kf ld dt dc σ := hK
  have hA := gA.1
  have hC8 := hA.1
  have hP8 := hA.2.1
  have wU : ∀ t, t < m → zDw (U t) := fun t ht => (gU t ht).1
  have eN : mN 0 m = min (m + 1) 8 := if_pos rfl
  have eU : UN 0 A U = zPu A U := if_pos rfl
  by_cases c1 : ¬ p1 < 0 ∧ p1 < nI (kC A)
  · obtain ⟨i, hi, rfl⟩ := zcas (by omega) c1
    by_cases c2 : ¬ p2 < 0 ∧ p2 < nI (kN A i)
    · obtain ⟨j, hj, rfl⟩ := zcas (by omega) c2
      refine zSem_ok (p' := (A, S, m, U, n, T, ll, ln, hs, kf, ld, dt, dc)) hM ?_ ?_ ?_ ?_ hL (zMet.pu hK (qX9_letterAt hX hK' hA hi hj)) (fun t ht => by obtain ⟨tm, dn, K, hm⟩ := ht; have hm' : zMo (x + 261) 0 tm cd dn K A S m U n T ll ln hs kf ld dt dc t := hm; exact zMet.mq (p := (A, S, m, U, n, T, ll, ln, hs, kf, ld, dt, dc)) (qX10_letterAt hX hm' gA hi hj)) <;> decide
    · refine zSem_no (p' := (A, S, m, U, n, T, ll, ln, hs, kf, ld, dt, dc)) "java/util/NoSuchElementException" 2 hM (by decide) ?_ ?_ ?_ ?_ hL (zMet.px hK (qX9_letterAtN hX hK' hA hi c2 hN)) (fun t ht => by obtain ⟨tm, dn, K, hm⟩ := ht; have hm' : zMo (x + 261) 0 tm cd dn K A S m U n T ll ln hs kf ld dt dc t := hm; exact zMet.mq (p := (A, S, m, U, n, T, ll, ln, hs, kf, ld, dt, dc)) (R := fun _ => True) (qX10_letterAtN hX hm' gA hi c2)) <;> decide
  · refine zSem_no (p' := (A, S, m, U, n, T, ll, ln, hs, kf, ld, dt, dc)) "java/lang/IndexOutOfBoundsException" 1 hM (by decide) ?_ ?_ ?_ ?_ hL (zMet.px hK (qX9_letterAtX hX hK' hA c1 hN (p2 := p2))) (fun t ht => by obtain ⟨tm, dn, K, hm⟩ := ht; have hm' : zMo (x + 261) 0 tm cd dn K A S m U n T ll ln hs kf ld dt dc t := hm; exact zMet.mq (p := (A, S, m, U, n, T, ll, ln, hs, kf, ld, dt, dc)) (R := fun _ => True) (qX10_letterAtX hX hm' gA c1 (p2 := p2))) <;> decide
