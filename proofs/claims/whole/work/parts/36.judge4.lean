/-- the sign of a quotient by its coordinates -/
def zqs (A : zDk) (i j : Nat) : Int32 := zsf (zcv z0 (zWq A i j))
def zRk (A : zDk) (k : Nat) : Nat → Nat
  | 0 => 0
  | i + 1 => if 0 < zqs A i k ∨ (zqs A i k = 0 ∧ i < k) then zRk A k i + 1 else zRk A k i
theorem zRk_le (A : zDk) (k : Nat) : ∀ i, zRk A k i ≤ i
  | 0 => Nat.le_refl 0
  | i + 1 => by have := zRk_le A k i; simp only [zRk]; split <;> omega
def zCk (A : zDk) (r : Int32) (i : Nat) : Nat → Int32
  | 0 => -1
  | j + 1 => if nI (zRk A i (kC A)) = r then nI i else zCk A r (i + 1) j
/-- the judge's test of a pair of cases -/
def zAg (A : zDk) (i j : Nat) : Int32 :=
  if (match zRn 2000 [] (zWq A i j) with | none => false | some q => decide (¬ zsW q.2 = zqs A i j)) = true then 0
  else if kR A i = -1 then 1 else if kR A j = -1 then 1 else if zSmb (zcw A i) (zcw A j) = true then (if kR A i = kR A j then 1 else 0) else 1
set_option maxHeartbeats 400000 in
set_option maxRecDepth 100000 in
theorem l_rk {X : zX} (hX : X.1.stackTraces = false) {σ : zS} {x k : Nat} {A : zDk} (h : zDA (x + 2) A σ) (hA : zDw A) (hk : k < 8) : ∀ (j i : Nat) (s : zS) (y : Nat) (x4 : Option Value), i + j = (kC A) → (zFr σ s (zJf x)) → (zJd x s) → (y = zRk A k i) → zW X mX5_rankOf 5 0 0 (zI (fun y_ s => y_ = nI (zRk A k (kC A)) ∧ zFr σ s (zJf x) ∧ zJd x s)) 4 [some (.ref ((x + 1))), some (.int (nI k)), some (.int (nI y)), some (.int (nI i)), x4] [] s := by
  intro j
  induction j with
  | zero =>
    intro i s y x4 hi hF hJs hy
    obtain ⟨hj, jr, jk, jc, jo⟩ := id hJs
    obtain ⟨hC8, hP8, hW⟩ := id hA
    have h2 := zDA.fr h hF (by intro q a b c; unfold zJf at c; omega)
    refine zr_iload_n dX5_rankOf_4 rfl ?_
    refine zr_aload_n dX5_rankOf_5 rfl ?_
    refine zr_getfield dX5_rankOf_6 fX5_12 hj rfl (by decide) ?_
    obtain ⟨wr1, rr1, mr1, tr1, ar1, fr1, ca1, cb1, cc1, cd1, ce1, cf1, cw1⟩ := id h2
    refine zr_getfield dX5_rankOf_9 fX5_173 ca1 rfl (by decide) ?_
    refine zr_icmp_ge (tgt := 47) dX5_rankOf_12 (by decide) (fun c_12 => ?_) (fun c_12 => absurd ((nI_leI (a := kC A) (b := i) (by omega) (by omega)).mpr (by omega)) c_12)
    refine zr_iload_n dX5_rankOf_47 rfl ?_
    exact zr_ireturn dX5_rankOf_48 rfl (rfl) (⟨_, rfl, by rw [hy, show i = kC A from by omega], hF, ⟨hj, jr, jk, jc, jo⟩⟩)
  | succ j ih =>
    intro i s y x4 hi hF hJs hy
    obtain ⟨hj, jr, jk, jc, jo⟩ := id hJs
    obtain ⟨hC8, hP8, hW⟩ := id hA
    have h2 := zDA.fr h hF (by intro q a b c; unfold zJf at c; omega)
    refine zr_iload_n dX5_rankOf_4 rfl ?_
    refine zr_aload_n dX5_rankOf_5 rfl ?_
    refine zr_getfield dX5_rankOf_6 fX5_12 hj rfl (by decide) ?_
    obtain ⟨wr1, rr1, mr1, tr1, ar1, fr1, ca1, cb1, cc1, cd1, ce1, cf1, cw1⟩ := id h2
    refine zr_getfield dX5_rankOf_9 fX5_173 ca1 rfl (by decide) ?_
    refine zr_icmp_ge (tgt := 47) dX5_rankOf_12 (by decide) (fun c_12 => absurd c_12 (fun h => absurd ((nI_leI (a := kC A) (b := i) (by omega) (by omega)).mp h) (by omega))) (fun c_12 => ?_)
    refine zr_aload_n dX5_rankOf_15 rfl ?_
    refine zr_iload_n dX5_rankOf_16 rfl ?_
    refine zr_iload_n dX5_rankOf_17 rfl ?_
    have kJ2 : zJd x s := ⟨hj, jr, jk, jc, jo⟩
    refine zr_callVi [] dX5_rankOf_18 vX5_179 (qX5_signOfQuotient hX (i := i) (j := k) kJ2 h2 hA (by omega) (by omega)) (zJd.obj kJ2) (by decide) (by decide) (by decide) rfl rfl (Nat.le_of_ble_eq_true rfl) (by decide) rfl (fun kr3 s_kr3 h_kr3 => ?_)
    obtain ⟨e_kr3, F_kr3, r0_kr3⟩ := h_kr3
    have kR4 : zDA (x + 2) A s_kr3 := zDA.fr h2 F_kr3 (by intro q h1 h2 h3; (try simp only [zIn, zJf] at h3); omega)
    have kF5 := zFr.tr hF F_kr3 (by intro q hq; (try simp only [zIn, zJf] at hq); unfold zJf; omega)
    obtain rfl := e_kr3.symm
    obtain ⟨hj6, jr6, jk6, jc6, jo6⟩ := id r0_kr3
    refine zr_istore (ls' := [some (.ref ((x + 1))), some (.int (nI k)), some (.int (nI y)), some (.int (nI i)), some (.int ((zqs A i k)))]) dX5_rankOf_21 (by decide) rfl ?_
    refine zr_iload dX5_rankOf_23 rfl ?_
    refine zr_if_gt (tgt := 38) dX5_rankOf_25 (by decide) (fun c_25 => ?_) (fun c_25 => ?_)
    · refine zr_iinc (v := nI (y + 1)) (ls' := [some (.ref ((x + 1))), some (.int (nI k)), some (.int (nI (y + 1))), some (.int (nI i)), some (.int ((zqs A i k)))]) dX5_rankOf_38 rfl (nI_1 _) (by decide) rfl ?_
      refine zr_iinc (v := nI (i + 1)) (ls' := [some (.ref ((x + 1))), some (.int (nI k)), some (.int (nI (y + 1))), some (.int (nI (i + 1))), some (.int ((zqs A i k)))]) dX5_rankOf_41 rfl (nI_1 _) (by decide) rfl ?_
      refine zr_goto (tgt := 4) dX5_rankOf_44 (by decide) ?_
      exact ih (i + 1) _ _ _ (by omega) (kF5) (⟨hj6, jr6, jk6, jc6, jo6⟩) (by rw [hy]; simp only [zRk]; rw [if_pos (Or.inl c_25)])
    · refine zr_iload dX5_rankOf_28 rfl ?_
      refine zr_if_ne (tgt := 41) dX5_rankOf_30 (by decide) (fun c_30 => ?_) (fun c_30 => ?_)
      · refine zr_iinc (v := nI (i + 1)) (ls' := [some (.ref ((x + 1))), some (.int (nI k)), some (.int (nI y)), some (.int (nI (i + 1))), some (.int ((zqs A i k)))]) dX5_rankOf_41 rfl (nI_1 _) (by decide) rfl ?_
        refine zr_goto (tgt := 4) dX5_rankOf_44 (by decide) ?_
        exact ih (i + 1) _ _ _ (by omega) (kF5) (⟨hj6, jr6, jk6, jc6, jo6⟩) (by rw [hy]; simp only [zRk]; rw [if_neg (fun q => q.elim c_25 (fun q => c_30 q.1))])
      · refine zr_iload_n dX5_rankOf_33 rfl ?_
        refine zr_iload_n dX5_rankOf_34 rfl ?_
        refine zr_icmp_ge (tgt := 41) dX5_rankOf_35 (by decide) (fun c_35 => ?_) (fun c_35 => ?_)
        · refine zr_iinc (v := nI (i + 1)) (ls' := [some (.ref ((x + 1))), some (.int (nI k)), some (.int (nI y)), some (.int (nI (i + 1))), some (.int ((zqs A i k)))]) dX5_rankOf_41 rfl (nI_1 _) (by decide) rfl ?_
          refine zr_goto (tgt := 4) dX5_rankOf_44 (by decide) ?_
          exact ih (i + 1) _ _ _ (by omega) (kF5) (⟨hj6, jr6, jk6, jc6, jo6⟩) (by rw [hy]; simp only [zRk]; rw [if_neg (fun q => q.elim c_25 (fun q => absurd ((nI_leI (by omega) (by omega)).mp c_35) (by omega)))])
        · refine zr_iinc (v := nI (y + 1)) (ls' := [some (.ref ((x + 1))), some (.int (nI k)), some (.int (nI (y + 1))), some (.int (nI i)), some (.int ((zqs A i k)))]) dX5_rankOf_38 rfl (nI_1 _) (by decide) rfl ?_
          refine zr_iinc (v := nI (i + 1)) (ls' := [some (.ref ((x + 1))), some (.int (nI k)), some (.int (nI (y + 1))), some (.int (nI (i + 1))), some (.int ((zqs A i k)))]) dX5_rankOf_41 rfl (nI_1 _) (by decide) rfl ?_
          refine zr_goto (tgt := 4) dX5_rankOf_44 (by decide) ?_
          exact ih (i + 1) _ _ _ (by omega) (kF5) (⟨hj6, jr6, jk6, jc6, jo6⟩) (by rw [hy]; simp only [zRk]; rw [if_pos (Or.inr ⟨c_30, Nat.not_le.mp (fun q => c_35 ((nI_leI (by omega) (by omega)).mpr q))⟩)])

set_option maxHeartbeats 400000 in
set_option maxRecDepth 100000 in
theorem qX5_rankOf {X : zX} (hX : X.1.stackTraces = false) {σ : zS} {x k : Nat} {A : zDk} (hJ : zJd x σ) (h : zDA (x + 2) A σ) (hA : zDw A) (hk : k < 8) : zMet X mX5_rankOf yX5_rankOf 5 0 0 [.ref ((x + 1)), .int (nI k)] σ (zI (fun y_ s => y_ = nI (zRk A k (kC A)) ∧ zFr σ s (zJf x) ∧ zJd x s)) := by
  refine zMet_of (ls := [some (.ref ((x + 1))), some (.int (nI k)), none, none, none]) rfl (by decide +kernel) rfl (fun h => by cases h) hX (Nat.le_of_ble_eq_true rfl) rfl ?_
  refine zr_iconst (v := 0) dX5_rankOf_0 (by decide) ?_
  refine zr_istore_n (ls' := [some (.ref ((x + 1))), some (.int (nI k)), some (.int 0), none, none]) dX5_rankOf_1 rfl (by decide) rfl ?_
  refine zr_iconst (v := 0) dX5_rankOf_2 (by decide) ?_
  refine zr_istore_n (ls' := [some (.ref ((x + 1))), some (.int (nI k)), some (.int 0), some (.int 0), none]) dX5_rankOf_3 rfl (by decide) rfl ?_
  exact l_rk hX h hA hk (kC A) 0 _ _ _ (by omega) zFr.rf hJ rfl

set_option maxHeartbeats 400000 in
set_option maxRecDepth 100000 in
theorem l_ck {X : zX} (hX : X.1.stackTraces = false) {σ : zS} {x : Nat} {A : zDk} {r : Int32} (h : zDA (x + 2) A σ) (hA : zDw A) : ∀ (j i : Nat) (s : zS), i + j = (kC A) → (zFr σ s (zJf x)) → (zJd x s) → (zCk A r 0 (kC A) = zCk A r i j) → zW X mX5_caseOfRank 6 0 0 (zI (fun y_ s => y_ = zCk A r 0 (kC A) ∧ zFr σ s (zJf x) ∧ zJd x s)) 2 [some (.ref ((x + 1))), some (.int r), some (.int (nI i))] [] s := by
  intro j
  induction j with
  | zero =>
    intro i s hi hF hJs hz
    obtain ⟨hj, jr, jk, jc, jo⟩ := id hJs
    obtain ⟨hC8, hP8, hW⟩ := id hA
    have h2 := zDA.fr h hF (by intro q a b c; unfold zJf at c; omega)
    refine zr_iload_n dX5_caseOfRank_2 rfl ?_
    refine zr_aload_n dX5_caseOfRank_3 rfl ?_
    refine zr_getfield dX5_caseOfRank_4 fX5_12 hj rfl (by decide) ?_
    obtain ⟨wr1, rr1, mr1, tr1, ar1, fr1, ca1, cb1, cc1, cd1, ce1, cf1, cw1⟩ := id h2
    refine zr_getfield dX5_caseOfRank_7 fX5_173 ca1 rfl (by decide) ?_
    refine zr_icmp_ge (tgt := 30) dX5_caseOfRank_10 (by decide) (fun c_10 => ?_) (fun c_10 => absurd ((nI_leI (a := kC A) (b := i) (by omega) (by omega)).mpr (by omega)) c_10)
    refine zr_iconst (v := -1) dX5_caseOfRank_30 (by decide) ?_
    exact zr_ireturn dX5_caseOfRank_31 rfl (rfl) (⟨_, rfl, hz.symm, hF, ⟨hj, jr, jk, jc, jo⟩⟩)
  | succ j ih =>
    intro i s hi hF hJs hz
    obtain ⟨hj, jr, jk, jc, jo⟩ := id hJs
    obtain ⟨hC8, hP8, hW⟩ := id hA
    have h2 := zDA.fr h hF (by intro q a b c; unfold zJf at c; omega)
    refine zr_iload_n dX5_caseOfRank_2 rfl ?_
    refine zr_aload_n dX5_caseOfRank_3 rfl ?_
    refine zr_getfield dX5_caseOfRank_4 fX5_12 hj rfl (by decide) ?_
    obtain ⟨wr1, rr1, mr1, tr1, ar1, fr1, ca1, cb1, cc1, cd1, ce1, cf1, cw1⟩ := id h2
    refine zr_getfield dX5_caseOfRank_7 fX5_173 ca1 rfl (by decide) ?_
    refine zr_icmp_ge (tgt := 30) dX5_caseOfRank_10 (by decide) (fun c_10 => absurd c_10 (fun h => absurd ((nI_leI (a := kC A) (b := i) (by omega) (by omega)).mp h) (by omega))) (fun c_10 => ?_)
    refine zr_aload_n dX5_caseOfRank_13 rfl ?_
    refine zr_iload_n dX5_caseOfRank_14 rfl ?_
    have kJ2 : zJd x s := ⟨hj, jr, jk, jc, jo⟩
    refine zr_callVi [] dX5_caseOfRank_15 vX5_176 (qX5_rankOf hX (k := i) kJ2 h2 hA (by omega)) (zJd.obj kJ2) (by decide) (by decide) (by decide) rfl rfl (Nat.le_of_ble_eq_true rfl) (by decide) rfl (fun kr3 s_kr3 h_kr3 => ?_)
    obtain ⟨e_kr3, F_kr3, r0_kr3⟩ := h_kr3
    have kR4 : zDA (x + 2) A s_kr3 := zDA.fr h2 F_kr3 (by intro q h1 h2 h3; (try simp only [zIn, zJf] at h3); omega)
    have kF5 := zFr.tr hF F_kr3 (by intro q hq; (try simp only [zIn, zJf] at hq); unfold zJf; omega)
    obtain rfl := e_kr3.symm
    obtain ⟨hj6, jr6, jk6, jc6, jo6⟩ := id r0_kr3
    refine zr_iload_n dX5_caseOfRank_18 rfl ?_
    refine zr_icmp_ne (tgt := 24) dX5_caseOfRank_19 (by decide) (fun c_19 => ?_) (fun c_19 => ?_)
    · refine zr_iinc (v := nI (i + 1)) (ls' := [some (.ref ((x + 1))), some (.int r), some (.int (nI (i + 1)))]) dX5_caseOfRank_24 rfl (nI_1 _) (by decide) rfl ?_
      refine zr_goto (tgt := 2) dX5_caseOfRank_27 (by decide) ?_
      exact ih (i + 1) _ (by omega) (kF5) (⟨hj6, jr6, jk6, jc6, jo6⟩) (by rw [hz]; simp only [zCk]; rw [if_neg c_19])
    · refine zr_iload_n dX5_caseOfRank_22 rfl ?_
      exact zr_ireturn dX5_caseOfRank_23 rfl (rfl) (⟨_, rfl, by rw [hz]; simp only [zCk]; rw [if_pos c_19], kF5, ⟨hj6, jr6, jk6, jc6, jo6⟩⟩)

set_option maxHeartbeats 400000 in
set_option maxRecDepth 100000 in
theorem qX5_caseOfRank {X : zX} (hX : X.1.stackTraces = false) {σ : zS} {x : Nat} {A : zDk} {r : Int32} (hJ : zJd x σ) (h : zDA (x + 2) A σ) (hA : zDw A) : zMet X mX5_caseOfRank yX5_caseOfRank 6 0 0 [.ref ((x + 1)), .int r] σ (zI (fun y_ s => y_ = zCk A r 0 (kC A) ∧ zFr σ s (zJf x) ∧ zJd x s)) := by
  refine zMet_of (ls := [some (.ref ((x + 1))), some (.int r), none]) rfl (by decide +kernel) rfl (fun h => by cases h) hX (Nat.le_of_ble_eq_true rfl) rfl ?_
  refine zr_iconst (v := 0) dX5_caseOfRank_0 (by decide) ?_
  refine zr_istore_n (ls' := [some (.ref ((x + 1))), some (.int r), some (.int 0)]) dX5_caseOfRank_1 rfl (by decide) rfl ?_
  exact l_ck hX h hA (kC A) 0 _ (by omega) zFr.rf hJ rfl

set_option maxHeartbeats 400000 in
set_option maxRecDepth 100000 in
theorem qX5_agreesOn {X : zX} (hX : X.1.stackTraces = false) {σ : zS} {x : Nat} {A : zDk} {i j : Nat} (hJ : zJd x σ) (h : zDA (x + 2) A σ) (hA : zDw A) (hi : i < 8) (hj8 : j < 8) : zMet X mX5_agreesOn yX5_agreesOn 5 0 0 [.ref ((x + 1)), .int (nI i), .int (nI j)] σ (zI (fun y_ s => y_ = zAg A i j ∧ zFr σ s (zJf x) ∧ zJd x s)) := by
  refine zMet_of (ls := [some (.ref ((x + 1))), some (.int (nI i)), some (.int (nI j))]) rfl (by decide +kernel) rfl (fun h => by cases h) hX (Nat.le_of_ble_eq_true rfl) rfl ?_
  obtain ⟨hj, jr, jk, jc, jo⟩ := id hJ
  obtain ⟨hC8, hP8, hW⟩ := id hA
  refine zr_aload_n dX5_agreesOn_0 rfl ?_
  refine zr_getfield dX5_agreesOn_1 fX5_21 hj rfl (by decide) ?_
  refine zr_aload_n dX5_agreesOn_4 rfl ?_
  refine zr_getfield dX5_agreesOn_5 fX5_12 hj rfl (by decide) ?_
  obtain ⟨wr1, rr1, mr1, tr1, ar1, fr1, ca1, cb1, cc1, cd1, ce1, cf1, cw1⟩ := id h
  refine zr_getfield dX5_agreesOn_8 fX5_59 ca1 rfl (by decide) ?_
  refine zr_iload_n dX5_agreesOn_11 rfl ?_
  refine zr_aaload6 (b := (x + 2 + 6 + 2 * i)) dX5_agreesOn_12 cb1 (vp_in_nI (n := i) (by omega) (by omega)) (by rw [nI_clamp (by omega)]; exact (cw1 i (by omega)).1) ?_
  refine zr_aload_n dX5_agreesOn_13 rfl ?_
  refine zr_getfield dX5_agreesOn_14 fX5_12 hj rfl (by decide) ?_
  refine zr_getfield dX5_agreesOn_17 fX5_59 ca1 rfl (by decide) ?_
  refine zr_iload_n dX5_agreesOn_20 rfl ?_
  refine zr_aaload6 (b := (x + 2 + 6 + 2 * j)) dX5_agreesOn_21 cb1 (vp_in_nI (n := j) (by omega) (by omega)) (by rw [nI_clamp (by omega)]; exact (cw1 j (by omega)).1) ?_
  refine zr_callVv [] dX5_agreesOn_22 vX5_183 (qR_relaxQuotient hX (i := i) (j := j) jr h hA (by omega) (by omega) (by omega)) (zRx.obj jr).choose_spec (by decide) (by decide) (by decide) rfl rfl (Nat.le_of_ble_eq_true rfl) (by decide) rfl (fun s_kr2 h_kr2 => ?_)
  obtain ⟨F_kr2, r0_kr2⟩ := h_kr2
  have kh3 : s_kr2.1 (x + 1) = .inr (3, [.ref ((x + 2)), .ref ((x + 24)), .ref ((x + 27)), .ref ((x + 29))]) := zFr.get F_kr2 (by omega) hj
  have kR4 : zDA (x + 2) A s_kr2 := zDA.fr h F_kr2 (by intro q h1 h2 h3; (try simp only [zIn, zJf] at h3); omega)
  have kR5 : zCu (x + 253) s_kr2 := zCu.fr jk F_kr2 (by intro q h1 h2 h3; (try simp only [zIn, zJf] at h3); omega)
  have kR6 : zCu (x + 27) s_kr2 := zCu.fr jc F_kr2 (by intro q h1 h2 h3; (try simp only [zIn, zJf] at h3); omega)
  have kR7 : zCu (x + 29) s_kr2 := zCu.fr jo F_kr2 (by intro q h1 h2 h3; (try simp only [zIn, zJf] at h3); omega)
  have kF8 := zFr.tr zFr.rf (P := zJf x) F_kr2 (by intro q hq; (try simp only [zIn, zJf] at hq); unfold zJf; omega)
  obtain ⟨rf9, rg9, rn9, rm9, rc9, rl9, qa9, qb9, qc9, qd9⟩ := id r0_kr2
  rcases hO : (zRn 2000 [] (zWq A i j)) with _ | ⟨rq, rW⟩
  · have qe : rl9 = 1 := by rw [hO] at qd9; exact qd9
    rw [qe] at qa9
    refine zr_aload_n dX5_agreesOn_25 rfl ?_
    refine zr_getfield dX5_agreesOn_26 fX5_21 kh3 rfl (by decide) ?_
    refine zr_getfield dX5_agreesOn_29 fX5_84 qa9 rfl (by decide) ?_
    refine zr_if_ne (tgt := 53) dX5_agreesOn_32 (by decide) (fun c_32 => ?_) (fun c_32 => absurd c_32 (by decide))
    refine zr_aload_n dX5_agreesOn_53 rfl ?_
    refine zr_getfield dX5_agreesOn_54 fX5_12 kh3 rfl (by decide) ?_
    refine zr_iload_n dX5_agreesOn_57 rfl ?_
    refine zr_pVi [] dX5_agreesOn_58 vX5_56 (qX3_hasVerdict hX (i := i) kR4 hA (by omega)) (zDA.obj kR4) (by decide) (by decide) (by decide) rfl rfl (Nat.le_of_ble_eq_true rfl) (by decide) rfl ?_
    refine zr_if_eq (tgt := 84) dX5_agreesOn_61 (by decide) (fun c_61 => ?_) (fun c_61 => ?_)
    · refine zr_iconst (v := 1) dX5_agreesOn_84 (by decide) ?_
      exact zr_ireturn dX5_agreesOn_85 rfl (rfl) (⟨_, rfl, by unfold zAg; rw [hO]; rw [if_neg (by exact Bool.false_ne_true)]; rw [if_pos (ite01.mp c_61)], kF8, ⟨kh3, (zRo.rx r0_kr2), kR5, kR6, kR7⟩⟩)
    · refine zr_aload_n dX5_agreesOn_64 rfl ?_
      refine zr_getfield dX5_agreesOn_65 fX5_12 kh3 rfl (by decide) ?_
      refine zr_iload_n dX5_agreesOn_68 rfl ?_
      refine zr_pVi [] dX5_agreesOn_69 vX5_56 (qX3_hasVerdict hX (i := j) kR4 hA (by omega)) (zDA.obj kR4) (by decide) (by decide) (by decide) rfl rfl (Nat.le_of_ble_eq_true rfl) (by decide) rfl ?_
      refine zr_if_eq (tgt := 84) dX5_agreesOn_72 (by decide) (fun c_72 => ?_) (fun c_72 => ?_)
      · refine zr_iconst (v := 1) dX5_agreesOn_84 (by decide) ?_
        exact zr_ireturn dX5_agreesOn_85 rfl (rfl) (⟨_, rfl, by unfold zAg; rw [hO]; rw [if_neg (by exact Bool.false_ne_true)]; rw [if_neg (fun q => c_61 (ite01.mpr q))]; rw [if_pos (ite01.mp c_72)], kF8, ⟨kh3, (zRo.rx r0_kr2), kR5, kR6, kR7⟩⟩)
      · refine zr_aload_n dX5_agreesOn_75 rfl ?_
        refine zr_iload_n dX5_agreesOn_76 rfl ?_
        refine zr_iload_n dX5_agreesOn_77 rfl ?_
        have kJ10 : zJd x s_kr2 := ⟨kh3, (zRo.rx r0_kr2), kR5, kR6, kR7⟩
        refine zr_callVi [] dX5_agreesOn_78 vX5_189 (qX5_sameBraid hX (i := i) (j := j) kJ10 kR4 hA (by omega) (by omega)) (zJd.obj kJ10) (by decide) (by decide) (by decide) rfl rfl (Nat.le_of_ble_eq_true rfl) (by decide) rfl (fun kr11 s_kr11 h_kr11 => ?_)
        obtain ⟨e_kr11, F_kr11, r0_kr11⟩ := h_kr11
        have kR12 : zDA (x + 2) A s_kr11 := zDA.fr kR4 F_kr11 (by intro q h1 h2 h3; (try simp only [zIn, zJf] at h3); omega)
        have kF13 := zFr.tr kF8 F_kr11 (by intro q hq; (try simp only [zIn, zJf] at hq); unfold zJf; omega)
        obtain rfl := e_kr11.symm
        obtain ⟨hj14, jr14, jk14, jc14, jo14⟩ := id r0_kr11
        refine zr_if_ne (tgt := 86) dX5_agreesOn_81 (by decide) (fun c_81 => ?_) (fun c_81 => ?_)
        · refine zr_aload_n dX5_agreesOn_86 rfl ?_
          refine zr_getfield dX5_agreesOn_87 fX5_12 hj14 rfl (by decide) ?_
          obtain ⟨wr15, rr15, mr15, tr15, ar15, fr15, ca15, cb15, cc15, cd15, ce15, cf15, cw15⟩ := id kR12
          refine zr_getfield dX5_agreesOn_90 fX5_95 ca15 rfl (by decide) ?_
          refine zr_iload_n dX5_agreesOn_93 rfl ?_
          refine zr_iaload dX5_agreesOn_94 cc15 (vp_in_nI (n := i) (by omega) (by omega)) ?_
          rw [nI_clamp (n := i) (by omega)]
          refine zr_eqi (x' := (kR A i)) (cw15 i (by omega)).2.1.1 ?_
          refine zr_aload_n dX5_agreesOn_95 rfl ?_
          refine zr_getfield dX5_agreesOn_96 fX5_12 hj14 rfl (by decide) ?_
          refine zr_getfield dX5_agreesOn_99 fX5_95 ca15 rfl (by decide) ?_
          refine zr_iload_n dX5_agreesOn_102 rfl ?_
          refine zr_iaload dX5_agreesOn_103 cc15 (vp_in_nI (n := j) (by omega) (by omega)) ?_
          rw [nI_clamp (n := j) (by omega)]
          refine zr_eqi (x' := (kR A j)) (cw15 j (by omega)).2.1.1 ?_
          refine zr_icmp_ne (tgt := 111) dX5_agreesOn_104 (by decide) (fun c_104 => ?_) (fun c_104 => ?_)
          · refine zr_iconst (v := 0) dX5_agreesOn_111 (by decide) ?_
            exact zr_ireturn dX5_agreesOn_112 rfl (rfl) (⟨_, rfl, by unfold zAg; rw [hO]; rw [if_neg (by exact Bool.false_ne_true)]; rw [if_neg (fun q => c_61 (ite01.mpr q))]; rw [if_neg (fun q => c_72 (ite01.mpr q))]; rw [if_pos (Classical.not_not.mp (fun q => c_81 (if_neg q)))]; rw [if_neg c_104], kF13, ⟨hj14, jr14, jk14, jc14, jo14⟩⟩)
          · refine zr_iconst (v := 1) dX5_agreesOn_107 (by decide) ?_
            refine zr_goto (tgt := 112) dX5_agreesOn_108 (by decide) ?_
            exact zr_ireturn dX5_agreesOn_112 rfl (rfl) (⟨_, rfl, by unfold zAg; rw [hO]; rw [if_neg (by exact Bool.false_ne_true)]; rw [if_neg (fun q => c_61 (ite01.mpr q))]; rw [if_neg (fun q => c_72 (ite01.mpr q))]; rw [if_pos (Classical.not_not.mp (fun q => c_81 (if_neg q)))]; rw [if_pos c_104], kF13, ⟨hj14, jr14, jk14, jc14, jo14⟩⟩)
        · refine zr_iconst (v := 1) dX5_agreesOn_84 (by decide) ?_
          exact zr_ireturn dX5_agreesOn_85 rfl (rfl) (⟨_, rfl, by unfold zAg; rw [hO]; rw [if_neg (by exact Bool.false_ne_true)]; rw [if_neg (fun q => c_61 (ite01.mpr q))]; rw [if_neg (fun q => c_72 (ite01.mpr q))]; rw [if_neg (ite10.mp c_81)], kF13, ⟨hj14, jr14, jk14, jc14, jo14⟩⟩)
  · obtain ⟨qe, qW, qn, qr⟩ : rl9 = 0 ∧ zP rf9 rn9 = rW ∧ rn9 ≤ 400 ∧ rc9 + rq = 2000 := by rw [hO] at qd9; exact qd9
    rw [qe] at qa9
    refine zr_aload_n dX5_agreesOn_25 rfl ?_
    refine zr_getfield dX5_agreesOn_26 fX5_21 kh3 rfl (by decide) ?_
    refine zr_getfield dX5_agreesOn_29 fX5_84 qa9 rfl (by decide) ?_
    refine zr_if_ne (tgt := 53) dX5_agreesOn_32 (by decide) (fun c_32 => absurd (by decide) c_32) (fun c_32 => ?_)
    refine zr_aload_n dX5_agreesOn_35 rfl ?_
    refine zr_getfield dX5_agreesOn_36 fX5_21 kh3 rfl (by decide) ?_
    refine zr_pVi [] dX5_agreesOn_39 vX5_186 (qX6_signOfDone hX qa9 qb9 (by omega)) qa9 (by decide) (by decide) (by decide) rfl rfl (Nat.le_of_ble_eq_true rfl) (by decide) rfl ?_
    have hsg : zsg (zlm rf9 rn9).toInt64 = zsW rW := by unfold zsW; rw [(zP_wv qW).1, zlm_congr (zP_wv qW).2]
    refine zr_aload_n dX5_agreesOn_42 rfl ?_
    refine zr_iload_n dX5_agreesOn_43 rfl ?_
    refine zr_iload_n dX5_agreesOn_44 rfl ?_
    have kJ16 : zJd x s_kr2 := ⟨kh3, (zRo.rx r0_kr2), kR5, kR6, kR7⟩
    refine zr_callVi [.int ((zsg (zlm rf9 rn9).toInt64))] dX5_agreesOn_45 vX5_179 (qX5_signOfQuotient hX (i := i) (j := j) kJ16 kR4 hA (by omega) (by omega)) (zJd.obj kJ16) (by decide) (by decide) (by decide) rfl rfl (Nat.le_of_ble_eq_true rfl) (by decide) rfl (fun kr17 s_kr17 h_kr17 => ?_)
    obtain ⟨e_kr17, F_kr17, r0_kr17⟩ := h_kr17
    have kR18 : zDA (x + 2) A s_kr17 := zDA.fr kR4 F_kr17 (by intro q h1 h2 h3; (try simp only [zIn, zJf] at h3); omega)
    have kF19 := zFr.tr kF8 F_kr17 (by intro q hq; (try simp only [zIn, zJf] at hq); unfold zJf; omega)
    obtain rfl := e_kr17.symm
    obtain ⟨hj20, jr20, jk20, jc20, jo20⟩ := id r0_kr17
    refine zr_icmp_eq (tgt := 53) dX5_agreesOn_48 (by decide) (fun c_48 => ?_) (fun c_48 => ?_)
    · refine zr_aload_n dX5_agreesOn_53 rfl ?_
      refine zr_getfield dX5_agreesOn_54 fX5_12 hj20 rfl (by decide) ?_
      refine zr_iload_n dX5_agreesOn_57 rfl ?_
      refine zr_pVi [] dX5_agreesOn_58 vX5_56 (qX3_hasVerdict hX (i := i) kR18 hA (by omega)) (zDA.obj kR18) (by decide) (by decide) (by decide) rfl rfl (Nat.le_of_ble_eq_true rfl) (by decide) rfl ?_
      refine zr_if_eq (tgt := 84) dX5_agreesOn_61 (by decide) (fun c_61 => ?_) (fun c_61 => ?_)
      · refine zr_iconst (v := 1) dX5_agreesOn_84 (by decide) ?_
        exact zr_ireturn dX5_agreesOn_85 rfl (rfl) (⟨_, rfl, by unfold zAg; rw [hO]; rw [if_neg (by exact fun q => (of_decide_eq_true q) (hsg.symm.trans c_48))]; rw [if_pos (ite01.mp c_61)], kF19, ⟨hj20, jr20, jk20, jc20, jo20⟩⟩)
      · refine zr_aload_n dX5_agreesOn_64 rfl ?_
        refine zr_getfield dX5_agreesOn_65 fX5_12 hj20 rfl (by decide) ?_
        refine zr_iload_n dX5_agreesOn_68 rfl ?_
        refine zr_pVi [] dX5_agreesOn_69 vX5_56 (qX3_hasVerdict hX (i := j) kR18 hA (by omega)) (zDA.obj kR18) (by decide) (by decide) (by decide) rfl rfl (Nat.le_of_ble_eq_true rfl) (by decide) rfl ?_
        refine zr_if_eq (tgt := 84) dX5_agreesOn_72 (by decide) (fun c_72 => ?_) (fun c_72 => ?_)
        · refine zr_iconst (v := 1) dX5_agreesOn_84 (by decide) ?_
          exact zr_ireturn dX5_agreesOn_85 rfl (rfl) (⟨_, rfl, by unfold zAg; rw [hO]; rw [if_neg (by exact fun q => (of_decide_eq_true q) (hsg.symm.trans c_48))]; rw [if_neg (fun q => c_61 (ite01.mpr q))]; rw [if_pos (ite01.mp c_72)], kF19, ⟨hj20, jr20, jk20, jc20, jo20⟩⟩)
        · refine zr_aload_n dX5_agreesOn_75 rfl ?_
          refine zr_iload_n dX5_agreesOn_76 rfl ?_
          refine zr_iload_n dX5_agreesOn_77 rfl ?_
          have kJ21 : zJd x s_kr17 := ⟨hj20, jr20, jk20, jc20, jo20⟩
          refine zr_callVi [] dX5_agreesOn_78 vX5_189 (qX5_sameBraid hX (i := i) (j := j) kJ21 kR18 hA (by omega) (by omega)) (zJd.obj kJ21) (by decide) (by decide) (by decide) rfl rfl (Nat.le_of_ble_eq_true rfl) (by decide) rfl (fun kr22 s_kr22 h_kr22 => ?_)
          obtain ⟨e_kr22, F_kr22, r0_kr22⟩ := h_kr22
          have kR23 : zDA (x + 2) A s_kr22 := zDA.fr kR18 F_kr22 (by intro q h1 h2 h3; (try simp only [zIn, zJf] at h3); omega)
          have kF24 := zFr.tr kF19 F_kr22 (by intro q hq; (try simp only [zIn, zJf] at hq); unfold zJf; omega)
          obtain rfl := e_kr22.symm
          obtain ⟨hj25, jr25, jk25, jc25, jo25⟩ := id r0_kr22
          refine zr_if_ne (tgt := 86) dX5_agreesOn_81 (by decide) (fun c_81 => ?_) (fun c_81 => ?_)
          · refine zr_aload_n dX5_agreesOn_86 rfl ?_
            refine zr_getfield dX5_agreesOn_87 fX5_12 hj25 rfl (by decide) ?_
            obtain ⟨wr26, rr26, mr26, tr26, ar26, fr26, ca26, cb26, cc26, cd26, ce26, cf26, cw26⟩ := id kR23
            refine zr_getfield dX5_agreesOn_90 fX5_95 ca26 rfl (by decide) ?_
            refine zr_iload_n dX5_agreesOn_93 rfl ?_
            refine zr_iaload dX5_agreesOn_94 cc26 (vp_in_nI (n := i) (by omega) (by omega)) ?_
            rw [nI_clamp (n := i) (by omega)]
            refine zr_eqi (x' := (kR A i)) (cw26 i (by omega)).2.1.1 ?_
            refine zr_aload_n dX5_agreesOn_95 rfl ?_
            refine zr_getfield dX5_agreesOn_96 fX5_12 hj25 rfl (by decide) ?_
            refine zr_getfield dX5_agreesOn_99 fX5_95 ca26 rfl (by decide) ?_
            refine zr_iload_n dX5_agreesOn_102 rfl ?_
            refine zr_iaload dX5_agreesOn_103 cc26 (vp_in_nI (n := j) (by omega) (by omega)) ?_
            rw [nI_clamp (n := j) (by omega)]
            refine zr_eqi (x' := (kR A j)) (cw26 j (by omega)).2.1.1 ?_
            refine zr_icmp_ne (tgt := 111) dX5_agreesOn_104 (by decide) (fun c_104 => ?_) (fun c_104 => ?_)
            · refine zr_iconst (v := 0) dX5_agreesOn_111 (by decide) ?_
              exact zr_ireturn dX5_agreesOn_112 rfl (rfl) (⟨_, rfl, by unfold zAg; rw [hO]; rw [if_neg (by exact fun q => (of_decide_eq_true q) (hsg.symm.trans c_48))]; rw [if_neg (fun q => c_61 (ite01.mpr q))]; rw [if_neg (fun q => c_72 (ite01.mpr q))]; rw [if_pos (Classical.not_not.mp (fun q => c_81 (if_neg q)))]; rw [if_neg c_104], kF24, ⟨hj25, jr25, jk25, jc25, jo25⟩⟩)
            · refine zr_iconst (v := 1) dX5_agreesOn_107 (by decide) ?_
              refine zr_goto (tgt := 112) dX5_agreesOn_108 (by decide) ?_
              exact zr_ireturn dX5_agreesOn_112 rfl (rfl) (⟨_, rfl, by unfold zAg; rw [hO]; rw [if_neg (by exact fun q => (of_decide_eq_true q) (hsg.symm.trans c_48))]; rw [if_neg (fun q => c_61 (ite01.mpr q))]; rw [if_neg (fun q => c_72 (ite01.mpr q))]; rw [if_pos (Classical.not_not.mp (fun q => c_81 (if_neg q)))]; rw [if_pos c_104], kF24, ⟨hj25, jr25, jk25, jc25, jo25⟩⟩)
          · refine zr_iconst (v := 1) dX5_agreesOn_84 (by decide) ?_
            exact zr_ireturn dX5_agreesOn_85 rfl (rfl) (⟨_, rfl, by unfold zAg; rw [hO]; rw [if_neg (by exact fun q => (of_decide_eq_true q) (hsg.symm.trans c_48))]; rw [if_neg (fun q => c_61 (ite01.mpr q))]; rw [if_neg (fun q => c_72 (ite01.mpr q))]; rw [if_neg (ite10.mp c_81)], kF24, ⟨hj25, jr25, jk25, jc25, jo25⟩⟩)
    · refine zr_iconst (v := 0) dX5_agreesOn_51 (by decide) ?_
      exact zr_ireturn dX5_agreesOn_52 rfl (rfl) (⟨_, rfl, by unfold zAg; rw [hO]; rw [if_pos (by exact decide_eq_true (show ¬ zsW rW = zqs A i j from fun q => c_48 (hsg.trans q)))], kF19, ⟨hj20, jr20, jk20, jc20, jo20⟩⟩)

def aRel (A : zDk) (k : Nat) : zDk := match zRn 2000 [] (zWd A k) with
  | none => A
  | some q => aWord A k q.2.length (wv q.2)
/-- what a command makes of a docket -/
def aCmd (A : zDk) (c k : Nat) (l : Int32) : zDk := if c = 0 then aCase A else if c = 1 then aWord A k (kN A k + 1) (upd (kL A k) (kN A k) l) else if c = 2 then aWord A k (kN A k - 1) (kL A k) else if c = 3 then aWord A k (zRP (kL A k) (kN A k)).1 (zRP (kL A k) (kN A k)).2 else if c = 4 then aRel A k else if c = 5 then aVer A k else aRev A (kR A k).toNatClampNeg
/-- nothing stands against it: what that means -/
def zAl (A : zDk) (c k : Nat) : Prop := (c = 0 → kC A < 8) ∧ (1 ≤ c → k < kC A) ∧ (c = 1 → kN A k < 16) ∧ (c = 2 → 0 < kN A k) ∧ (c = 4 → ∃ q : Nat × List Int32, zRn 2000 [] (zWd A k) = some q ∧ q.2.length ≤ 16) ∧ (1 ≤ c → c ≤ 5 → kR A k = -1) ∧ (c = 6 → ¬ kR A k = -1 ∧ kA A (kR A k).toNatClampNeg = 0)
theorem zOb_ok {A : zDk} {c k : Nat} (h : zOb A c k = 0) (hc : c < 7) : zAl A c k := by
  unfold zOb at h
  by_cases c0 : c = 0
  · subst c0; rw [if_pos rfl] at h
    have := ite01.mp h
    exact ⟨fun _ => this, fun q => by omega, fun q => by omega, fun q => by omega, fun q => by omega, fun q => by omega, fun q => by omega⟩
  rw [if_neg c0] at h
  by_cases hk : k < kC A
  · rw [if_neg (Classical.not_not.mpr hk)] at h
    by_cases c6 : c = 6
    · subst c6; rw [if_pos rfl] at h
      unfold zOA at h
      by_cases h1 : kR A k = -1
      · rw [if_pos h1] at h; exact absurd h (by decide)
      · rw [if_neg h1] at h
        by_cases h2 : kA A (kR A k).toNatClampNeg = 0
        · exact ⟨fun q => by omega, fun _ => hk, fun q => by omega, fun q => by omega, fun q => by omega, fun _ q => by omega, fun _ => ⟨h1, h2⟩⟩
        · rw [if_neg h2] at h; exact absurd h (by decide)
    · rw [if_neg c6] at h
      by_cases h1 : kR A k = -1
      · rw [if_neg (Classical.not_not.mpr h1)] at h
        by_cases c1 : c = 1
        · subst c1; rw [if_pos rfl] at h
          have := ite01.mp h
          exact ⟨fun q => by omega, fun _ => hk, fun _ => this, fun q => by omega, fun q => by omega, fun _ _ => h1, fun q => by omega⟩
        · rw [if_neg c1] at h
          by_cases c2 : c = 2
          · subst c2; rw [if_pos rfl] at h
            have : ¬ kN A k = 0 := fun q => by rw [if_pos q] at h; exact absurd h (by decide)
            exact ⟨fun q => by omega, fun _ => hk, fun q => by omega, fun _ => by omega, fun q => by omega, fun _ _ => h1, fun q => by omega⟩
          · rw [if_neg c2] at h
            by_cases c4 : c = 4
            · subst c4; rw [if_pos rfl] at h
              cases hO : zRn 2000 [] (zWd A k) with
              | none => rw [hO] at h; exact absurd h (by decide)
              | some q =>
                rw [hO] at h
                have h3 : (if 16 < q.2.length then (5 : Int32) else 0) = 0 := h
                have : ¬ 16 < q.2.length := fun z => by rw [if_pos z] at h3; exact absurd h3 (by decide)
                exact ⟨fun q => by omega, fun _ => hk, fun q => by omega, fun q => by omega, fun _ => ⟨q, hO, by omega⟩, fun _ _ => h1, fun q => by omega⟩
            · exact ⟨fun q => by omega, fun _ => hk, fun q => by omega, fun q => by omega, fun q => by omega, fun _ _ => h1, fun q => by omega⟩
      · rw [if_pos h1] at h; exact absurd h (by decide)
  · rw [if_pos hk] at h; exact absurd h (by decide)
set_option maxHeartbeats 400000 in
set_option maxRecDepth 100000 in
theorem qX5_perform0 {X : zX} (hX : X.1.stackTraces = false) {σ : zS} {x : Nat} {A : zDk} {k : Nat} {l : Int32} (hJ : zJd x σ) (h : zDA (x + 2) A σ) (hA : zDw A) (hAl : zAl A 0 k) : zMet X mX5_perform yX5_perform 6 0 0 [.ref ((x + 1)), .ref ((zQ X 0)), .int (nI k), .int l] σ (zV (fun s => zFr σ s (fun q => zIn (x + 2) q ∨ zJf x q) ∧ zJd x s ∧ zDA (x + 2) (aCmd A 0 k l) s)) := by
  refine zMet_of (ls := [some (.ref ((x + 1))), some (.ref ((zQ X 0))), some (.int (nI k)), some (.int l)]) rfl (by decide +kernel) rfl (fun h => by cases h) hX (Nat.le_of_ble_eq_true rfl) rfl ?_
  obtain ⟨hj, jr, jk, jc, jo⟩ := id hJ
  obtain ⟨hC8, hP8, hW⟩ := id hA
  obtain ⟨a0, a1, a2, a3, a4, a5, a6⟩ := hAl
  have k8 := a0 rfl
  refine zr_MAP dX5_perform_0 fX5_63 ?_
  refine zr_aload_n dX5_perform_3 rfl ?_
  refine zr_callO hX [.ref ((zQ X 36))] dX5_perform_4 rfl (i := 0) (by decide) (by omega) (Nat.le_of_ble_eq_true rfl) rfl ?_
  refine zr_MAPat (v := 4) dX5_perform_7 (vp_in_nI (n := 0) (by omega) (by omega)) (by rw [nI_clamp (by omega)]; rfl) ?_
  refine zr_tableIn (off := 40) (tgt := 48) dX5_perform_8 (by decide) (by decide) (by decide) (by decide) ?_
  refine zr_aload_n dX5_perform_48 rfl ?_
  refine zr_getfield dX5_perform_49 fX5_12 hj rfl (by decide) ?_
  refine zr_callVi [] dX5_perform_52 vX5_98 (qX3_addCase hX  h hA (by omega)) (zDA.obj h) (by decide) (by decide) (by decide) rfl rfl (Nat.le_of_ble_eq_true rfl) (by decide) rfl (fun kr1 s_kr1 h_kr1 => ?_)
  obtain ⟨e_kr1, F_kr1, r0_kr1⟩ := h_kr1
  have kh2 : s_kr1.1 (x + 1) = .inr (3, [.ref ((x + 2)), .ref ((x + 24)), .ref ((x + 27)), .ref ((x + 29))]) := zFr.get F_kr1 (by (try simp only [zIn]); omega) hj
  have kR3 : zRx (x + 24) s_kr1 := zRx.fr jr F_kr1 (by intro q h1 h2 h3; (try simp only [zIn, zJf] at h3); omega)
  have kR4 : zCu (x + 253) s_kr1 := zCu.fr jk F_kr1 (by intro q h1 h2 h3; (try simp only [zIn, zJf] at h3); omega)
  have kR5 : zCu (x + 27) s_kr1 := zCu.fr jc F_kr1 (by intro q h1 h2 h3; (try simp only [zIn, zJf] at h3); omega)
  have kR6 : zCu (x + 29) s_kr1 := zCu.fr jo F_kr1 (by intro q h1 h2 h3; (try simp only [zIn, zJf] at h3); omega)
  have kF7 := zFr.tr zFr.rf (P := (fun q => zIn (x + 2) q ∨ zJf x q)) F_kr1 (by intro q hq; (try simp only [zIn] at hq); (first | exact Or.inr (by unfold zJf; omega) | exact Or.inr hq | (rcases hq with hq | hq; exact Or.inl hq; exact Or.inr hq) | exact Or.inl (by unfold zIn; omega)))
  obtain rfl := e_kr1.symm
  refine zr_pop dX5_perform_55 rfl ?_
  refine zr_goto (tgt := 138) dX5_perform_56 (by decide) ?_
  exact zr_return dX5_perform_138 rfl (⟨rfl, kF7, ⟨kh2, kR3, kR4, kR5, kR6⟩, by show zDA (x + 2) (aCmd A 0 k l) _; unfold aCmd; rw [if_pos rfl]; exact r0_kr1⟩)

set_option maxHeartbeats 400000 in
set_option maxRecDepth 100000 in
theorem qX5_perform1 {X : zX} (hX : X.1.stackTraces = false) {σ : zS} {x : Nat} {A : zDk} {k : Nat} {l : Int32} (hJ : zJd x σ) (h : zDA (x + 2) A σ) (hA : zDw A) (hAl : zAl A 1 k) : zMet X mX5_perform yX5_perform 6 0 0 [.ref ((x + 1)), .ref ((zQ X 1)), .int (nI k), .int l] σ (zV (fun s => zFr σ s (fun q => zIn (x + 2) q ∨ zJf x q) ∧ zJd x s ∧ zDA (x + 2) (aCmd A 1 k l) s)) := by
  refine zMet_of (ls := [some (.ref ((x + 1))), some (.ref ((zQ X 1))), some (.int (nI k)), some (.int l)]) rfl (by decide +kernel) rfl (fun h => by cases h) hX (Nat.le_of_ble_eq_true rfl) rfl ?_
  obtain ⟨hj, jr, jk, jc, jo⟩ := id hJ
  obtain ⟨hC8, hP8, hW⟩ := id hA
  obtain ⟨a0, a1, a2, a3, a4, a5, a6⟩ := hAl
  have kk := a1 (by decide)
  have n16 := a2 rfl
  refine zr_MAP dX5_perform_0 fX5_63 ?_
  refine zr_aload_n dX5_perform_3 rfl ?_
  refine zr_callO hX [.ref ((zQ X 36))] dX5_perform_4 rfl (i := 1) (by decide) (by omega) (Nat.le_of_ble_eq_true rfl) rfl ?_
  refine zr_MAPat (v := 1) dX5_perform_7 (vp_in_nI (n := 1) (by omega) (by omega)) (by rw [nI_clamp (by omega)]; rfl) ?_
  refine zr_tableIn (off := 51) (tgt := 59) dX5_perform_8 (by decide) (by decide) (by decide) (by decide) ?_
  refine zr_aload_n dX5_perform_59 rfl ?_
  refine zr_getfield dX5_perform_60 fX5_12 hj rfl (by decide) ?_
  obtain ⟨wr1, rr1, mr1, tr1, ar1, fr1, ca1, cb1, cc1, cd1, ce1, cf1, cw1⟩ := id h
  refine zr_getfield dX5_perform_63 fX5_59 ca1 rfl (by decide) ?_
  refine zr_iload_n dX5_perform_66 rfl ?_
  refine zr_aaload6 (b := (x + 2 + 6 + 2 * k)) dX5_perform_67 cb1 (vp_in_nI (n := k) (by omega) (by omega)) (by rw [nI_clamp (by omega)]; exact (cw1 k (by omega)).1) ?_
  refine zr_iload_n dX5_perform_68 rfl ?_
  refine zr_callVv [] dX5_perform_69 vX5_101 (qW_append hX (i := k) l h hA (by omega) (by omega)) (zDA.wobj h (by omega)) (by decide) (by decide) (by decide) rfl rfl (Nat.le_of_ble_eq_true rfl) (by decide) rfl (fun s_kr2 h_kr2 => ?_)
  obtain ⟨F_kr2, r0_kr2⟩ := h_kr2
  have kh3 : s_kr2.1 (x + 1) = .inr (3, [.ref ((x + 2)), .ref ((x + 24)), .ref ((x + 27)), .ref ((x + 29))]) := zFr.get F_kr2 (by (try simp only [zIn]); omega) hj
  have kR4 : zRx (x + 24) s_kr2 := zRx.fr jr F_kr2 (by intro q h1 h2 h3; (try simp only [zIn, zJf] at h3); omega)
  have kR5 : zCu (x + 253) s_kr2 := zCu.fr jk F_kr2 (by intro q h1 h2 h3; (try simp only [zIn, zJf] at h3); omega)
  have kR6 : zCu (x + 27) s_kr2 := zCu.fr jc F_kr2 (by intro q h1 h2 h3; (try simp only [zIn, zJf] at h3); omega)
  have kR7 : zCu (x + 29) s_kr2 := zCu.fr jo F_kr2 (by intro q h1 h2 h3; (try simp only [zIn, zJf] at h3); omega)
  have kF8 := zFr.tr zFr.rf (P := (fun q => zIn (x + 2) q ∨ zJf x q)) F_kr2 (by intro q hq; (try simp only [zIn] at hq); (first | exact Or.inr (by unfold zJf; omega) | exact Or.inr hq | (rcases hq with hq | hq; exact Or.inl hq; exact Or.inr hq) | exact Or.inl (by unfold zIn; omega)))
  refine zr_goto (tgt := 138) dX5_perform_72 (by decide) ?_
  exact zr_return dX5_perform_138 rfl (⟨rfl, kF8, ⟨kh3, kR4, kR5, kR6, kR7⟩, by show zDA (x + 2) (aCmd A 1 k l) _; unfold aCmd; rw [if_neg (by decide), if_pos rfl]; exact r0_kr2⟩)

set_option maxHeartbeats 400000 in
set_option maxRecDepth 100000 in
theorem qX5_perform2 {X : zX} (hX : X.1.stackTraces = false) {σ : zS} {x : Nat} {A : zDk} {k : Nat} {l : Int32} (hJ : zJd x σ) (h : zDA (x + 2) A σ) (hA : zDw A) (hAl : zAl A 2 k) : zMet X mX5_perform yX5_perform 6 0 0 [.ref ((x + 1)), .ref ((zQ X 2)), .int (nI k), .int l] σ (zV (fun s => zFr σ s (fun q => zIn (x + 2) q ∨ zJf x q) ∧ zJd x s ∧ zDA (x + 2) (aCmd A 2 k l) s)) := by
  refine zMet_of (ls := [some (.ref ((x + 1))), some (.ref ((zQ X 2))), some (.int (nI k)), some (.int l)]) rfl (by decide +kernel) rfl (fun h => by cases h) hX (Nat.le_of_ble_eq_true rfl) rfl ?_
  obtain ⟨hj, jr, jk, jc, jo⟩ := id hJ
  obtain ⟨hC8, hP8, hW⟩ := id hA
  obtain ⟨a0, a1, a2, a3, a4, a5, a6⟩ := hAl
  have kk := a1 (by decide)
  have n0 := a3 rfl
  refine zr_MAP dX5_perform_0 fX5_63 ?_
  refine zr_aload_n dX5_perform_3 rfl ?_
  refine zr_callO hX [.ref ((zQ X 36))] dX5_perform_4 rfl (i := 2) (by decide) (by omega) (Nat.le_of_ble_eq_true rfl) rfl ?_
  refine zr_MAPat (v := 2) dX5_perform_7 (vp_in_nI (n := 2) (by omega) (by omega)) (by rw [nI_clamp (by omega)]; rfl) ?_
  refine zr_tableIn (off := 67) (tgt := 75) dX5_perform_8 (by decide) (by decide) (by decide) (by decide) ?_
  refine zr_aload_n dX5_perform_75 rfl ?_
  refine zr_getfield dX5_perform_76 fX5_12 hj rfl (by decide) ?_
  obtain ⟨wr1, rr1, mr1, tr1, ar1, fr1, ca1, cb1, cc1, cd1, ce1, cf1, cw1⟩ := id h
  refine zr_getfield dX5_perform_79 fX5_59 ca1 rfl (by decide) ?_
  refine zr_iload_n dX5_perform_82 rfl ?_
  refine zr_aaload6 (b := (x + 2 + 6 + 2 * k)) dX5_perform_83 cb1 (vp_in_nI (n := k) (by omega) (by omega)) (by rw [nI_clamp (by omega)]; exact (cw1 k (by omega)).1) ?_
  refine zr_callVi [] dX5_perform_84 vX5_105 (qW_removeLast hX (i := k)  h hA (by omega) (by omega)) (zDA.wobj h (by omega)) (by decide) (by decide) (by decide) rfl rfl (Nat.le_of_ble_eq_true rfl) (by decide) rfl (fun kr2 s_kr2 h_kr2 => ?_)
  obtain ⟨e_kr2, F_kr2, r0_kr2⟩ := h_kr2
  have kh3 : s_kr2.1 (x + 1) = .inr (3, [.ref ((x + 2)), .ref ((x + 24)), .ref ((x + 27)), .ref ((x + 29))]) := zFr.get F_kr2 (by (try simp only [zIn]); omega) hj
  have kR4 : zRx (x + 24) s_kr2 := zRx.fr jr F_kr2 (by intro q h1 h2 h3; (try simp only [zIn, zJf] at h3); omega)
  have kR5 : zCu (x + 253) s_kr2 := zCu.fr jk F_kr2 (by intro q h1 h2 h3; (try simp only [zIn, zJf] at h3); omega)
  have kR6 : zCu (x + 27) s_kr2 := zCu.fr jc F_kr2 (by intro q h1 h2 h3; (try simp only [zIn, zJf] at h3); omega)
  have kR7 : zCu (x + 29) s_kr2 := zCu.fr jo F_kr2 (by intro q h1 h2 h3; (try simp only [zIn, zJf] at h3); omega)
  have kF8 := zFr.tr zFr.rf (P := (fun q => zIn (x + 2) q ∨ zJf x q)) F_kr2 (by intro q hq; (try simp only [zIn] at hq); (first | exact Or.inr (by unfold zJf; omega) | exact Or.inr hq | (rcases hq with hq | hq; exact Or.inl hq; exact Or.inr hq) | exact Or.inl (by unfold zIn; omega)))
  obtain rfl := e_kr2.symm
  refine zr_pop dX5_perform_87 rfl ?_
  refine zr_goto (tgt := 138) dX5_perform_88 (by decide) ?_
  exact zr_return dX5_perform_138 rfl (⟨rfl, kF8, ⟨kh3, kR4, kR5, kR6, kR7⟩, by show zDA (x + 2) (aCmd A 2 k l) _; unfold aCmd; rw [if_neg (by decide), if_neg (by decide), if_pos rfl]; exact r0_kr2⟩)

set_option maxHeartbeats 400000 in
set_option maxRecDepth 100000 in
theorem qX5_perform3 {X : zX} (hX : X.1.stackTraces = false) {σ : zS} {x : Nat} {A : zDk} {k : Nat} {l : Int32} (hJ : zJd x σ) (h : zDA (x + 2) A σ) (hA : zDw A) (hAl : zAl A 3 k) : zMet X mX5_perform yX5_perform 6 0 0 [.ref ((x + 1)), .ref ((zQ X 3)), .int (nI k), .int l] σ (zV (fun s => zFr σ s (fun q => zIn (x + 2) q ∨ zJf x q) ∧ zJd x s ∧ zDA (x + 2) (aCmd A 3 k l) s)) := by
  refine zMet_of (ls := [some (.ref ((x + 1))), some (.ref ((zQ X 3))), some (.int (nI k)), some (.int l)]) rfl (by decide +kernel) rfl (fun h => by cases h) hX (Nat.le_of_ble_eq_true rfl) rfl ?_
  obtain ⟨hj, jr, jk, jc, jo⟩ := id hJ
  obtain ⟨hC8, hP8, hW⟩ := id hA
  obtain ⟨a0, a1, a2, a3, a4, a5, a6⟩ := hAl
  have kk := a1 (by decide)
  refine zr_MAP dX5_perform_0 fX5_63 ?_
  refine zr_aload_n dX5_perform_3 rfl ?_
  refine zr_callO hX [.ref ((zQ X 36))] dX5_perform_4 rfl (i := 3) (by decide) (by omega) (Nat.le_of_ble_eq_true rfl) rfl ?_
  refine zr_MAPat (v := 5) dX5_perform_7 (vp_in_nI (n := 3) (by omega) (by omega)) (by rw [nI_clamp (by omega)]; rfl) ?_
  refine zr_tableIn (off := 83) (tgt := 91) dX5_perform_8 (by decide) (by decide) (by decide) (by decide) ?_
  refine zr_aload_n dX5_perform_91 rfl ?_
  refine zr_getfield dX5_perform_92 fX5_12 hj rfl (by decide) ?_
  obtain ⟨wr1, rr1, mr1, tr1, ar1, fr1, ca1, cb1, cc1, cd1, ce1, cf1, cw1⟩ := id h
  refine zr_getfield dX5_perform_95 fX5_59 ca1 rfl (by decide) ?_
  refine zr_iload_n dX5_perform_98 rfl ?_
  refine zr_aaload6 (b := (x + 2 + 6 + 2 * k)) dX5_perform_99 cb1 (vp_in_nI (n := k) (by omega) (by omega)) (by rw [nI_clamp (by omega)]; exact (cw1 k (by omega)).1) ?_
  refine zr_callVi [] dX5_perform_100 vX5_108 (qW_removePairs hX (i := k)  h hA (by omega) ) (zDA.wobj h (by omega)) (by decide) (by decide) (by decide) rfl rfl (Nat.le_of_ble_eq_true rfl) (by decide) rfl (fun kr2 s_kr2 h_kr2 => ?_)
  obtain ⟨e_kr2, F_kr2, r0_kr2⟩ := h_kr2
  have kh3 : s_kr2.1 (x + 1) = .inr (3, [.ref ((x + 2)), .ref ((x + 24)), .ref ((x + 27)), .ref ((x + 29))]) := zFr.get F_kr2 (by (try simp only [zIn]); omega) hj
  have kR4 : zRx (x + 24) s_kr2 := zRx.fr jr F_kr2 (by intro q h1 h2 h3; (try simp only [zIn, zJf] at h3); omega)
  have kR5 : zCu (x + 253) s_kr2 := zCu.fr jk F_kr2 (by intro q h1 h2 h3; (try simp only [zIn, zJf] at h3); omega)
  have kR6 : zCu (x + 27) s_kr2 := zCu.fr jc F_kr2 (by intro q h1 h2 h3; (try simp only [zIn, zJf] at h3); omega)
  have kR7 : zCu (x + 29) s_kr2 := zCu.fr jo F_kr2 (by intro q h1 h2 h3; (try simp only [zIn, zJf] at h3); omega)
  have kF8 := zFr.tr zFr.rf (P := (fun q => zIn (x + 2) q ∨ zJf x q)) F_kr2 (by intro q hq; (try simp only [zIn] at hq); (first | exact Or.inr (by unfold zJf; omega) | exact Or.inr hq | (rcases hq with hq | hq; exact Or.inl hq; exact Or.inr hq) | exact Or.inl (by unfold zIn; omega)))
  obtain rfl := e_kr2.symm
  refine zr_pop dX5_perform_103 rfl ?_
  refine zr_goto (tgt := 138) dX5_perform_104 (by decide) ?_
  exact zr_return dX5_perform_138 rfl (⟨rfl, kF8, ⟨kh3, kR4, kR5, kR6, kR7⟩, by show zDA (x + 2) (aCmd A 3 k l) _; unfold aCmd; rw [if_neg (by decide), if_neg (by decide), if_neg (by decide), if_pos rfl]; exact r0_kr2⟩)

set_option maxHeartbeats 400000 in
set_option maxRecDepth 100000 in
theorem qX5_perform4 {X : zX} (hX : X.1.stackTraces = false) {σ : zS} {x : Nat} {A : zDk} {k : Nat} {l : Int32} (hJ : zJd x σ) (h : zDA (x + 2) A σ) (hA : zDw A) (hAl : zAl A 4 k) : zMet X mX5_perform yX5_perform 6 0 0 [.ref ((x + 1)), .ref ((zQ X 4)), .int (nI k), .int l] σ (zV (fun s => zFr σ s (fun q => zIn (x + 2) q ∨ zJf x q) ∧ zJd x s ∧ zDA (x + 2) (aCmd A 4 k l) s)) := by
  refine zMet_of (ls := [some (.ref ((x + 1))), some (.ref ((zQ X 4))), some (.int (nI k)), some (.int l)]) rfl (by decide +kernel) rfl (fun h => by cases h) hX (Nat.le_of_ble_eq_true rfl) rfl ?_
  obtain ⟨hj, jr, jk, jc, jo⟩ := id hJ
  obtain ⟨hC8, hP8, hW⟩ := id hA
  obtain ⟨a0, a1, a2, a3, a4, a5, a6⟩ := hAl
  have kk := a1 (by decide)
  obtain ⟨⟨q, W⟩, hO, hL⟩ := a4 rfl
  dsimp only at hL
  refine zr_MAP dX5_perform_0 fX5_63 ?_
  refine zr_aload_n dX5_perform_3 rfl ?_
  refine zr_callO hX [.ref ((zQ X 36))] dX5_perform_4 rfl (i := 4) (by decide) (by omega) (Nat.le_of_ble_eq_true rfl) rfl ?_
  refine zr_MAPat (v := 3) dX5_perform_7 (vp_in_nI (n := 4) (by omega) (by omega)) (by rw [nI_clamp (by omega)]; rfl) ?_
  refine zr_tableIn (off := 99) (tgt := 107) dX5_perform_8 (by decide) (by decide) (by decide) (by decide) ?_
  refine zr_aload_n dX5_perform_107 rfl ?_
  refine zr_iload_n dX5_perform_108 rfl ?_
  have kJ1 : zJd x σ := ⟨hj, jr, jk, jc, jo⟩
  refine zr_callVi [] dX5_perform_109 vX5_111 (qX5_replaceByRelaxed hX (k := k) kJ1 h hA (by omega) hO hL) (zJd.obj kJ1) (by decide) (by decide) (by decide) rfl rfl (Nat.le_of_ble_eq_true rfl) (by decide) rfl (fun kr2 s_kr2 h_kr2 => ?_)
  obtain ⟨e_kr2, F_kr2, r0_kr2, r1_kr2⟩ := h_kr2
  have kF3 := zFr.tr zFr.rf (P := (fun q => zIn (x + 2) q ∨ zJf x q)) F_kr2 (by intro q hq; (try simp only [zIn] at hq); (first | exact Or.inr (by unfold zJf; omega) | exact Or.inr hq | (rcases hq with hq | hq; exact Or.inl hq; exact Or.inr hq) | exact Or.inl (by unfold zIn; omega)))
  obtain rfl := e_kr2.symm
  obtain ⟨hj4, jr4, jk4, jc4, jo4⟩ := id r0_kr2
  refine zr_pop dX5_perform_112 rfl ?_
  refine zr_goto (tgt := 138) dX5_perform_113 (by decide) ?_
  exact zr_return dX5_perform_138 rfl (⟨rfl, kF3, ⟨hj4, jr4, jk4, jc4, jo4⟩, by show zDA (x + 2) (aCmd A 4 k l) _; unfold aCmd; rw [if_neg (by decide), if_neg (by decide), if_neg (by decide), if_neg (by decide), if_pos rfl]; unfold aRel; rw [hO]; exact r1_kr2⟩)

set_option maxHeartbeats 400000 in
set_option maxRecDepth 100000 in
theorem qX5_perform5 {X : zX} (hX : X.1.stackTraces = false) {σ : zS} {x : Nat} {A : zDk} {k : Nat} {l : Int32} (hJ : zJd x σ) (h : zDA (x + 2) A σ) (hA : zDw A) (hAl : zAl A 5 k) (hP7 : kP A < 8) : zMet X mX5_perform yX5_perform 6 0 0 [.ref ((x + 1)), .ref ((zQ X 5)), .int (nI k), .int l] σ (zV (fun s => zFr σ s (fun q => zIn (x + 2) q ∨ zJf x q) ∧ zJd x s ∧ zDA (x + 2) (aCmd A 5 k l) s)) := by
  refine zMet_of (ls := [some (.ref ((x + 1))), some (.ref ((zQ X 5))), some (.int (nI k)), some (.int l)]) rfl (by decide +kernel) rfl (fun h => by cases h) hX (Nat.le_of_ble_eq_true rfl) rfl ?_
  obtain ⟨hj, jr, jk, jc, jo⟩ := id hJ
  obtain ⟨hC8, hP8, hW⟩ := id hA
  obtain ⟨a0, a1, a2, a3, a4, a5, a6⟩ := hAl
  have kk := a1 (by decide)
  refine zr_MAP dX5_perform_0 fX5_63 ?_
  refine zr_aload_n dX5_perform_3 rfl ?_
  refine zr_callO hX [.ref ((zQ X 36))] dX5_perform_4 rfl (i := 5) (by decide) (by omega) (Nat.le_of_ble_eq_true rfl) rfl ?_
  refine zr_MAPat (v := 6) dX5_perform_7 (vp_in_nI (n := 5) (by omega) (by omega)) (by rw [nI_clamp (by omega)]; rfl) ?_
  refine zr_tableIn (off := 108) (tgt := 116) dX5_perform_8 (by decide) (by decide) (by decide) (by decide) ?_
  refine zr_aload_n dX5_perform_116 rfl ?_
  refine zr_iload_n dX5_perform_117 rfl ?_
  have kJ1 : zJd x σ := ⟨hj, jr, jk, jc, jo⟩
  refine zr_callVv [] dX5_perform_118 vX5_114 (qX5_giveVerdict hX (k := k) kJ1 h hA (by omega) hP7) (zJd.obj kJ1) (by decide) (by decide) (by decide) rfl rfl (Nat.le_of_ble_eq_true rfl) (by decide) rfl (fun s_kr2 h_kr2 => ?_)
  obtain ⟨F_kr2, r0_kr2, r1_kr2⟩ := h_kr2
  have kF3 := zFr.tr zFr.rf (P := (fun q => zIn (x + 2) q ∨ zJf x q)) F_kr2 (by intro q hq; (try simp only [zIn] at hq); (first | exact Or.inr (by unfold zJf; omega) | exact Or.inr hq | (rcases hq with hq | hq; exact Or.inl hq; exact Or.inr hq) | exact Or.inl (by unfold zIn; omega)))
  obtain ⟨hj4, jr4, jk4, jc4, jo4⟩ := id r0_kr2
  refine zr_goto (tgt := 138) dX5_perform_121 (by decide) ?_
  exact zr_return dX5_perform_138 rfl (⟨rfl, kF3, ⟨hj4, jr4, jk4, jc4, jo4⟩, by show zDA (x + 2) (aCmd A 5 k l) _; unfold aCmd; rw [if_neg (by decide), if_neg (by decide), if_neg (by decide), if_neg (by decide), if_neg (by decide), if_pos rfl]; exact r1_kr2⟩)

set_option maxHeartbeats 400000 in
set_option maxRecDepth 100000 in
theorem qX5_perform6 {X : zX} (hX : X.1.stackTraces = false) {σ : zS} {x : Nat} {A : zDk} {k : Nat} {l : Int32} (hJ : zJd x σ) (h : zDA (x + 2) A σ) (hA : zDw A) (hAl : zAl A 6 k) : zMet X mX5_perform yX5_perform 6 0 0 [.ref ((x + 1)), .ref ((zQ X 6)), .int (nI k), .int l] σ (zV (fun s => zFr σ s (fun q => zIn (x + 2) q ∨ zJf x q) ∧ zJd x s ∧ zDA (x + 2) (aCmd A 6 k l) s)) := by
  refine zMet_of (ls := [some (.ref ((x + 1))), some (.ref ((zQ X 6))), some (.int (nI k)), some (.int l)]) rfl (by decide +kernel) rfl (fun h => by cases h) hX (Nat.le_of_ble_eq_true rfl) rfl ?_
  obtain ⟨hj, jr, jk, jc, jo⟩ := id hJ
  obtain ⟨hC8, hP8, hW⟩ := id hA
  obtain ⟨a0, a1, a2, a3, a4, a5, a6⟩ := hAl
  have kk := a1 (by decide)
  obtain ⟨p, hp, ep⟩ : ∃ p, p < 8 ∧ kR A k = nI p := ((hA.2.2 k (by omega)).2.2.1).resolve_left (a6 rfl).1
  refine zr_MAP dX5_perform_0 fX5_63 ?_
  refine zr_aload_n dX5_perform_3 rfl ?_
  refine zr_callO hX [.ref ((zQ X 36))] dX5_perform_4 rfl (i := 6) (by decide) (by omega) (Nat.le_of_ble_eq_true rfl) rfl ?_
  refine zr_MAPat (v := 0) dX5_perform_7 (vp_in_nI (n := 6) (by omega) (by omega)) (by rw [nI_clamp (by omega)]; rfl) ?_
  refine zr_tableOut (tgt := 124) dX5_perform_8 (by decide) (by decide) ?_
  refine zr_aload_n dX5_perform_124 rfl ?_
  refine zr_aload_n dX5_perform_125 rfl ?_
  refine zr_getfield dX5_perform_126 fX5_12 hj rfl (by decide) ?_
  obtain ⟨wr1, rr1, mr1, tr1, ar1, fr1, ca1, cb1, cc1, cd1, ce1, cf1, cw1⟩ := id h
  refine zr_getfield dX5_perform_129 fX5_95 ca1 rfl (by decide) ?_
  refine zr_iload_n dX5_perform_132 rfl ?_
  refine zr_iaload dX5_perform_133 cc1 (vp_in_nI (n := k) (by omega) (by omega)) ?_
  rw [nI_clamp (n := k) (by omega)]
  refine zr_eqi (x' := (kR A k)) (cw1 k (by omega)).2.1.1 ?_
  refine zr_eqi (x' := nI p) (ep) ?_
  have kJ2 : zJd x σ := ⟨hj, jr, jk, jc, jo⟩
  refine zr_callVi [] dX5_perform_134 vX5_117 (qX5_reviewPrecedent hX (p := p) kJ2 h hA (by omega)) (zJd.obj kJ2) (by decide) (by decide) (by decide) rfl rfl (Nat.le_of_ble_eq_true rfl) (by decide) rfl (fun kr3 s_kr3 h_kr3 => ?_)
  obtain ⟨e_kr3, F_kr3, r0_kr3, r1_kr3⟩ := h_kr3
  have kF4 := zFr.tr zFr.rf (P := (fun q => zIn (x + 2) q ∨ zJf x q)) F_kr3 (by intro q hq; (try simp only [zIn] at hq); (first | exact Or.inr (by unfold zJf; omega) | exact Or.inr hq | (rcases hq with hq | hq; exact Or.inl hq; exact Or.inr hq) | exact Or.inl (by unfold zIn; omega)))
  obtain rfl := e_kr3.symm
  obtain ⟨hj5, jr5, jk5, jc5, jo5⟩ := id r0_kr3
  refine zr_pop dX5_perform_137 rfl ?_
  exact zr_return dX5_perform_138 rfl (⟨rfl, kF4, ⟨hj5, jr5, jk5, jc5, jo5⟩, by show zDA (x + 2) (aCmd A 6 k l) _; unfold aCmd; rw [if_neg (by decide), if_neg (by decide), if_neg (by decide), if_neg (by decide), if_neg (by decide), if_neg (by decide)]; rw [ep, nI_clamp (by omega)]; exact r1_kr3⟩)

