/-! execute: a text is read, its commands are run -/
theorem qX5_perform {X : zX} (hX : X.1.stackTraces = false) {σ : zS} {x : Nat} {A : zDk} {c k : Nat} {l : Int32} (hJ : zJd x σ) (h : zDA (x + 2) A σ) (hA : zDw A) (hc : c < 7) (hAl : zAl A c k) (hP7 : c = 5 → kP A < 8) : zMet X mX5_perform yX5_perform 6 0 0 [.ref (x + 1), .ref (zQ X c), .int (nI k), .int l] σ (zV (fun s => zFr σ s (fun q => zIn (x + 2) q ∨ zJf x q) ∧ zJd x s ∧ zDA (x + 2) (aCmd A c k l) s)) := by
  obtain rfl | rfl | rfl | rfl | rfl | rfl | rfl : c = 0 ∨ c = 1 ∨ c = 2 ∨ c = 3 ∨ c = 4 ∨ c = 5 ∨ c = 6 := by omega
  · exact qX5_perform0 hX hJ h hA hAl
  · exact qX5_perform1 hX hJ h hA hAl
  · exact qX5_perform2 hX hJ h hA hAl
  · exact qX5_perform3 hX hJ h hA hAl
  · exact qX5_perform4 hX hJ h hA hAl
  · exact qX5_perform5 hX hJ h hA hAl (hP7 rfl)
  · exact qX5_perform6 hX hJ h hA hAl
/-- the script behind a parse: n characters, read up to a, the commands L -/
def zSq (X : zX) (y n a : Nat) (L : zTL) (s : zS) : Prop := s.1 y = .inr (5, [.ref (y + 1), .int (nI n), .ref (y + 2), .ref (y + 3), .ref (y + 4), .int (nI L.length), .int (nI a)]) ∧ (∃ f, s.1 (y + 1) = .inl (1, 60, .inl f)) ∧ zHL X y L s
theorem zSq.fr {X : zX} {y n a : Nat} {L : zTL} {σ s : zS} {P : Nat → Prop} (h : zSq X y n a L σ) (F : zFr σ s P) (hp : ∀ q, y ≤ q → q < y + 5 → ¬ P q) : zSq X y n a L s := by
  obtain ⟨h0, ⟨f, h1⟩, h2⟩ := h
  exact ⟨F.get (hp _ (by omega) (by omega)) h0, ⟨f, F.get (hp _ (by omega) (by omega)) h1⟩, h2.fr F (fun q a b => hp q (by omega) b)⟩
theorem zSq.obj {X : zX} {y n a : Nat} {L : zTL} {s : zS} (h : zSq X y n a L s) : s.1 y = .inr (5, [.ref (y + 1), .int (nI n), .ref (y + 2), .ref (y + 3), .ref (y + 4), .int (nI L.length), .int (nI a)]) := h.1
theorem zSq.sk {X : zX} {y a : Nat} {L : zTL} {s : zS} (T : Nat → Int32) (h : zSq X y 0 a L s) : zSk y 0 T s := by
  obtain ⟨h0, ⟨f, h1⟩, ⟨cf, nf, lf, h2, h3, h4, h5⟩⟩ := h
  exact ⟨f, nf, lf, cf, _, _, by omega, h0, h1, h2, h3, h4, fun k hk => absurd hk (Nat.not_lt_zero k)⟩
theorem qE_parse {X : zX} (hX : X.1.stackTraces = false) {σ : zS} {y n : Nat} {T : Nat → Int32} (h : zSk y n T σ) (hQ : ∀ i j : Nat, i < 7 → j < 7 → zQ X i = zQ X j → i = j) : zMet X mX7_parse yX7_parse 7 0 0 [.ref y] σ (zI (fun y_ s => y_ = (if (zps T n 61 0 []).1 = true then 1 else 0) ∧ zFr σ s (fun q => y ≤ q ∧ q < y + 5) ∧ zSq X y n (zps T n 61 0 []).2.1 (zps T n 61 0 []).2.2 s)) := by
  obtain ⟨f, nf, lf, cf, vc, va, hn, k1, k2, k3, k4, k5, k6⟩ := id h
  have e := zps_congr k6 61 0 []
  refine (qX7_parse hX k1 k2 k3 k4 k5 hn hQ).mono (fun o s q => ?_)
  obtain ⟨r, e1, F, e2, e3, e4⟩ := q
  rw [e] at e2 e3 e4
  exact ⟨r, e1, e2, F.w (fun q hq => by omega), e3, ⟨f, F.get (by omega) k2⟩, e4⟩
theorem qE_empty {X : zX} (hX : X.1.stackTraces = false) {σ : zS} {y n a : Nat} {L : zTL} (h : zSq X y n a L σ) : zMet X mX7_empty yX7_empty 0 0 0 [.ref y] σ (zV (fun s => zFr σ s (fun q => y ≤ q ∧ q < y + 5) ∧ zSq X y 0 a L s)) := by
  obtain ⟨h0, ⟨f, h1⟩, h2⟩ := id h
  refine (qX7_empty hX h0).mono (fun o s q => ?_)
  obtain ⟨e, F, k0⟩ := q
  exact ⟨e, F.w (fun q hq => by omega), k0, ⟨f, F.get (by omega) h1⟩, h2.fr F (fun q a b => by omega)⟩
theorem zEx_nil (A : zDk) (i : Nat) : zEx A i [] = .inl A := rfl
theorem zEx_ok {A : zDk} {i c k : Nat} {l : Int32} (L : zTL) (h : zOb A c k = 0) : zEx A i ((c, k, l) :: L) = zEx (aCmd A c k l) (i + 1) L := by simp only [zEx]; rw [if_pos h]
theorem zEx_no {A : zDk} {i c k : Nat} {l : Int32} (L : zTL) (h : ¬ zOb A c k = 0) : zEx A i ((c, k, l) :: L) = .inr (i, zOb A c k) := by simp only [zEx]; rw [if_neg h]
/-- what a run of commands ends with -/
def zXQ (σ : zS) (x : Nat) (A S : zDk) (m : Nat) (U : Nat → zDk) (T : Nat → Int32) (ll : Nat) (ln : Nat → Int32) (hs kf ld dt dc : Int32) (L : zTL) : zDk ⊕ (Nat × Int32) → zO → zS → Prop
  | .inl B => zI (fun y_ s => y_ = nI L.length ∧ zFr σ s (zXr x) ∧ zKt x B S (min (m + 1) 8) (zPu A U) 0 T ll ln hs kf ld dt dc s)
  | .inr q => fun o s => o = .inr "java/lang/UnsupportedOperationException" ∧ zFr σ s (zXr x) ∧ zKt x A S m U 0 T ll ln hs kf 7 (nI q.1) q.2 s
set_option maxHeartbeats 400000 in
set_option maxRecDepth 100000 in
theorem l_ex {X : zX} (hX : X.1.stackTraces = false) {σ : zS} {x : Nat} {A S : zDk} {m : Nat} {U : Nat → zDk} {T : Nat → Int32} {ll : Nat} {ln : Nat → Int32} {hs kf ld dt dc : Int32} {at_ : Nat} {L : zTL} {lf : Nat → Int32} (gA : zGd A) (hQ : ∀ i j : Nat, i < 7 → j < 7 → zQ X i = zQ X j → i = j) (hok : ∀ q ∈ L, zLok q) (hL12 : L.length ≤ 12) (hN : σ.2 = none) (lL : ∀ k, k < ll → lf k = ln k) : ∀ (Lr : zTL) (i : Nat) (B : zDk) (s : zS) (x3 x4 : Option Value), (L.drop i = Lr) → (i ≤ L.length) → (zEx A 0 L = zEx B i Lr) → (zGd B) → (zFr σ s (zXr x)) → (s.1 x = .inr (7, [.ref ((x + 1)), .ref ((x + 2)), .ref ((x + 24)), .ref ((x + 31)), .ref ((x + 53)), .ref ((x + 75)), .ref ((x + 253)), .ref ((x + 255)), .ref ((x + 260)), .int (nI ll), .int hs, .int kf, .int ld, .int dt, .int dc])) → (zDA (x + 2) B s) → (zDA (x + 31) A s) → (zDA (x + 53) S s) → (zHi (x + 75) m U s) → (zJd x s) → (zSq X (x + 255) 0 at_ L s) → (s.1 (x + 260) = .inl (1, 400, .inl lf)) → zW X mX9_execute 8 1 6 (zXQ σ x A S m U T ll ln hs kf ld dt dc L (zEx A 0 L)) 54 [some (.ref x), some (.int 1), some (.int (nI i)), x3, x4] [] s := by
  have hA := gA.1
  intro Lr
  induction Lr with
  | nil =>
    intro i B s x3 x4 hD hi hE gB hF xo xA xK xS xH xJ xT xL
    have hB := gB.1
    obtain ⟨hj, jr, jk, jc, jo⟩ := id xJ
    have hl : L.length ≤ i := List.drop_eq_nil_iff.mp hD
    rw [zEx_nil] at hE
    rw [hE]
    refine zr_iload_n dX9_execute_54 rfl ?_
    refine zr_aload_n dX9_execute_55 rfl ?_
    refine zr_getfield dX9_execute_56 fX9_52 xo rfl (by decide) ?_
    obtain ⟨uo1, ⟨uf1, ug1⟩, uc1, un1, ul1, up1, uq1, ur1, uH1⟩ := id xT
    refine zr_getfield dX9_execute_59 fX9_310 uo1 rfl (by decide) ?_
    refine zr_icmp_ge (tgt := 162) dX9_execute_62 (by decide) (fun c_62 => ?_) (fun c_62 => absurd ((nI_leI (a := L.length) (b := i) (by omega) (by omega)).mpr (by omega)) c_62)
    refine zr_aload_n dX9_execute_162 rfl ?_
    refine zr_getfield dX9_execute_163 fX9_38 xo rfl (by decide) ?_
    refine zr_aload_n dX9_execute_166 rfl ?_
    refine zr_getfield dX9_execute_167 fX9_29 xo rfl (by decide) ?_
    refine zr_callVv [] dX9_execute_170 vX9_338 (qX4_keep hX xH xK hA (by omega)) (zHi.obj xH).choose_spec (by decide) (by decide) (by decide) rfl rfl (Nat.le_of_ble_eq_true rfl) (by decide) rfl (fun s_kr2 h_kr2 => ?_)
    obtain ⟨F_kr2, r0_kr2⟩ := h_kr2
    have kh3 : s_kr2.1 x = .inr (7, [.ref ((x + 1)), .ref ((x + 2)), .ref ((x + 24)), .ref ((x + 31)), .ref ((x + 53)), .ref ((x + 75)), .ref ((x + 253)), .ref ((x + 255)), .ref ((x + 260)), .int (nI ll), .int hs, .int kf, .int ld, .int dt, .int dc]) := zFr.get F_kr2 (by (try simp only [zIn]); omega) xo
    have kh4 : s_kr2.1 (x + 1) = .inr (3, [.ref ((x + 2)), .ref ((x + 24)), .ref ((x + 27)), .ref ((x + 29))]) := zFr.get F_kr2 (by (try simp only [zIn]); omega) hj
    have kh5 : s_kr2.1 (x + 260) = .inl (1, 400, .inl lf) := zFr.get F_kr2 (by (try simp only [zIn]); omega) xL
    have kh6 : s_kr2.1 (x + 255) = .inr (5, [.ref ((x + 255 + 1)), .int (nI 0), .ref ((x + 255 + 2)), .ref ((x + 255 + 3)), .ref ((x + 255 + 4)), .int (nI (L.length)), .int (nI at_)]) := zFr.get F_kr2 (by (try simp only [zIn]); omega) uo1
    have kh7 : s_kr2.1 (x + 255 + 2) = .inl (7, 12, .inr (.inr (.inr (.inr uc1)))) := zFr.get F_kr2 (by (try simp only [zIn]); omega) up1
    have kh8 : s_kr2.1 (x + 255 + 3) = .inl (0, 12, .inl un1) := zFr.get F_kr2 (by (try simp only [zIn]); omega) uq1
    have kh9 : s_kr2.1 (x + 255 + 4) = .inl (0, 12, .inl ul1) := zFr.get F_kr2 (by (try simp only [zIn]); omega) ur1
    have kR10 : zDA (x + 2) B s_kr2 := zDA.fr xA F_kr2 (by intro q h1 h2 h3; (try simp only [zIn, zJf] at h3); omega)
    have kR11 : zRx (x + 24) s_kr2 := zRx.fr jr F_kr2 (by intro q h1 h2 h3; (try simp only [zIn, zJf] at h3); omega)
    have kR12 : zCu (x + 253) s_kr2 := zCu.fr jk F_kr2 (by intro q h1 h2 h3; (try simp only [zIn, zJf] at h3); omega)
    have kR13 : zCu (x + 27) s_kr2 := zCu.fr jc F_kr2 (by intro q h1 h2 h3; (try simp only [zIn, zJf] at h3); omega)
    have kR14 : zCu (x + 29) s_kr2 := zCu.fr jo F_kr2 (by intro q h1 h2 h3; (try simp only [zIn, zJf] at h3); omega)
    have kR15 : zDA (x + 31) A s_kr2 := zDA.fr xK F_kr2 (by intro q h1 h2 h3; (try simp only [zIn, zJf] at h3); omega)
    have kR16 : zDA (x + 53) S s_kr2 := zDA.fr xS F_kr2 (by intro q h1 h2 h3; (try simp only [zIn, zJf] at h3); omega)
    have kR17 : zSq X (x + 255) 0 at_ L s_kr2 := zSq.fr xT F_kr2 (by intro q h1 h2 h3; (try simp only [zIn, zJf] at h3); omega)
    have kF18 := zFr.tr hF F_kr2 (by intro q hq; (try simp only [zIn, zJf, zXr] at hq); unfold zXr; omega)
    refine zr_aload_n dX9_execute_173 rfl ?_
    refine zr_getfield dX9_execute_174 fX9_52 kh3 rfl (by decide) ?_
    obtain ⟨uo19, ⟨uf19, ug19⟩, uc19, un19, ul19, up19, uq19, ur19, uH19⟩ := id kR17
    refine zr_getfield dX9_execute_177 fX9_310 uo19 rfl (by decide) ?_
    exact zr_ireturn dX9_execute_180 rfl (rfl) (⟨_, rfl, rfl, kF18, ⟨_, _, kh3, kR10, kR15, hA, kR16, r0_kr2, ⟨kh4, kR11, kR12, kR13, kR14⟩, (zSq.sk T kR17), kh5, lL⟩⟩)
  | cons q Lr ih =>
    intro i B s x3 x4 hD hi hE gB hF xo xA xK xS xH xJ xT xL
    obtain ⟨c, k, l⟩ := q
    have hB := gB.1
    obtain ⟨hj, jr, jk, jc, jo⟩ := id xJ
    have hi1 : i < L.length := by
      rcases Nat.lt_or_ge i L.length with z | z
      · exact z
      · rw [List.drop_eq_nil_of_le z] at hD; cases hD
    have hD2 := hD
    rw [List.drop_eq_getElem_cons hi1] at hD2
    injection hD2 with eL hD3
    obtain ⟨hc7, hk10, hlt⟩ : zLok (c, k, l) := eL ▸ hok _ (List.getElem_mem hi1)
    dsimp only at hc7 hk10 hlt
    refine zr_iload_n dX9_execute_54 rfl ?_
    refine zr_aload_n dX9_execute_55 rfl ?_
    refine zr_getfield dX9_execute_56 fX9_52 xo rfl (by decide) ?_
    obtain ⟨uo1, ⟨uf1, ug1⟩, uc1, un1, ul1, up1, uq1, ur1, uH1⟩ := id xT
    refine zr_getfield dX9_execute_59 fX9_310 uo1 rfl (by decide) ?_
    refine zr_icmp_ge (tgt := 162) dX9_execute_62 (by decide) (fun c_62 => absurd c_62 (fun h => absurd ((nI_leI (a := L.length) (b := i) (by omega) (by omega)).mp h) (by omega))) (fun c_62 => ?_)
    refine zr_aload_n dX9_execute_65 rfl ?_
    refine zr_getfield dX9_execute_66 fX9_52 xo rfl (by decide) ?_
    refine zr_getfield dX9_execute_69 fX9_313 uo1 rfl (by decide) ?_
    refine zr_iload_n dX9_execute_72 rfl ?_
    refine zr_aaload7 (b := (zQ X c)) dX9_execute_73 up1 (vp_in_nI (n := i) (by omega) (by omega)) (by rw [nI_clamp (by omega)]; rw [(uH1 i hi1).1, eL]) ?_
    refine zr_astore_n (ls' := [some (.ref x), some (.int 1), some (.int (nI i)), some (.ref ((zQ X c))), x4]) dX9_execute_74 rfl (by decide) rfl ?_
    refine zr_aload_n dX9_execute_75 rfl ?_
    refine zr_getfield dX9_execute_76 fX9_12 xo rfl (by decide) ?_
    refine zr_aload_n dX9_execute_79 rfl ?_
    refine zr_aload_n dX9_execute_80 rfl ?_
    refine zr_getfield dX9_execute_81 fX9_52 xo rfl (by decide) ?_
    refine zr_getfield dX9_execute_84 fX9_317 uo1 rfl (by decide) ?_
    refine zr_iload_n dX9_execute_87 rfl ?_
    refine zr_iaload dX9_execute_88 uq1 (vp_in_nI (n := i) (by omega) (by omega)) ?_
    rw [nI_clamp (n := i) (by omega)]
    refine zr_eqi (x' := nI k) ((uH1 i hi1).2.1.trans (by rw [eL])) ?_
    have kJ2 : zJd x s := ⟨hj, jr, jk, jc, jo⟩
    refine zr_callVi [] dX9_execute_89 vX9_320 (qX5_objectionTo hX (c := c) (k := k) kJ2 xA hB hQ (by omega) (by omega)) (zJd.obj kJ2) (by decide) (by decide) (by decide) rfl rfl (Nat.le_of_ble_eq_true rfl) (by decide) rfl (fun kr3 s_kr3 h_kr3 => ?_)
    obtain ⟨e_kr3, F_kr3, r0_kr3⟩ := h_kr3
    have kh4 : s_kr3.1 x = .inr (7, [.ref ((x + 1)), .ref ((x + 2)), .ref ((x + 24)), .ref ((x + 31)), .ref ((x + 53)), .ref ((x + 75)), .ref ((x + 253)), .ref ((x + 255)), .ref ((x + 260)), .int (nI ll), .int hs, .int kf, .int ld, .int dt, .int dc]) := zFr.get F_kr3 (by unfold zJf; omega) xo
    have kh5 : s_kr3.1 (x + 260) = .inl (1, 400, .inl lf) := zFr.get F_kr3 (by unfold zJf; omega) xL
    have kh6 : s_kr3.1 (x + 255) = .inr (5, [.ref ((x + 255 + 1)), .int (nI 0), .ref ((x + 255 + 2)), .ref ((x + 255 + 3)), .ref ((x + 255 + 4)), .int (nI (L.length)), .int (nI at_)]) := zFr.get F_kr3 (by unfold zJf; omega) uo1
    have kh7 : s_kr3.1 (x + 255 + 2) = .inl (7, 12, .inr (.inr (.inr (.inr uc1)))) := zFr.get F_kr3 (by unfold zJf; omega) up1
    have kh8 : s_kr3.1 (x + 255 + 3) = .inl (0, 12, .inl un1) := zFr.get F_kr3 (by unfold zJf; omega) uq1
    have kh9 : s_kr3.1 (x + 255 + 4) = .inl (0, 12, .inl ul1) := zFr.get F_kr3 (by unfold zJf; omega) ur1
    have kR10 : zDA (x + 2) B s_kr3 := zDA.fr xA F_kr3 (by intro q h1 h2 h3; (try simp only [zIn, zJf] at h3); omega)
    have kR11 : zDA (x + 31) A s_kr3 := zDA.fr xK F_kr3 (by intro q h1 h2 h3; (try simp only [zIn, zJf] at h3); omega)
    have kR12 : zDA (x + 53) S s_kr3 := zDA.fr xS F_kr3 (by intro q h1 h2 h3; (try simp only [zIn, zJf] at h3); omega)
    have kR13 : zHi (x + 75) m U s_kr3 := zHi.fr xH F_kr3 (by intro q h1 h2 h3; (try simp only [zIn, zJf] at h3); omega)
    have kR14 : zSq X (x + 255) 0 at_ L s_kr3 := zSq.fr xT F_kr3 (by intro q h1 h2 h3; (try simp only [zIn, zJf] at h3); omega)
    have kF15 := zFr.tr hF F_kr3 (by intro q hq; (try simp only [zIn, zJf, zXr] at hq); unfold zXr; omega)
    obtain rfl := e_kr3.symm
    obtain ⟨hj16, jr16, jk16, jc16, jo16⟩ := id r0_kr3
    refine zr_istore (ls' := [some (.ref x), some (.int 1), some (.int (nI i)), some (.ref ((zQ X c))), some (.int ((zOb B c k)))]) dX9_execute_92 (by decide) rfl ?_
    refine zr_iload dX9_execute_94 rfl ?_
    refine zr_if_eq (tgt := 130) dX9_execute_96 (by decide) (fun c_96 => ?_) (fun c_96 => ?_)
    · have hob : zOb B c k = 0 := c_96
      have hAl := zOb_ok hob hc7
      have hP7 : c = 5 → kP B < 8 := fun z => by subst z; have := gB.lt (hAl.2.1 (by decide)) (hAl.2.2.2.2.2.1 (by decide) (by decide)); have := hB.1; omega
      refine zr_aload_n dX9_execute_130 rfl ?_
      refine zr_getfield dX9_execute_131 fX9_12 kh4 rfl (by decide) ?_
      refine zr_aload_n dX9_execute_134 rfl ?_
      refine zr_aload_n dX9_execute_135 rfl ?_
      refine zr_getfield dX9_execute_136 fX9_52 kh4 rfl (by decide) ?_
      refine zr_getfield dX9_execute_139 fX9_317 kh6 rfl (by decide) ?_
      refine zr_iload_n dX9_execute_142 rfl ?_
      refine zr_iaload dX9_execute_143 kh8 (vp_in_nI (n := i) (by omega) (by omega)) ?_
      rw [nI_clamp (n := i) (by omega)]
      refine zr_eqi (x' := nI k) ((uH1 i hi1).2.1.trans (by rw [eL])) ?_
      refine zr_aload_n dX9_execute_144 rfl ?_
      refine zr_getfield dX9_execute_145 fX9_52 kh4 rfl (by decide) ?_
      refine zr_getfield dX9_execute_148 fX9_333 kh6 rfl (by decide) ?_
      refine zr_iload_n dX9_execute_151 rfl ?_
      refine zr_iaload dX9_execute_152 kh9 (vp_in_nI (n := i) (by omega) (by omega)) ?_
      rw [nI_clamp (n := i) (by omega)]
      refine zr_eqi (x' := l) ((uH1 i hi1).2.2.trans (by rw [eL])) ?_
      have kJ17 : zJd x s_kr3 := ⟨hj16, jr16, jk16, jc16, jo16⟩
      refine zr_callVv [] dX9_execute_153 vX9_334 (qX5_perform hX (c := c) (k := k) (l := l) kJ17 kR10 hB hc7 hAl hP7) (zJd.obj kJ17) (by decide) (by decide) (by decide) rfl rfl (Nat.le_of_ble_eq_true rfl) (by decide) rfl (fun s_kr18 h_kr18 => ?_)
      obtain ⟨F_kr18, r0_kr18, r1_kr18⟩ := h_kr18
      have kh19 : s_kr18.1 x = .inr (7, [.ref ((x + 1)), .ref ((x + 2)), .ref ((x + 24)), .ref ((x + 31)), .ref ((x + 53)), .ref ((x + 75)), .ref ((x + 253)), .ref ((x + 255)), .ref ((x + 260)), .int (nI ll), .int hs, .int kf, .int ld, .int dt, .int dc]) := zFr.get F_kr18 (by simp only [zIn, zJf]; omega) kh4
      have kh20 : s_kr18.1 (x + 260) = .inl (1, 400, .inl lf) := zFr.get F_kr18 (by simp only [zIn, zJf]; omega) kh5
      have kh21 : s_kr18.1 (x + 255) = .inr (5, [.ref ((x + 255 + 1)), .int (nI 0), .ref ((x + 255 + 2)), .ref ((x + 255 + 3)), .ref ((x + 255 + 4)), .int (nI (L.length)), .int (nI at_)]) := zFr.get F_kr18 (by simp only [zIn, zJf]; omega) kh6
      have kh22 : s_kr18.1 (x + 255 + 2) = .inl (7, 12, .inr (.inr (.inr (.inr uc1)))) := zFr.get F_kr18 (by simp only [zIn, zJf]; omega) kh7
      have kh23 : s_kr18.1 (x + 255 + 3) = .inl (0, 12, .inl un1) := zFr.get F_kr18 (by simp only [zIn, zJf]; omega) kh8
      have kh24 : s_kr18.1 (x + 255 + 4) = .inl (0, 12, .inl ul1) := zFr.get F_kr18 (by simp only [zIn, zJf]; omega) kh9
      have kR25 : zDA (x + 31) A s_kr18 := zDA.fr kR11 F_kr18 (by intro q h1 h2 h3; (try simp only [zIn, zJf] at h3); omega)
      have kR26 : zDA (x + 53) S s_kr18 := zDA.fr kR12 F_kr18 (by intro q h1 h2 h3; (try simp only [zIn, zJf] at h3); omega)
      have kR27 : zHi (x + 75) m U s_kr18 := zHi.fr kR13 F_kr18 (by intro q h1 h2 h3; (try simp only [zIn, zJf] at h3); omega)
      have kR28 : zSq X (x + 255) 0 at_ L s_kr18 := zSq.fr kR14 F_kr18 (by intro q h1 h2 h3; (try simp only [zIn, zJf] at h3); omega)
      have kF29 := zFr.tr kF15 F_kr18 (by intro q hq; (try simp only [zIn, zJf, zXr] at hq); unfold zXr; omega)
      obtain ⟨hj30, jr30, jk30, jc30, jo30⟩ := id r0_kr18
      refine zr_iinc (v := nI (i + 1)) (ls' := [some (.ref x), some (.int 1), some (.int (nI (i + 1))), some (.ref ((zQ X c))), some (.int ((zOb B c k)))]) dX9_execute_156 rfl (nI_1 _) (by decide) rfl ?_
      refine zr_goto (tgt := 54) dX9_execute_159 (by decide) ?_
      exact ih (i + 1) (aCmd B c k l) _ _ _ hD3 (by omega) (by rw [hE, zEx_ok Lr hob]) (gB.cmd hAl hc7 hlt) kF29 kh19 r1_kr18 kR25 kR26 kR27 ⟨hj30, jr30, jk30, jc30, jo30⟩ kR28 kh20
    · refine zr_aload_n dX9_execute_99 rfl ?_
      refine zr_getfield dX9_execute_100 fX9_20 kh4 rfl (by decide) ?_
      refine zr_aload_n dX9_execute_103 rfl ?_
      refine zr_getfield dX9_execute_104 fX9_29 kh4 rfl (by decide) ?_
      refine zr_callVv [] dX9_execute_107 vX9_306 (qX3_copyFrom hX kR10 kR11 hA (by omega)) (zDA.obj kR10) (by decide) (by decide) (by decide) rfl rfl (Nat.le_of_ble_eq_true rfl) (by decide) rfl (fun s_kr31 h_kr31 => ?_)
      obtain ⟨F_kr31, r0_kr31⟩ := h_kr31
      have kh32 : s_kr31.1 x = .inr (7, [.ref ((x + 1)), .ref ((x + 2)), .ref ((x + 24)), .ref ((x + 31)), .ref ((x + 53)), .ref ((x + 75)), .ref ((x + 253)), .ref ((x + 255)), .ref ((x + 260)), .int (nI ll), .int hs, .int kf, .int ld, .int dt, .int dc]) := zFr.get F_kr31 (by (try simp only [zIn]); omega) kh4
      have kh33 : s_kr31.1 (x + 260) = .inl (1, 400, .inl lf) := zFr.get F_kr31 (by (try simp only [zIn]); omega) kh5
      have kh34 : s_kr31.1 (x + 255) = .inr (5, [.ref ((x + 255 + 1)), .int (nI 0), .ref ((x + 255 + 2)), .ref ((x + 255 + 3)), .ref ((x + 255 + 4)), .int (nI (L.length)), .int (nI at_)]) := zFr.get F_kr31 (by (try simp only [zIn]); omega) kh6
      have kh35 : s_kr31.1 (x + 255 + 2) = .inl (7, 12, .inr (.inr (.inr (.inr uc1)))) := zFr.get F_kr31 (by (try simp only [zIn]); omega) kh7
      have kh36 : s_kr31.1 (x + 255 + 3) = .inl (0, 12, .inl un1) := zFr.get F_kr31 (by (try simp only [zIn]); omega) kh8
      have kh37 : s_kr31.1 (x + 255 + 4) = .inl (0, 12, .inl ul1) := zFr.get F_kr31 (by (try simp only [zIn]); omega) kh9
      have kh38 : s_kr31.1 (x + 1) = .inr (3, [.ref ((x + 2)), .ref ((x + 24)), .ref ((x + 27)), .ref ((x + 29))]) := zFr.get F_kr31 (by (try simp only [zIn]); omega) hj16
      have kR39 : zDA (x + 31) A s_kr31 := zDA.fr kR11 F_kr31 (by intro q h1 h2 h3; (try simp only [zIn, zJf] at h3); omega)
      have kR40 : zDA (x + 53) S s_kr31 := zDA.fr kR12 F_kr31 (by intro q h1 h2 h3; (try simp only [zIn, zJf] at h3); omega)
      have kR41 : zHi (x + 75) m U s_kr31 := zHi.fr kR13 F_kr31 (by intro q h1 h2 h3; (try simp only [zIn, zJf] at h3); omega)
      have kR42 : zSq X (x + 255) 0 at_ L s_kr31 := zSq.fr kR14 F_kr31 (by intro q h1 h2 h3; (try simp only [zIn, zJf] at h3); omega)
      have kR43 : zRx (x + 24) s_kr31 := zRx.fr jr16 F_kr31 (by intro q h1 h2 h3; (try simp only [zIn, zJf] at h3); omega)
      have kR44 : zCu (x + 253) s_kr31 := zCu.fr jk16 F_kr31 (by intro q h1 h2 h3; (try simp only [zIn, zJf] at h3); omega)
      have kR45 : zCu (x + 27) s_kr31 := zCu.fr jc16 F_kr31 (by intro q h1 h2 h3; (try simp only [zIn, zJf] at h3); omega)
      have kR46 : zCu (x + 29) s_kr31 := zCu.fr jo16 F_kr31 (by intro q h1 h2 h3; (try simp only [zIn, zJf] at h3); omega)
      have kF47 := zFr.tr kF15 F_kr31 (by intro q hq; (try simp only [zIn, zJf, zXr] at hq); unfold zXr; omega)
      refine zr_aload_n dX9_execute_110 rfl ?_
      refine zr_bipush (v := 7) dX9_execute_111 (by decide) ?_
      refine zr_iload_n dX9_execute_113 rfl ?_
      refine zr_iload dX9_execute_114 rfl ?_
      refine zr_callVv [] dX9_execute_116 vX9_324 (qX9_keepDenial hX (a := 7) (b := nI i) (c := (zOb B c k)) kh32) kh32 (by decide) (by decide) (by decide) rfl rfl (Nat.le_of_ble_eq_true rfl) (by decide) rfl (fun s_ h_ => ?_)
      rw [h_]
      refine zr_sig (fun ks48 e_ks48 => ?_)
      have kh49 : ks48.1 x = .inr (7, [.ref ((x + 1)), .ref ((x + 2)), .ref ((x + 24)), .ref ((x + 31)), .ref ((x + 53)), .ref ((x + 75)), .ref ((x + 253)), .ref ((x + 255)), .ref ((x + 260)), .int (nI ll), .int hs, .int kf, .int 7, .int (nI i), .int ((zOb B c k))]) := by rw [e_ks48]; exact zup_at _ _ _
      have kh50 : ks48.1 (x + 260) = .inl (1, 400, .inl lf) := by rw [e_ks48, zup_ne _ _ (by omega)]; exact kh33
      have kh51 : ks48.1 (x + 255) = .inr (5, [.ref ((x + 255 + 1)), .int (nI 0), .ref ((x + 255 + 2)), .ref ((x + 255 + 3)), .ref ((x + 255 + 4)), .int (nI (L.length)), .int (nI at_)]) := by rw [e_ks48, zup_ne _ _ (by omega)]; exact kh34
      have kh52 : ks48.1 (x + 255 + 2) = .inl (7, 12, .inr (.inr (.inr (.inr uc1)))) := by rw [e_ks48, zup_ne _ _ (by omega)]; exact kh35
      have kh53 : ks48.1 (x + 255 + 3) = .inl (0, 12, .inl un1) := by rw [e_ks48, zup_ne _ _ (by omega)]; exact kh36
      have kh54 : ks48.1 (x + 255 + 4) = .inl (0, 12, .inl ul1) := by rw [e_ks48, zup_ne _ _ (by omega)]; exact kh37
      have kh55 : ks48.1 (x + 1) = .inr (3, [.ref ((x + 2)), .ref ((x + 24)), .ref ((x + 27)), .ref ((x + 29))]) := by rw [e_ks48, zup_ne _ _ (by omega)]; exact kh38
      have kF56 := zFr.put kF47 e_ks48 (by unfold zXr; omega)
      have kR57 : zDA (x + 2) A ks48 := zDA.fr r0_kr31 (zFr.put (P := fun q => q = x) zFr.rf e_ks48 rfl) (by intro q h1 h2 h3; (try simp only [zIn, zJf] at h3); omega)
      have kR58 : zDA (x + 31) A ks48 := zDA.fr kR39 (zFr.put (P := fun q => q = x) zFr.rf e_ks48 rfl) (by intro q h1 h2 h3; (try simp only [zIn, zJf] at h3); omega)
      have kR59 : zDA (x + 53) S ks48 := zDA.fr kR40 (zFr.put (P := fun q => q = x) zFr.rf e_ks48 rfl) (by intro q h1 h2 h3; (try simp only [zIn, zJf] at h3); omega)
      have kR60 : zHi (x + 75) m U ks48 := zHi.fr kR41 (zFr.put (P := fun q => q = x) zFr.rf e_ks48 rfl) (by intro q h1 h2 h3; (try simp only [zIn, zJf] at h3); omega)
      have kR61 : zSq X (x + 255) 0 at_ L ks48 := zSq.fr kR42 (zFr.put (P := fun q => q = x) zFr.rf e_ks48 rfl) (by intro q h1 h2 h3; (try simp only [zIn, zJf] at h3); omega)
      have kR62 : zRx (x + 24) ks48 := zRx.fr kR43 (zFr.put (P := fun q => q = x) zFr.rf e_ks48 rfl) (by intro q h1 h2 h3; (try simp only [zIn, zJf] at h3); omega)
      have kR63 : zCu (x + 253) ks48 := zCu.fr kR44 (zFr.put (P := fun q => q = x) zFr.rf e_ks48 rfl) (by intro q h1 h2 h3; (try simp only [zIn, zJf] at h3); omega)
      have kR64 : zCu (x + 27) ks48 := zCu.fr kR45 (zFr.put (P := fun q => q = x) zFr.rf e_ks48 rfl) (by intro q h1 h2 h3; (try simp only [zIn, zJf] at h3); omega)
      have kR65 : zCu (x + 29) ks48 := zCu.fr kR46 (zFr.put (P := fun q => q = x) zFr.rf e_ks48 rfl) (by intro q h1 h2 h3; (try simp only [zIn, zJf] at h3); omega)
      exact zr_thrW dX9_execute_119 dX9_execute_122 dX9_execute_123 dX9_execute_126 dX9_execute_129 thX9_328_330 rfl (by decide) (by decide) (by decide) (by decide) (by rw [hE, zEx_no Lr c_96, zNN (kF56.1.trans hN)]; exact ⟨rfl, kF56, ⟨_, _, kh49, kR57, kR58, hA, kR59, kR60, ⟨kh55, kR62, kR63, kR64, kR65⟩, (zSq.sk T kR61), kh50, lL⟩⟩)

set_option maxHeartbeats 400000 in
set_option maxRecDepth 100000 in
theorem qX9_execute {X : zX} (hX : X.1.stackTraces = false) {σ : zS} {x : Nat} {A S : zDk} {m : Nat} {U : Nat → zDk} {n : Nat} {T : Nat → Int32} {ll : Nat} {ln : Nat → Int32} {hs kf ld dt dc : Int32} {at_ : Nat} {L : zTL} (hC : zKt x A S m U n T ll ln hs kf ld dt dc σ) (gA : zGd A) (hQ : ∀ i j : Nat, i < 7 → j < 7 → zQ X i = zQ X j → i = j) (hP : zps T n 61 0 [] = (true, at_, L)) (hN : σ.2 = none) : zMet X mX9_execute yX9_execute 8 1 6 [.ref x] σ ((zXQ σ x A S m U T ll ln hs kf ld dt dc L (zEx A 0 L))) := by
  refine zMet_of (ls := [some (.ref x), none, none, none, none]) rfl (by decide +kernel) rfl (fun h => by cases h) hX (Nat.le_of_ble_eq_true rfl) rfl ?_
  have hA := gA.1
  obtain ⟨K, lf, xo, xA, xK, wK, xS, xH, xJ, xT, xL, lL⟩ := id hC
  obtain ⟨hj, jr, jk, jc, jo⟩ := id xJ
  obtain ⟨hC8, hP8, hW⟩ := id hA
  have hn60 : n ≤ 60 := by obtain ⟨tf, tn, tl, tc, vc, va, z, -⟩ := id xT; exact z
  have eq0 : (if (zps T n 61 0 []).1 = true then (1 : Int32) else 0) = 1 := by rw [hP]; rfl
  refine zr_aload_n dX9_execute_0 rfl ?_
  refine zr_getfield dX9_execute_1 fX9_52 xo rfl (by decide) ?_
  refine zr_callVi [] dX9_execute_4 vX9_295 (qE_parse hX xT hQ) (zSk.obj xT).choose_spec (by decide) (by decide) (by decide) rfl rfl (Nat.le_of_ble_eq_true rfl) (by decide) rfl (fun kr1 s_kr1 h_kr1 => ?_)
  obtain ⟨e_kr1, F_kr1, r0_kr1⟩ := h_kr1
  have kh2 : s_kr1.1 x = .inr (7, [.ref ((x + 1)), .ref ((x + 2)), .ref ((x + 24)), .ref ((x + 31)), .ref ((x + 53)), .ref ((x + 75)), .ref ((x + 253)), .ref ((x + 255)), .ref ((x + 260)), .int (nI ll), .int hs, .int kf, .int ld, .int dt, .int dc]) := zFr.get F_kr1 (by omega) xo
  have kh3 : s_kr1.1 (x + 1) = .inr (3, [.ref ((x + 2)), .ref ((x + 24)), .ref ((x + 27)), .ref ((x + 29))]) := zFr.get F_kr1 (by omega) hj
  have kh4 : s_kr1.1 (x + 260) = .inl (1, 400, .inl lf) := zFr.get F_kr1 (by omega) xL
  have kR5 : zDA (x + 2) A s_kr1 := zDA.fr xA F_kr1 (by intro q h1 h2 h3; (try simp only [zIn, zJf] at h3); omega)
  have kR6 : zRx (x + 24) s_kr1 := zRx.fr jr F_kr1 (by intro q h1 h2 h3; (try simp only [zIn, zJf] at h3); omega)
  have kR7 : zCu (x + 253) s_kr1 := zCu.fr jk F_kr1 (by intro q h1 h2 h3; (try simp only [zIn, zJf] at h3); omega)
  have kR8 : zCu (x + 27) s_kr1 := zCu.fr jc F_kr1 (by intro q h1 h2 h3; (try simp only [zIn, zJf] at h3); omega)
  have kR9 : zCu (x + 29) s_kr1 := zCu.fr jo F_kr1 (by intro q h1 h2 h3; (try simp only [zIn, zJf] at h3); omega)
  have kR10 : zDA (x + 31) K s_kr1 := zDA.fr xK F_kr1 (by intro q h1 h2 h3; (try simp only [zIn, zJf] at h3); omega)
  have kR11 : zDA (x + 53) S s_kr1 := zDA.fr xS F_kr1 (by intro q h1 h2 h3; (try simp only [zIn, zJf] at h3); omega)
  have kR12 : zHi (x + 75) m U s_kr1 := zHi.fr xH F_kr1 (by intro q h1 h2 h3; (try simp only [zIn, zJf] at h3); omega)
  have kF13 := zFr.tr zFr.rf (P := zXr x) F_kr1 (by intro q hq; (try simp only [zIn, zJf, zXr] at hq); unfold zXr; omega)
  replace e_kr1 := e_kr1.trans (eq0 : (_ : Int32) = 1)
  obtain rfl := e_kr1.symm
  refine zr_istore_n (ls' := [some (.ref x), some (.int 1), none, none, none]) dX9_execute_7 rfl (by decide) rfl ?_
  refine zr_aload_n dX9_execute_8 rfl ?_
  have xq14 : zSq X (x + 255) n at_ L s_kr1 := by have z := r0_kr1; rw [hP] at z; exact z
  refine zr_getfield dX9_execute_9 fX9_52 kh2 rfl (by decide) ?_
  refine zr_callVv [] dX9_execute_12 vX9_298 (qE_empty hX xq14) (zSq.obj xq14) (by decide) (by decide) (by decide) rfl rfl (Nat.le_of_ble_eq_true rfl) (by decide) rfl (fun s_kr15 h_kr15 => ?_)
  obtain ⟨F_kr15, r0_kr15⟩ := h_kr15
  have kh16 : s_kr15.1 x = .inr (7, [.ref ((x + 1)), .ref ((x + 2)), .ref ((x + 24)), .ref ((x + 31)), .ref ((x + 53)), .ref ((x + 75)), .ref ((x + 253)), .ref ((x + 255)), .ref ((x + 260)), .int (nI ll), .int hs, .int kf, .int ld, .int dt, .int dc]) := zFr.get F_kr15 (by omega) kh2
  have kh17 : s_kr15.1 (x + 1) = .inr (3, [.ref ((x + 2)), .ref ((x + 24)), .ref ((x + 27)), .ref ((x + 29))]) := zFr.get F_kr15 (by omega) kh3
  have kh18 : s_kr15.1 (x + 260) = .inl (1, 400, .inl lf) := zFr.get F_kr15 (by omega) kh4
  have kR19 : zDA (x + 2) A s_kr15 := zDA.fr kR5 F_kr15 (by intro q h1 h2 h3; (try simp only [zIn, zJf] at h3); omega)
  have kR20 : zRx (x + 24) s_kr15 := zRx.fr kR6 F_kr15 (by intro q h1 h2 h3; (try simp only [zIn, zJf] at h3); omega)
  have kR21 : zCu (x + 253) s_kr15 := zCu.fr kR7 F_kr15 (by intro q h1 h2 h3; (try simp only [zIn, zJf] at h3); omega)
  have kR22 : zCu (x + 27) s_kr15 := zCu.fr kR8 F_kr15 (by intro q h1 h2 h3; (try simp only [zIn, zJf] at h3); omega)
  have kR23 : zCu (x + 29) s_kr15 := zCu.fr kR9 F_kr15 (by intro q h1 h2 h3; (try simp only [zIn, zJf] at h3); omega)
  have kR24 : zDA (x + 31) K s_kr15 := zDA.fr kR10 F_kr15 (by intro q h1 h2 h3; (try simp only [zIn, zJf] at h3); omega)
  have kR25 : zDA (x + 53) S s_kr15 := zDA.fr kR11 F_kr15 (by intro q h1 h2 h3; (try simp only [zIn, zJf] at h3); omega)
  have kR26 : zHi (x + 75) m U s_kr15 := zHi.fr kR12 F_kr15 (by intro q h1 h2 h3; (try simp only [zIn, zJf] at h3); omega)
  have kF27 := zFr.tr kF13 F_kr15 (by intro q hq; (try simp only [zIn, zJf, zXr] at hq); unfold zXr; omega)
  refine zr_iload_n dX9_execute_15 rfl ?_
  refine zr_if_ne (tgt := 41) dX9_execute_16 (by decide) (fun c_16 => ?_) (fun c_16 => absurd c_16 (by decide))
  refine zr_aload_n dX9_execute_41 rfl ?_
  refine zr_getfield dX9_execute_42 fX9_29 kh16 rfl (by decide) ?_
  refine zr_aload_n dX9_execute_45 rfl ?_
  refine zr_getfield dX9_execute_46 fX9_20 kh16 rfl (by decide) ?_
  refine zr_callVv [] dX9_execute_49 vX9_306 (qX3_copyFrom hX kR24 kR19 hA (by omega)) (zDA.obj kR24) (by decide) (by decide) (by decide) rfl rfl (Nat.le_of_ble_eq_true rfl) (by decide) rfl (fun s_kr28 h_kr28 => ?_)
  obtain ⟨F_kr28, r0_kr28⟩ := h_kr28
  have kh29 : s_kr28.1 x = .inr (7, [.ref ((x + 1)), .ref ((x + 2)), .ref ((x + 24)), .ref ((x + 31)), .ref ((x + 53)), .ref ((x + 75)), .ref ((x + 253)), .ref ((x + 255)), .ref ((x + 260)), .int (nI ll), .int hs, .int kf, .int ld, .int dt, .int dc]) := zFr.get F_kr28 (by (try simp only [zIn]); omega) kh16
  have kh30 : s_kr28.1 (x + 1) = .inr (3, [.ref ((x + 2)), .ref ((x + 24)), .ref ((x + 27)), .ref ((x + 29))]) := zFr.get F_kr28 (by (try simp only [zIn]); omega) kh17
  have kh31 : s_kr28.1 (x + 260) = .inl (1, 400, .inl lf) := zFr.get F_kr28 (by (try simp only [zIn]); omega) kh18
  have kR32 : zDA (x + 2) A s_kr28 := zDA.fr kR19 F_kr28 (by intro q h1 h2 h3; (try simp only [zIn, zJf] at h3); omega)
  have kR33 : zRx (x + 24) s_kr28 := zRx.fr kR20 F_kr28 (by intro q h1 h2 h3; (try simp only [zIn, zJf] at h3); omega)
  have kR34 : zCu (x + 253) s_kr28 := zCu.fr kR21 F_kr28 (by intro q h1 h2 h3; (try simp only [zIn, zJf] at h3); omega)
  have kR35 : zCu (x + 27) s_kr28 := zCu.fr kR22 F_kr28 (by intro q h1 h2 h3; (try simp only [zIn, zJf] at h3); omega)
  have kR36 : zCu (x + 29) s_kr28 := zCu.fr kR23 F_kr28 (by intro q h1 h2 h3; (try simp only [zIn, zJf] at h3); omega)
  have kR37 : zDA (x + 53) S s_kr28 := zDA.fr kR25 F_kr28 (by intro q h1 h2 h3; (try simp only [zIn, zJf] at h3); omega)
  have kR38 : zHi (x + 75) m U s_kr28 := zHi.fr kR26 F_kr28 (by intro q h1 h2 h3; (try simp only [zIn, zJf] at h3); omega)
  have kR39 : zSq X (x + 255) 0 at_ L s_kr28 := zSq.fr r0_kr15 F_kr28 (by intro q h1 h2 h3; (try simp only [zIn, zJf] at h3); omega)
  have kF40 := zFr.tr kF27 F_kr28 (by intro q hq; (try simp only [zIn, zJf, zXr] at hq); unfold zXr; omega)
  refine zr_iconst (v := 0) dX9_execute_52 (by decide) ?_
  refine zr_istore_n (ls' := [some (.ref x), some (.int 1), some (.int 0), none, none]) dX9_execute_53 rfl (by decide) rfl ?_
  exact l_ex hX gA hQ (fun q hq => zps_ok 61 0 [] (by omega) (fun _ z => by cases z) q (by rw [hP]; exact hq)) (by have z := (zps_len (f := T) (n := n) hn60 61 0 [] (by omega) (by decide)).2; rw [hP] at z; exact z) hN lL L 0 A _ _ _ rfl (by omega) rfl gA kF40 kh29 kR32 r0_kr28 kR37 kR38 ⟨kh30, kR33, kR34, kR35, kR36⟩ kR39 kh31

set_option maxHeartbeats 400000 in
set_option maxRecDepth 100000 in
theorem qX9_executeF {X : zX} (hX : X.1.stackTraces = false) {σ : zS} {x : Nat} {A S : zDk} {m : Nat} {U : Nat → zDk} {n : Nat} {T : Nat → Int32} {ll : Nat} {ln : Nat → Int32} {hs kf ld dt dc : Int32} {at_ : Nat} {L : zTL} (hC : zKt x A S m U n T ll ln hs kf ld dt dc σ) (gA : zGd A) (hQ : ∀ i j : Nat, i < 7 → j < 7 → zQ X i = zQ X j → i = j) (hP : zps T n 61 0 [] = (false, at_, L)) (hN : σ.2 = none) : zMet X mX9_execute yX9_execute 8 1 6 [.ref x] σ (fun o s => o = .inr "java/lang/IllegalArgumentException" ∧ zFr σ s (zXr x) ∧ zKt x A S m U 0 T ll ln hs (nI at_) ld dt dc s) := by
  refine zMet_of (ls := [some (.ref x), none, none, none, none]) rfl (by decide +kernel) rfl (fun h => by cases h) hX (Nat.le_of_ble_eq_true rfl) rfl ?_
  have hA := gA.1
  obtain ⟨K, lf, xo, xA, xK, wK, xS, xH, xJ, xT, xL, lL⟩ := id hC
  obtain ⟨hj, jr, jk, jc, jo⟩ := id xJ
  obtain ⟨hC8, hP8, hW⟩ := id hA
  have hn60 : n ≤ 60 := by obtain ⟨tf, tn, tl, tc, vc, va, z, -⟩ := id xT; exact z
  have eq0 : (if (zps T n 61 0 []).1 = true then (1 : Int32) else 0) = 0 := by rw [hP]; rfl
  refine zr_aload_n dX9_execute_0 rfl ?_
  refine zr_getfield dX9_execute_1 fX9_52 xo rfl (by decide) ?_
  refine zr_callVi [] dX9_execute_4 vX9_295 (qE_parse hX xT hQ) (zSk.obj xT).choose_spec (by decide) (by decide) (by decide) rfl rfl (Nat.le_of_ble_eq_true rfl) (by decide) rfl (fun kr1 s_kr1 h_kr1 => ?_)
  obtain ⟨e_kr1, F_kr1, r0_kr1⟩ := h_kr1
  have kh2 : s_kr1.1 x = .inr (7, [.ref ((x + 1)), .ref ((x + 2)), .ref ((x + 24)), .ref ((x + 31)), .ref ((x + 53)), .ref ((x + 75)), .ref ((x + 253)), .ref ((x + 255)), .ref ((x + 260)), .int (nI ll), .int hs, .int kf, .int ld, .int dt, .int dc]) := zFr.get F_kr1 (by omega) xo
  have kh3 : s_kr1.1 (x + 1) = .inr (3, [.ref ((x + 2)), .ref ((x + 24)), .ref ((x + 27)), .ref ((x + 29))]) := zFr.get F_kr1 (by omega) hj
  have kh4 : s_kr1.1 (x + 260) = .inl (1, 400, .inl lf) := zFr.get F_kr1 (by omega) xL
  have kR5 : zDA (x + 2) A s_kr1 := zDA.fr xA F_kr1 (by intro q h1 h2 h3; (try simp only [zIn, zJf] at h3); omega)
  have kR6 : zRx (x + 24) s_kr1 := zRx.fr jr F_kr1 (by intro q h1 h2 h3; (try simp only [zIn, zJf] at h3); omega)
  have kR7 : zCu (x + 253) s_kr1 := zCu.fr jk F_kr1 (by intro q h1 h2 h3; (try simp only [zIn, zJf] at h3); omega)
  have kR8 : zCu (x + 27) s_kr1 := zCu.fr jc F_kr1 (by intro q h1 h2 h3; (try simp only [zIn, zJf] at h3); omega)
  have kR9 : zCu (x + 29) s_kr1 := zCu.fr jo F_kr1 (by intro q h1 h2 h3; (try simp only [zIn, zJf] at h3); omega)
  have kR10 : zDA (x + 31) K s_kr1 := zDA.fr xK F_kr1 (by intro q h1 h2 h3; (try simp only [zIn, zJf] at h3); omega)
  have kR11 : zDA (x + 53) S s_kr1 := zDA.fr xS F_kr1 (by intro q h1 h2 h3; (try simp only [zIn, zJf] at h3); omega)
  have kR12 : zHi (x + 75) m U s_kr1 := zHi.fr xH F_kr1 (by intro q h1 h2 h3; (try simp only [zIn, zJf] at h3); omega)
  have kF13 := zFr.tr zFr.rf (P := zXr x) F_kr1 (by intro q hq; (try simp only [zIn, zJf, zXr] at hq); unfold zXr; omega)
  replace e_kr1 := e_kr1.trans (eq0 : (_ : Int32) = 0)
  obtain rfl := e_kr1.symm
  refine zr_istore_n (ls' := [some (.ref x), some (.int 0), none, none, none]) dX9_execute_7 rfl (by decide) rfl ?_
  refine zr_aload_n dX9_execute_8 rfl ?_
  have xq14 : zSq X (x + 255) n at_ L s_kr1 := by have z := r0_kr1; rw [hP] at z; exact z
  refine zr_getfield dX9_execute_9 fX9_52 kh2 rfl (by decide) ?_
  refine zr_callVv [] dX9_execute_12 vX9_298 (qE_empty hX xq14) (zSq.obj xq14) (by decide) (by decide) (by decide) rfl rfl (Nat.le_of_ble_eq_true rfl) (by decide) rfl (fun s_kr15 h_kr15 => ?_)
  obtain ⟨F_kr15, r0_kr15⟩ := h_kr15
  have kh16 : s_kr15.1 x = .inr (7, [.ref ((x + 1)), .ref ((x + 2)), .ref ((x + 24)), .ref ((x + 31)), .ref ((x + 53)), .ref ((x + 75)), .ref ((x + 253)), .ref ((x + 255)), .ref ((x + 260)), .int (nI ll), .int hs, .int kf, .int ld, .int dt, .int dc]) := zFr.get F_kr15 (by omega) kh2
  have kh17 : s_kr15.1 (x + 1) = .inr (3, [.ref ((x + 2)), .ref ((x + 24)), .ref ((x + 27)), .ref ((x + 29))]) := zFr.get F_kr15 (by omega) kh3
  have kh18 : s_kr15.1 (x + 260) = .inl (1, 400, .inl lf) := zFr.get F_kr15 (by omega) kh4
  have kR19 : zDA (x + 2) A s_kr15 := zDA.fr kR5 F_kr15 (by intro q h1 h2 h3; (try simp only [zIn, zJf] at h3); omega)
  have kR20 : zRx (x + 24) s_kr15 := zRx.fr kR6 F_kr15 (by intro q h1 h2 h3; (try simp only [zIn, zJf] at h3); omega)
  have kR21 : zCu (x + 253) s_kr15 := zCu.fr kR7 F_kr15 (by intro q h1 h2 h3; (try simp only [zIn, zJf] at h3); omega)
  have kR22 : zCu (x + 27) s_kr15 := zCu.fr kR8 F_kr15 (by intro q h1 h2 h3; (try simp only [zIn, zJf] at h3); omega)
  have kR23 : zCu (x + 29) s_kr15 := zCu.fr kR9 F_kr15 (by intro q h1 h2 h3; (try simp only [zIn, zJf] at h3); omega)
  have kR24 : zDA (x + 31) K s_kr15 := zDA.fr kR10 F_kr15 (by intro q h1 h2 h3; (try simp only [zIn, zJf] at h3); omega)
  have kR25 : zDA (x + 53) S s_kr15 := zDA.fr kR11 F_kr15 (by intro q h1 h2 h3; (try simp only [zIn, zJf] at h3); omega)
  have kR26 : zHi (x + 75) m U s_kr15 := zHi.fr kR12 F_kr15 (by intro q h1 h2 h3; (try simp only [zIn, zJf] at h3); omega)
  have kF27 := zFr.tr kF13 F_kr15 (by intro q hq; (try simp only [zIn, zJf, zXr] at hq); unfold zXr; omega)
  refine zr_iload_n dX9_execute_15 rfl ?_
  refine zr_if_ne (tgt := 41) dX9_execute_16 (by decide) (fun c_16 => absurd (rfl) c_16) (fun c_16 => ?_)
  refine zr_aload_n dX9_execute_19 rfl ?_
  refine zr_aload_n dX9_execute_20 rfl ?_
  obtain ⟨uo28, ⟨uf28, ug28⟩, uc28, un28, ul28, up28, uq28, ur28, uH28⟩ := id r0_kr15
  refine zr_getfield dX9_execute_21 fX9_52 kh16 rfl (by decide) ?_
  refine zr_getfield dX9_execute_24 fX9_301 uo28 rfl (by decide) ?_
  refine zr_putfield (fs' := [.ref ((x + 1)), .ref ((x + 2)), .ref ((x + 24)), .ref ((x + 31)), .ref ((x + 53)), .ref ((x + 75)), .ref ((x + 253)), .ref ((x + 255)), .ref ((x + 260)), .int (nI ll), .int hs, .int (nI at_), .int ld, .int dt, .int dc]) dX9_execute_27 pX9_68 kh16 (by decide) (rfl) (rfl) (Nat.le_of_ble_eq_true rfl) rfl ?_
  refine zr_sig (fun ks29 e_ks29 => ?_)
  have kh30 : ks29.1 x = .inr (7, [.ref ((x + 1)), .ref ((x + 2)), .ref ((x + 24)), .ref ((x + 31)), .ref ((x + 53)), .ref ((x + 75)), .ref ((x + 253)), .ref ((x + 255)), .ref ((x + 260)), .int (nI ll), .int hs, .int (nI at_), .int ld, .int dt, .int dc]) := by rw [e_ks29]; exact zup_at _ _ _
  have kh31 : ks29.1 (x + 1) = .inr (3, [.ref ((x + 2)), .ref ((x + 24)), .ref ((x + 27)), .ref ((x + 29))]) := by rw [e_ks29, zup_ne _ _ (by omega)]; exact kh17
  have kh32 : ks29.1 (x + 260) = .inl (1, 400, .inl lf) := by rw [e_ks29, zup_ne _ _ (by omega)]; exact kh18
  have kh33 : ks29.1 (x + 255) = .inr (5, [.ref ((x + 255 + 1)), .int (nI 0), .ref ((x + 255 + 2)), .ref ((x + 255 + 3)), .ref ((x + 255 + 4)), .int (nI (L.length)), .int (nI at_)]) := by rw [e_ks29, zup_ne _ _ (by omega)]; exact uo28
  have kh34 : ks29.1 (x + 255 + 2) = .inl (7, 12, .inr (.inr (.inr (.inr uc28)))) := by rw [e_ks29, zup_ne _ _ (by omega)]; exact up28
  have kh35 : ks29.1 (x + 255 + 3) = .inl (0, 12, .inl un28) := by rw [e_ks29, zup_ne _ _ (by omega)]; exact uq28
  have kh36 : ks29.1 (x + 255 + 4) = .inl (0, 12, .inl ul28) := by rw [e_ks29, zup_ne _ _ (by omega)]; exact ur28
  have kF37 := zFr.put kF27 e_ks29 (by unfold zXr; omega)
  have kR38 : zDA (x + 2) A ks29 := zDA.fr kR19 (zFr.put (P := fun q => q = x) zFr.rf e_ks29 rfl) (by intro q h1 h2 h3; (try simp only [zIn, zJf] at h3); omega)
  have kR39 : zRx (x + 24) ks29 := zRx.fr kR20 (zFr.put (P := fun q => q = x) zFr.rf e_ks29 rfl) (by intro q h1 h2 h3; (try simp only [zIn, zJf] at h3); omega)
  have kR40 : zCu (x + 253) ks29 := zCu.fr kR21 (zFr.put (P := fun q => q = x) zFr.rf e_ks29 rfl) (by intro q h1 h2 h3; (try simp only [zIn, zJf] at h3); omega)
  have kR41 : zCu (x + 27) ks29 := zCu.fr kR22 (zFr.put (P := fun q => q = x) zFr.rf e_ks29 rfl) (by intro q h1 h2 h3; (try simp only [zIn, zJf] at h3); omega)
  have kR42 : zCu (x + 29) ks29 := zCu.fr kR23 (zFr.put (P := fun q => q = x) zFr.rf e_ks29 rfl) (by intro q h1 h2 h3; (try simp only [zIn, zJf] at h3); omega)
  have kR43 : zDA (x + 31) K ks29 := zDA.fr kR24 (zFr.put (P := fun q => q = x) zFr.rf e_ks29 rfl) (by intro q h1 h2 h3; (try simp only [zIn, zJf] at h3); omega)
  have kR44 : zDA (x + 53) S ks29 := zDA.fr kR25 (zFr.put (P := fun q => q = x) zFr.rf e_ks29 rfl) (by intro q h1 h2 h3; (try simp only [zIn, zJf] at h3); omega)
  have kR45 : zHi (x + 75) m U ks29 := zHi.fr kR26 (zFr.put (P := fun q => q = x) zFr.rf e_ks29 rfl) (by intro q h1 h2 h3; (try simp only [zIn, zJf] at h3); omega)
  have kR46 : zSq X (x + 255) 0 at_ L ks29 := zSq.fr r0_kr15 (zFr.put (P := fun q => q = x) zFr.rf e_ks29 rfl) (by intro q h1 h2 h3; (try simp only [zIn, zJf] at h3); omega)
  exact zr_thrW dX9_execute_30 dX9_execute_33 dX9_execute_34 dX9_execute_37 dX9_execute_40 thX9_102_304 rfl (by decide) (by decide) (by decide) (by decide) (⟨rfl, by rw [zNN (kF37.1.trans hN)]; exact kF37, by rw [zNN (kF37.1.trans hN)]; exact ⟨_, _, kh30, kR38, kR43, wK, kR44, kR45, ⟨kh31, kR39, kR40, kR41, kR42⟩, (zSq.sk T kR46), kh32, lL⟩⟩)

