/-! the law's loop -/
theorem zand63 (w : Int32) : ∃ j, j < 64 ∧ w &&& 63 = nI j := by
  refine ⟨(w &&& 63).toBitVec.toNat, ?_, ?_⟩
  · show (w.toBitVec &&& 63#32).toNat < 64
    rw [BitVec.toNat_and]
    exact Nat.lt_of_le_of_lt Nat.and_le_right (by decide)
  · apply Int32.toBitVec_inj.mp
    show (w &&& 63).toBitVec = BitVec.ofNat 32 (w &&& 63).toBitVec.toNat
    rw [BitVec.ofNat_toNat, BitVec.setWidth_eq]
theorem zlt4 : ∀ n, n < 4 → ∀ i, i < 4 → Int32.ofNat n - 4 < nI i := by decide +kernel
def zQl : zO → zS → Prop := fun o _ => o = .inl (some (.int 1))
set_option maxHeartbeats 4000000 in
set_option maxRecDepth 100000 in
theorem law_loop {X : zX} (hX : X.1.stackTraces = false) {x : Nat} (hQ : ∀ i j : Nat, i < 7 → j < 7 → zQ X i = zQ X j → i = j) (hs : zsL X ≤ 2048) : ∀ (k i : Nat) (σ : zS) (f : Nat → Int64) (f2 : Nat → UInt64) (l6 l7 l8 : Option Value), zsL X < i + 4 * k + 4 → i ≤ zsL X → (∃ cd, zIv x (x + 261) cd σ) → σ.2 = none → σ.1 (x + 273) = .inl (3, 1, .inr (.inl f)) → σ.1 (x + 274) = .inl (4, 1, .inr (.inr (.inr (.inl f2)))) → zW X mL_law 12 k (6 * k) zQl 28 [some (.ref (zQ X 37)), some (.ref x), some (.ref (x + 261)), some (.ref (x + 273)), some (.ref (x + 274)), some (.int (nI i)), l6, l7, l8] [] σ := by
  intro k
  induction k with
  | zero =>
    intro i σ f f2 l6 l7 l8 h1 h2 hI hN ho ho2
    refine zr_iload dL_law_28 rfl ?_
    refine zr_aload_n dL_law_30 rfl ?_
    refine zr_slen dL_law_31 ?_
    refine zr_iconst (v := 4) dL_law_32 (by decide) ?_
    refine zr_isub dL_law_33 ?_
    have hg : Int32.ofNat X.2.2.2.2.2.1 - 4 < nI i := by
      by_cases q : zsL X < 4
      · exact zlt4 _ q _ (by omega)
      · rw [show Int32.ofNat X.2.2.2.2.2.1 - 4 = nI (zsL X - 4) from pk_sub (a := zsL X) (b := 4) (by omega)]
        exact (nI_ltI (by omega) (by omega)).mpr (by omega)
    refine zr_icmp_gt (tgt := 2867) dL_law_34 (by decide) (fun _ => ?_) (fun c => absurd hg c)
    refine zr_iconst (v := 1) dL_law_2867 (by decide) ?_
    exact zr_ireturn dL_law_2868 rfl rfl rfl
  | succ k ih =>
    intro i σ f f2 l6 l7 l8 h1 h2 hI hN ho ho2
    refine zr_iload dL_law_28 rfl ?_
    refine zr_aload_n dL_law_30 rfl ?_
    refine zr_slen dL_law_31 ?_
    refine zr_iconst (v := 4) dL_law_32 (by decide) ?_
    refine zr_isub dL_law_33 ?_
    by_cases hi4 : zsL X < i + 4
    · have hg : Int32.ofNat X.2.2.2.2.2.1 - 4 < nI i := by
        by_cases q : zsL X < 4
        · exact zlt4 _ q _ (by omega)
        · rw [show Int32.ofNat X.2.2.2.2.2.1 - 4 = nI (zsL X - 4) from pk_sub (a := zsL X) (b := 4) (by omega)]
          exact (nI_ltI (by omega) (by omega)).mpr (by omega)
      refine zr_icmp_gt (tgt := 2867) dL_law_34 (by decide) (fun _ => ?_) (fun c => absurd hg c)
      refine zr_iconst (v := 1) dL_law_2867 (by decide) ?_
      exact zr_ireturn dL_law_2868 rfl rfl rfl
    have hg : ¬ Int32.ofNat X.2.2.2.2.2.1 - 4 < nI i := by
      rw [show Int32.ofNat X.2.2.2.2.2.1 - 4 = nI (zsL X - 4) from pk_sub (a := zsL X) (b := 4) (by omega)]
      exact fun q => absurd ((nI_ltI (by omega) (by omega)).mp q) (by omega)
    refine zr_icmp_gt (tgt := 2867) dL_law_34 (by decide) (fun c => absurd c hg) (fun _ => ?_)
    have nx : ∀ (s : zS) (cd : Int32) (m6 m7 m8 : Option Value), zIv x (x + 261) cd s → s.2 = σ.2 → (∀ {g : Nat → Int64}, True → s.1 (x + 273) = .inl (3, 1, .inr (.inl g)) → ∀ {g2 : Nat → UInt64}, s.1 (x + 274) = .inl (4, 1, .inr (.inr (.inr (.inl g2)))) → zW X mL_law 12 k (6 * k) zQl 2861 [some (.ref (zQ X 37)), some (.ref x), some (.ref (x + 261)), some (.ref (x + 273)), some (.ref (x + 274)), some (.int (nI i)), m6, m7, m8] [] s) := by
      intro s cd m6 m7 m8 hI2 hN2 g _ k1 g2 k2
      refine zr_iinc (v := nI (i + 4)) (ls' := [some (.ref (zQ X 37)), some (.ref x), some (.ref (x + 261)), some (.ref (x + 273)), some (.ref (x + 274)), some (.int (nI (i + 4))), m6, m7, m8]) dL_law_2861 rfl (nI_add i 4) (by decide) rfl ?_
      refine zr_goto (tgt := 28) dL_law_2864 (by decide) ?_
      exact ih (i + 4) s g g2 _ _ _ (by omega) (by omega) ⟨cd, hI2⟩ (hN2.trans hN) k1 k2
    refine zr_aload_n dL_law_37 rfl ?_
    refine zr_iload dL_law_38 rfl ?_
    have hs2 : zsL X = X.2.2.2.2.2.1 := rfl
    refine zr_sat dL_law_40 (vp_in_nI (n := i) (by omega) (by omega)) ?_
    rw [nI_clamp (n := i) (by omega)]
    refine zr_bipush (v := 63) dL_law_41 (by decide) ?_
    refine zr_iand dL_law_43 ?_
    obtain ⟨j, hj, ej⟩ := zand63 (X.2.2.2.2.2.2 i)
    refine zr_eqi (x' := nI j) ej ?_
    have hjj : j = 0 ∨ j = 1 ∨ j = 2 ∨ j = 3 ∨ j = 4 ∨ j = 5 ∨ j = 6 ∨ j = 7 ∨ j = 8 ∨ j = 9 ∨ j = 10 ∨ j = 11 ∨ j = 12 ∨ j = 13 ∨ j = 14 ∨ j = 15 ∨ j = 16 ∨ j = 17 ∨ j = 18 ∨ j = 19 ∨ j = 20 ∨ j = 21 ∨ j = 22 ∨ j = 23 ∨ j = 24 ∨ j = 25 ∨ j = 26 ∨ j = 27 ∨ j = 28 ∨ j = 29 ∨ j = 30 ∨ j = 31 ∨ j = 32 ∨ j = 33 ∨ j = 34 ∨ j = 35 ∨ j = 36 ∨ j = 37 ∨ j = 38 ∨ j = 39 ∨ j = 40 ∨ j = 41 ∨ j = 42 ∨ j = 43 ∨ j = 44 ∨ j = 45 ∨ j = 46 ∨ j = 47 ∨ j = 48 ∨ j = 49 ∨ j = 50 ∨ j = 51 ∨ j = 52 ∨ j = 53 ∨ j = 54 ∨ j = 55 ∨ j = 56 ∨ j = 57 ∨ j = 58 ∨ j = 59 ∨ j = 60 ∨ j = 61 ∨ j = 62 ∨ j = 63 := by omega
    rcases hjj with rfl | rfl | rfl | rfl | rfl | rfl | rfl | rfl | rfl | rfl | rfl | rfl | rfl | rfl | rfl | rfl | rfl | rfl | rfl | rfl | rfl | rfl | rfl | rfl | rfl | rfl | rfl | rfl | rfl | rfl | rfl | rfl | rfl | rfl | rfl | rfl | rfl | rfl | rfl | rfl | rfl | rfl | rfl | rfl | rfl | rfl | rfl | rfl | rfl | rfl | rfl | rfl | rfl | rfl | rfl | rfl | rfl | rfl | rfl | rfl | rfl | rfl | rfl | rfl
    · refine zr_tableIn (off := 216) (tgt := 260) dL_law_44 (by decide) (by decide) (by decide) (by decide) ?_
      exact blk_openCase hX hQ (by omega) (by omega) (Or.inr hI) hN ho (fun s cd f3 m6 m7 h1 F h2 => nx s cd m6 m7 l8 h1 F.1 trivial h2 (F.get (by omega) ho2))
    · refine zr_tableIn (off := 260) (tgt := 304) dL_law_44 (by decide) (by decide) (by decide) (by decide) ?_
      exact blk_cross hX hQ (by omega) (by omega) (Or.inr hI) hN ho (fun s cd f3 m6 m7 h1 F h2 => nx s cd m6 m7 l8 h1 F.1 trivial h2 (F.get (by omega) ho2))
    · refine zr_tableIn (off := 330) (tgt := 374) dL_law_44 (by decide) (by decide) (by decide) (by decide) ?_
      exact blk_cutLast hX hQ (by omega) (by omega) (Or.inr hI) hN ho (fun s cd f3 m6 m7 h1 F h2 => nx s cd m6 m7 l8 h1 F.1 trivial h2 (F.get (by omega) ho2))
    · refine zr_tableIn (off := 386) (tgt := 430) dL_law_44 (by decide) (by decide) (by decide) (by decide) ?_
      exact blk_cancel hX hQ (by omega) (by omega) (Or.inr hI) hN ho (fun s cd f3 m6 m7 h1 F h2 => nx s cd m6 m7 l8 h1 F.1 trivial h2 (F.get (by omega) ho2))
    · refine zr_tableIn (off := 442) (tgt := 486) dL_law_44 (by decide) (by decide) (by decide) (by decide) ?_
      exact blk_relax hX hQ (by omega) (by omega) (Or.inr hI) hN ho (fun s cd f3 m6 m7 h1 F h2 => nx s cd m6 m7 l8 h1 F.1 trivial h2 (F.get (by omega) ho2))
    · refine zr_tableIn (off := 498) (tgt := 542) dL_law_44 (by decide) (by decide) (by decide) (by decide) ?_
      exact blk_caseCount hX hQ (by omega) (by omega) (Or.inr hI) hN ho (fun s cd f3 m6 m7 h1 F h2 => nx s cd m6 m7 l8 h1 F.1 trivial h2 (F.get (by omega) ho2))
    · refine zr_tableIn (off := 511) (tgt := 555) dL_law_44 (by decide) (by decide) (by decide) (by decide) ?_
      exact blk_wordLength hX hQ (by omega) (by omega) (Or.inr hI) hN ho (fun s cd f3 m6 m7 h1 F h2 => nx s cd m6 m7 l8 h1 F.1 trivial h2 (F.get (by omega) ho2))
    · refine zr_tableIn (off := 567) (tgt := 611) dL_law_44 (by decide) (by decide) (by decide) (by decide) ?_
      exact blk_letterAt hX hQ (by omega) (by omega) (Or.inr hI) hN ho (fun s cd f3 m6 m7 h1 F h2 => nx s cd m6 m7 l8 h1 F.1 trivial h2 (F.get (by omega) ho2))
    · refine zr_tableIn (off := 635) (tgt := 679) dL_law_44 (by decide) (by decide) (by decide) (by decide) ?_
      exact blk_hasHandle hX hQ (by omega) (by omega) (Or.inr hI) hN ho (fun s cd f3 m6 m7 h1 F h2 => nx s cd m6 m7 l8 h1 F.1 trivial h2 (F.get (by omega) ho2))
    · refine zr_tableIn (off := 698) (tgt := 742) dL_law_44 (by decide) (by decide) (by decide) (by decide) ?_
      exact blk_handleBegin hX hQ (by omega) (by omega) (Or.inr hI) hN ho (fun s cd f3 m6 m7 h1 F h2 => nx s cd m6 m7 l8 h1 F.1 trivial h2 (F.get (by omega) ho2))
    · refine zr_tableIn (off := 754) (tgt := 798) dL_law_44 (by decide) (by decide) (by decide) (by decide) ?_
      exact blk_handleEnd hX hQ (by omega) (by omega) (Or.inr hI) hN ho (fun s cd f3 m6 m7 h1 F h2 => nx s cd m6 m7 l8 h1 F.1 trivial h2 (F.get (by omega) ho2))
    · refine zr_tableIn (off := 810) (tgt := 854) dL_law_44 (by decide) (by decide) (by decide) (by decide) ?_
      exact blk_relaxedLength hX hQ (by omega) (by omega) (Or.inr hI) hN ho (fun s cd f3 m6 m7 h1 F h2 => nx s cd m6 m7 l8 h1 F.1 trivial h2 (F.get (by omega) ho2))
    · refine zr_tableIn (off := 866) (tgt := 910) dL_law_44 (by decide) (by decide) (by decide) (by decide) ?_
      exact blk_writhe hX hQ (by omega) (by omega) (Or.inr hI) hN ho (fun s cd f3 m6 m7 h1 F h2 => nx s cd m6 m7 l8 h1 F.1 trivial h2 (F.get (by omega) ho2))
    · refine zr_tableIn (off := 922) (tgt := 966) dL_law_44 (by decide) (by decide) (by decide) (by decide) ?_
      exact blk_strandEnd hX hQ (by omega) (by omega) (Or.inr hI) hN ho (fun s cd f3 m6 m7 h1 F h2 => nx s cd m6 m7 l8 h1 F.1 trivial h2 (F.get (by omega) ho2))
    · refine zr_tableIn (off := 990) (tgt := 1034) dL_law_44 (by decide) (by decide) (by decide) (by decide) ?_
      exact blk_closedThreads hX hQ (by omega) (by omega) (Or.inr hI) hN ho (fun s cd f3 m6 m7 h1 F h2 => nx s cd m6 m7 l8 h1 F.1 trivial h2 (F.get (by omega) ho2))
    · refine zr_tableIn (off := 1046) (tgt := 1090) dL_law_44 (by decide) (by decide) (by decide) (by decide) ?_
      exact blk_crossings hX hQ (by omega) (by omega) (Or.inr hI) hN ho (fun s cd f3 m6 m7 h1 F h2 => nx s cd m6 m7 l8 h1 F.1 trivial h2 (F.get (by omega) ho2))
    · refine zr_tableIn (off := 1126) (tgt := 1170) dL_law_44 (by decide) (by decide) (by decide) (by decide) ?_
      exact blk_coordinate hX hQ (by omega) (by omega) (Or.inr hI) hN ho (fun s cd f3 m6 m7 m8 h1 F h2 => nx s cd m6 m7 m8 h1 F.1 trivial h2 (F.get (by omega) ho2))
    · refine zr_tableIn (off := 1193) (tgt := 1237) dL_law_44 (by decide) (by decide) (by decide) (by decide) ?_
      exact blk_isTrivial hX hQ (by omega) (by omega) (Or.inr hI) hN ho (fun s cd f3 m6 m7 h1 F h2 => nx s cd m6 m7 l8 h1 F.1 trivial h2 (F.get (by omega) ho2))
    · refine zr_tableIn (off := 1256) (tgt := 1300) dL_law_44 (by decide) (by decide) (by decide) (by decide) ?_
      exact blk_areEqual hX hQ (by omega) (by omega) (Or.inr hI) hN ho (fun s cd f3 m6 m7 h1 F h2 => nx s cd m6 m7 l8 h1 F.1 trivial h2 (F.get (by omega) ho2))
    · refine zr_tableIn (off := 1331) (tgt := 1375) dL_law_44 (by decide) (by decide) (by decide) (by decide) ?_
      exact blk_areEqualByCoordinates hX hQ (by omega) (by omega) (Or.inr hI) hN ho (fun s cd f3 m6 m7 h1 F h2 => nx s cd m6 m7 l8 h1 F.1 trivial h2 (F.get (by omega) ho2))
    · refine zr_tableIn (off := 1406) (tgt := 1450) dL_law_44 (by decide) (by decide) (by decide) (by decide) ?_
      exact blk_compare hX hQ (by omega) (by omega) (Or.inr hI) hN ho (fun s cd f3 m6 m7 h1 F h2 => nx s cd m6 m7 l8 h1 F.1 trivial h2 (F.get (by omega) ho2))
    · refine zr_tableIn (off := 1474) (tgt := 1518) dL_law_44 (by decide) (by decide) (by decide) (by decide) ?_
      exact blk_compareByCoordinates hX hQ (by omega) (by omega) (Or.inr hI) hN ho (fun s cd f3 m6 m7 h1 F h2 => nx s cd m6 m7 l8 h1 F.1 trivial h2 (F.get (by omega) ho2))
    · refine zr_tableIn (off := 1542) (tgt := 1586) dL_law_44 (by decide) (by decide) (by decide) (by decide) ?_
      exact blk_caseByBraid hX hQ (by omega) (by omega) (Or.inr hI) hN ho (fun s cd f3 m6 m7 h1 F h2 => nx s cd m6 m7 l8 h1 F.1 trivial h2 (F.get (by omega) ho2))
    · refine zr_tableIn (off := 1598) (tgt := 1642) dL_law_44 (by decide) (by decide) (by decide) (by decide) ?_
      exact blk_decide hX hQ (by omega) (by omega) (Or.inr hI) hN ho (fun s cd f3 m6 m7 h1 F h2 => nx s cd m6 m7 l8 h1 F.1 trivial h2 (F.get (by omega) ho2))
    · refine zr_tableIn (off := 1661) (tgt := 1705) dL_law_44 (by decide) (by decide) (by decide) (by decide) ?_
      exact blk_appeal hX hQ (by omega) (by omega) (Or.inr hI) hN ho (fun s cd f3 m6 m7 h1 F h2 => nx s cd m6 m7 l8 h1 F.1 trivial h2 (F.get (by omega) ho2))
    · refine zr_tableIn (off := 1717) (tgt := 1761) dL_law_44 (by decide) (by decide) (by decide) (by decide) ?_
      exact blk_isDecided hX hQ (by omega) (by omega) (Or.inr hI) hN ho (fun s cd f3 m6 m7 h1 F h2 => nx s cd m6 m7 l8 h1 F.1 trivial h2 (F.get (by omega) ho2))
    · refine zr_tableIn (off := 1780) (tgt := 1824) dL_law_44 (by decide) (by decide) (by decide) (by decide) ?_
      exact blk_isTangled hX hQ (by omega) (by omega) (Or.inr hI) hN ho (fun s cd f3 m6 m7 h1 F h2 => nx s cd m6 m7 l8 h1 F.1 trivial h2 (F.get (by omega) ho2))
    · refine zr_tableIn (off := 1843) (tgt := 1887) dL_law_44 (by decide) (by decide) (by decide) (by decide) ?_
      exact blk_precedentOf hX hQ (by omega) (by omega) (Or.inr hI) hN ho (fun s cd f3 m6 m7 h1 F h2 => nx s cd m6 m7 l8 h1 F.1 trivial h2 (F.get (by omega) ho2))
    · refine zr_tableIn (off := 1899) (tgt := 1943) dL_law_44 (by decide) (by decide) (by decide) (by decide) ?_
      exact blk_findPrecedent hX hQ (by omega) (by omega) (Or.inr hI) hN ho (fun s cd f3 m6 m7 h1 F h2 => nx s cd m6 m7 l8 h1 F.1 trivial h2 (F.get (by omega) ho2))
    · refine zr_tableIn (off := 1955) (tgt := 1999) dL_law_44 (by decide) (by decide) (by decide) (by decide) ?_
      exact blk_precedentCount hX hQ (by omega) (by omega) (Or.inr hI) hN ho (fun s cd f3 m6 m7 h1 F h2 => nx s cd m6 m7 l8 h1 F.1 trivial h2 (F.get (by omega) ho2))
    · refine zr_tableIn (off := 1968) (tgt := 2012) dL_law_44 (by decide) (by decide) (by decide) (by decide) ?_
      exact blk_isAppealed hX hQ (by omega) (by omega) (Or.inr hI) hN ho (fun s cd f3 m6 m7 h1 F h2 => nx s cd m6 m7 l8 h1 F.1 trivial h2 (F.get (by omega) ho2))
    · refine zr_tableIn (off := 2031) (tgt := 2075) dL_law_44 (by decide) (by decide) (by decide) (by decide) ?_
      exact blk_casesOn hX hQ (by omega) (by omega) (Or.inr hI) hN ho (fun s cd f3 m6 m7 h1 F h2 => nx s cd m6 m7 l8 h1 F.1 trivial h2 (F.get (by omega) ho2))
    · refine zr_tableIn (off := 2087) (tgt := 2131) dL_law_44 (by decide) (by decide) (by decide) (by decide) ?_
      exact blk_decidedCount hX hQ (by omega) (by omega) (Or.inr hI) hN ho (fun s cd f3 m6 m7 h1 F h2 => nx s cd m6 m7 l8 h1 F.1 trivial h2 (F.get (by omega) ho2))
    · refine zr_tableIn (off := 2100) (tgt := 2144) dL_law_44 (by decide) (by decide) (by decide) (by decide) ?_
      exact blk_tangledCount hX hQ (by omega) (by omega) (Or.inr hI) hN ho (fun s cd f3 m6 m7 h1 F h2 => nx s cd m6 m7 l8 h1 F.1 trivial h2 (F.get (by omega) ho2))
    · refine zr_tableIn (off := 2113) (tgt := 2157) dL_law_44 (by decide) (by decide) (by decide) (by decide) ?_
      exact blk_meanLength hX hQ (by omega) (by omega) (Or.inr hI) hN ho2 (fun s cd f3 m6 m7 m8 h1 F h2 => nx s cd m6 m7 m8 h1 F.1 trivial (F.get (by omega) ho) h2)
    · refine zr_tableIn (off := 2178) (tgt := 2222) dL_law_44 (by decide) (by decide) (by decide) (by decide) ?_
      exact blk_freedShare hX hQ (by omega) (by omega) (Or.inr hI) hN ho2 (fun s cd f3 m6 m7 h1 F h2 => nx s cd m6 m7 l8 h1 F.1 trivial (F.get (by omega) ho) h2)
    · refine zr_tableIn (off := 2244) (tgt := 2288) dL_law_44 (by decide) (by decide) (by decide) (by decide) ?_
      exact blk_isConsistent hX hQ (by omega) (by omega) (Or.inr hI) hN ho (fun s cd f3 m6 m7 h1 F h2 => nx s cd m6 m7 l8 h1 F.1 trivial h2 (F.get (by omega) ho2))
    · refine zr_tableIn (off := 2257) (tgt := 2301) dL_law_44 (by decide) (by decide) (by decide) (by decide) ?_
      exact blk_feed hX hQ (by omega) (by omega) (Or.inr hI) hN ho (fun s cd f3 m6 m7 h1 F h2 => nx s cd m6 m7 l8 h1 F.1 trivial h2 (F.get (by omega) ho2))
    · refine zr_tableIn (off := 2315) (tgt := 2359) dL_law_44 (by decide) (by decide) (by decide) (by decide) ?_
      exact blk_execute hX hQ (by omega) (by omega) (Or.inr hI) hN ho (fun s cd f3 m6 m7 h1 F h2 => nx s cd m6 m7 l8 h1 F.1 trivial h2 (F.get (by omega) ho2))
    · refine zr_tableIn (off := 2359) (tgt := 2403) dL_law_44 (by decide) (by decide) (by decide) (by decide) ?_
      exact blk_faultPosition hX hQ (by omega) (by omega) (Or.inr hI) hN ho (fun s cd f3 m6 m7 h1 F h2 => nx s cd m6 m7 l8 h1 F.1 trivial h2 (F.get (by omega) ho2))
    · refine zr_tableIn (off := 2403) (tgt := 2447) dL_law_44 (by decide) (by decide) (by decide) (by decide) ?_
      exact blk_writeCase hX hQ (by omega) (by omega) (Or.inr hI) hN ho (fun s cd f3 m6 m7 h1 F h2 => nx s cd m6 m7 l8 h1 F.1 trivial h2 (F.get (by omega) ho2))
    · refine zr_tableIn (off := 2459) (tgt := 2503) dL_law_44 (by decide) (by decide) (by decide) (by decide) ?_
      exact blk_writeRelaxed hX hQ (by omega) (by omega) (Or.inr hI) hN ho (fun s cd f3 m6 m7 h1 F h2 => nx s cd m6 m7 l8 h1 F.1 trivial h2 (F.get (by omega) ho2))
    · refine zr_tableIn (off := 2515) (tgt := 2559) dL_law_44 (by decide) (by decide) (by decide) (by decide) ?_
      exact blk_lineCharacter hX hQ (by omega) (by omega) (Or.inr hI) hN ho (fun s cd f3 m6 m7 h1 F h2 => nx s cd m6 m7 l8 h1 F.1 trivial h2 (F.get (by omega) ho2))
    · refine zr_tableIn (off := 2571) (tgt := 2615) dL_law_44 (by decide) (by decide) (by decide) (by decide) ?_
      exact blk_denial hX hQ (by omega) (by omega) (Or.inr hI) hN ho (fun s cd f3 m6 m7 h1 F h2 => nx s cd m6 m7 l8 h1 F.1 trivial h2 (F.get (by omega) ho2))
    · refine zr_tableIn (off := 2615) (tgt := 2659) dL_law_44 (by decide) (by decide) (by decide) (by decide) ?_
      exact blk_denialDetail hX hQ (by omega) (by omega) (Or.inr hI) hN ho (fun s cd f3 m6 m7 h1 F h2 => nx s cd m6 m7 l8 h1 F.1 trivial h2 (F.get (by omega) ho2))
    · refine zr_tableIn (off := 2659) (tgt := 2703) dL_law_44 (by decide) (by decide) (by decide) (by decide) ?_
      exact blk_denialCause hX hQ (by omega) (by omega) (Or.inr hI) hN ho (fun s cd f3 m6 m7 h1 F h2 => nx s cd m6 m7 l8 h1 F.1 trivial h2 (F.get (by omega) ho2))
    · refine zr_tableIn (off := 2703) (tgt := 2747) dL_law_44 (by decide) (by decide) (by decide) (by decide) ?_
      exact blk_undo hX hQ (by omega) (by omega) (Or.inr hI) hN ho (fun s cd f3 m6 m7 h1 F h2 => nx s cd m6 m7 l8 h1 F.1 trivial h2 (F.get (by omega) ho2))
    · refine zr_tableIn (off := 2747) (tgt := 2791) dL_law_44 (by decide) (by decide) (by decide) (by decide) ?_
      exact blk_undoCount hX hQ (by omega) (by omega) (Or.inr hI) hN ho (fun s cd f3 m6 m7 h1 F h2 => nx s cd m6 m7 l8 h1 F.1 trivial h2 (F.get (by omega) ho2))
    · refine zr_tableIn (off := 2760) (tgt := 2804) dL_law_44 (by decide) (by decide) (by decide) (by decide) ?_
      exact blk_saveSnapshot hX hQ (by omega) (by omega) (Or.inr hI) hN ho (fun s cd f3 m6 m7 h1 F h2 => nx s cd m6 m7 l8 h1 F.1 trivial h2 (F.get (by omega) ho2))
    · refine zr_tableIn (off := 2773) (tgt := 2817) dL_law_44 (by decide) (by decide) (by decide) (by decide) ?_
      exact blk_restoreSnapshot hX hQ (by omega) (by omega) (Or.inr hI) hN ho (fun s cd f3 m6 m7 h1 F h2 => nx s cd m6 m7 l8 h1 F.1 trivial h2 (F.get (by omega) ho2))
    · refine zr_tableOut (tgt := 2861) dL_law_44 (by decide) (by decide) ?_
      exact zr_less (by omega) (by omega) (nx σ _ _ _ _ hI.choose_spec rfl trivial ho ho2)
    · refine zr_tableOut (tgt := 2861) dL_law_44 (by decide) (by decide) ?_
      exact zr_less (by omega) (by omega) (nx σ _ _ _ _ hI.choose_spec rfl trivial ho ho2)
    · refine zr_tableOut (tgt := 2861) dL_law_44 (by decide) (by decide) ?_
      exact zr_less (by omega) (by omega) (nx σ _ _ _ _ hI.choose_spec rfl trivial ho ho2)
    · refine zr_tableOut (tgt := 2861) dL_law_44 (by decide) (by decide) ?_
      exact zr_less (by omega) (by omega) (nx σ _ _ _ _ hI.choose_spec rfl trivial ho ho2)
    · refine zr_tableOut (tgt := 2861) dL_law_44 (by decide) (by decide) ?_
      exact zr_less (by omega) (by omega) (nx σ _ _ _ _ hI.choose_spec rfl trivial ho ho2)
    · refine zr_tableOut (tgt := 2861) dL_law_44 (by decide) (by decide) ?_
      exact zr_less (by omega) (by omega) (nx σ _ _ _ _ hI.choose_spec rfl trivial ho ho2)
    · refine zr_tableOut (tgt := 2861) dL_law_44 (by decide) (by decide) ?_
      exact zr_less (by omega) (by omega) (nx σ _ _ _ _ hI.choose_spec rfl trivial ho ho2)
    · refine zr_tableOut (tgt := 2861) dL_law_44 (by decide) (by decide) ?_
      exact zr_less (by omega) (by omega) (nx σ _ _ _ _ hI.choose_spec rfl trivial ho ho2)
    · refine zr_tableOut (tgt := 2861) dL_law_44 (by decide) (by decide) ?_
      exact zr_less (by omega) (by omega) (nx σ _ _ _ _ hI.choose_spec rfl trivial ho ho2)
    · refine zr_tableOut (tgt := 2861) dL_law_44 (by decide) (by decide) ?_
      exact zr_less (by omega) (by omega) (nx σ _ _ _ _ hI.choose_spec rfl trivial ho ho2)
    · refine zr_tableOut (tgt := 2861) dL_law_44 (by decide) (by decide) ?_
      exact zr_less (by omega) (by omega) (nx σ _ _ _ _ hI.choose_spec rfl trivial ho ho2)
    · refine zr_tableOut (tgt := 2861) dL_law_44 (by decide) (by decide) ?_
      exact zr_less (by omega) (by omega) (nx σ _ _ _ _ hI.choose_spec rfl trivial ho ho2)
    · refine zr_tableOut (tgt := 2861) dL_law_44 (by decide) (by decide) ?_
      exact zr_less (by omega) (by omega) (nx σ _ _ _ _ hI.choose_spec rfl trivial ho ho2)
    · refine zr_tableOut (tgt := 2861) dL_law_44 (by decide) (by decide) ?_
      exact zr_less (by omega) (by omega) (nx σ _ _ _ _ hI.choose_spec rfl trivial ho ho2)
