/-! the throw sites, ordinal, the texts -/
theorem thE105 (is : Nat) (t : String) (h : (RX9, is, t) ∈ zST) : zTr RX9 105 109 is "java/lang/IllegalArgumentException" t := ⟨7, ⟨#[0x2a, 0x2b, 0xb7, 0x00, 0x07, 0xb1]⟩, by decide +kernel, by decide +kernel, by decide +kernel, by decide +kernel, by decide +kernel, zin 685 (by decide +kernel) (by decide +kernel), zin 93 (by decide +kernel) (by decide +kernel), h, by decide +kernel, by decide +kernel, by decide +kernel⟩
theorem thE153 (is : Nat) (t : String) (h : (RX9, is, t) ∈ zST) : zTr RX9 153 157 is "java/util/NoSuchElementException" t := ⟨13, ⟨#[0x2a, 0x2b, 0xb7, 0x00, 0x0d, 0xb1]⟩, by decide +kernel, by decide +kernel, by decide +kernel, by decide +kernel, by decide +kernel, zin 762 (by decide +kernel) (by decide +kernel), zin 94 (by decide +kernel) (by decide +kernel), h, by decide +kernel, by decide +kernel, by decide +kernel⟩
theorem thE271 (is : Nat) (t : String) (h : (RX9, is, t) ∈ zST) : zTr RX9 271 275 is "java/lang/ArithmeticException" t := ⟨7, ⟨#[0x2a, 0x2b, 0xb7, 0x00, 0x07, 0xb1]⟩, by decide +kernel, by decide +kernel, by decide +kernel, by decide +kernel, by decide +kernel, zin 1086 (by decide +kernel) (by decide +kernel), zin 97 (by decide +kernel) (by decide +kernel), h, by decide +kernel, by decide +kernel, by decide +kernel⟩
theorem thE288 (is : Nat) (t : String) (h : (RX9, is, t) ∈ zST) : zTr RX9 288 292 is "java/lang/IllegalStateException" t := ⟨7, ⟨#[0x2a, 0x2b, 0xb7, 0x00, 0x07, 0xb1]⟩, by decide +kernel, by decide +kernel, by decide +kernel, by decide +kernel, by decide +kernel, zin 827 (by decide +kernel) (by decide +kernel), zin 95 (by decide +kernel) (by decide +kernel), h, by decide +kernel, by decide +kernel, by decide +kernel⟩
theorem thE329 (is : Nat) (t : String) (h : (RX9, is, t) ∈ zST) : zTr RX9 329 333 is "java/lang/UnsupportedOperationException" t := ⟨7, ⟨#[0x2a, 0x2b, 0xb7, 0x00, 0x07, 0xb1]⟩, by decide +kernel, by decide +kernel, by decide +kernel, by decide +kernel, by decide +kernel, zin 550 (by decide +kernel) (by decide +kernel), zin 89 (by decide +kernel) (by decide +kernel), h, by decide +kernel, by decide +kernel, by decide +kernel⟩
theorem thE358 (is : Nat) (t : String) (h : (RX9, is, t) ∈ zST) : zTr RX9 358 362 is "java/lang/IndexOutOfBoundsException" t := ⟨7, ⟨#[0x2a, 0x2b, 0xb7, 0x00, 0x07, 0xb1]⟩, by decide +kernel, by decide +kernel, by decide +kernel, by decide +kernel, by decide +kernel, zin 669 (by decide +kernel) (by decide +kernel), zin 90 (by decide +kernel) (by decide +kernel), h, by decide +kernel, by decide +kernel, by decide +kernel⟩
theorem thX9_105_107 : zTr RX9 105 109 107 "java/lang/IllegalArgumentException" "there is no such letter" := thE105 _ _ (by decide +kernel)
theorem thX9_153_155 : zTr RX9 153 157 155 "java/util/NoSuchElementException" "there is no such position" := thE153 _ _ (by decide +kernel)
theorem thX9_105_194 : zTr RX9 105 109 194 "java/lang/IllegalArgumentException" "there is no such coordinate" := thE105 _ _ (by decide +kernel)
theorem thX9_153_221 : zTr RX9 153 157 221 "java/util/NoSuchElementException" "there is no such rank" := thE153 _ _ (by decide +kernel)
theorem thX9_153_245 : zTr RX9 153 157 245 "java/util/NoSuchElementException" "the case is undecided" := thE153 _ _ (by decide +kernel)
theorem thX9_153_250 : zTr RX9 153 157 250 "java/util/NoSuchElementException" "there is no such precedent" := thE153 _ _ (by decide +kernel)
theorem thX9_271_273 : zTr RX9 271 275 273 "java/lang/ArithmeticException" "there are no cases" := thE271 _ _ (by decide +kernel)
theorem thX9_271_279 : zTr RX9 271 275 279 "java/lang/ArithmeticException" "no case is decided" := thE271 _ _ (by decide +kernel)
theorem thX9_288_290 : zTr RX9 288 292 290 "java/lang/IllegalStateException" "the text buffer is full" := thE288 _ _ (by decide +kernel)
theorem thX9_105_305 : zTr RX9 105 109 305 "java/lang/IllegalArgumentException" "the text does not match the grammar" := thE105 _ _ (by decide +kernel)
theorem thX9_329_331 : zTr RX9 329 333 331 "java/lang/UnsupportedOperationException" "a command failed" := thE329 _ _ (by decide +kernel)
theorem thX9_153_342 : zTr RX9 153 157 342 "java/util/NoSuchElementException" "no fault position was kept yet" := thE153 _ _ (by decide +kernel)
theorem thX9_358_360 : zTr RX9 358 362 360 "java/lang/IndexOutOfBoundsException" "there is no such index" := thE358 _ _ (by decide +kernel)
theorem thX9_153_366 : zTr RX9 153 157 366 "java/util/NoSuchElementException" "the latest denial has no cause" := thE153 _ _ (by decide +kernel)
theorem thX9_288_369 : zTr RX9 288 292 369 "java/lang/IllegalStateException" "there is no change to undo" := thE288 _ _ (by decide +kernel)
theorem thX9_288_374 : zTr RX9 288 292 374 "java/lang/IllegalStateException" "there is no snapshot" := thE288 _ _ (by decide +kernel)
theorem thX9_358_382 : zTr RX9 358 362 382 "java/lang/IndexOutOfBoundsException" "there is no such case" := thE358 _ _ (by decide +kernel)
theorem thX9_358_250 : zTr RX9 358 362 250 "java/lang/IndexOutOfBoundsException" "there is no such precedent" := thE358 _ _ (by decide +kernel)
theorem thX9_105_155 : zTr RX9 105 109 155 "java/lang/IllegalArgumentException" "there is no such position" := thE105 _ _ (by decide +kernel)
theorem thX9_153_384 : zTr RX9 153 157 384 "java/util/NoSuchElementException" "there is no handle" := thE153 _ _ (by decide +kernel)
theorem thX9_288_399 : zTr RX9 288 292 399 "java/lang/IllegalStateException" "the relaxation fails" := thE288 _ _ (by decide +kernel)
theorem thX9_153_401 : zTr RX9 153 157 401 "java/util/NoSuchElementException" "nothing was denied yet" := thE153 _ _ (by decide +kernel)
theorem thX9_329_407 : zTr RX9 329 333 407 "java/lang/UnsupportedOperationException" "the call is denied" := thE329 _ _ (by decide +kernel)
theorem zr_distinct {X : zX} {M : zMd} {d bc bs : Nat} {Q : zO → zS → Prop} {pc : Nat} {ls : List (Option Value)} {st : List Value} {σ : zS} (kk : (∀ i j : Nat, i < 7 → j < 7 → zQ X i = zQ X j → i = j) → zW X M d bc bs Q pc ls st σ) : zW X M d bc bs Q pc ls st σ := by
  intro p e s m args below meth c R H locs cells slots r hM hR hc hs hS hP hL
  exact kk hM.S.2.2.2.1.2 p e s m args below meth c R H locs cells slots r hM hR hc hs hS hP hL
theorem ord_l : Cond.methodLink RX5 65 ⟨"BraidCourt$Command", "ordinal", "()I"⟩ ∈ zBig := zin 528 (by decide +kernel) (by decide +kernel)
theorem ord_s : Cond.sameMethod "BraidCourt$Command" "java/lang/Enum" "ordinal" "()I" ∈ zBig := zin 529 (by decide +kernel) (by decide +kernel)
theorem ord_e : Cond.selects "BraidCourt$Command" ⟨"BraidCourt$Command", "ordinal", "()I"⟩ yJx29ce0_ordinal_8abf5 ∈ zBig := zin 531 (by decide +kernel) (by decide +kernel)
theorem qJx29ce0_ordinal_8abf5 {X : zX} (hX : X.1.stackTraces = false) (σ : zS) {i : Nat} (hi : i < 7) : zMet X mJx29ce0_ordinal_8abf5 yJx29ce0_ordinal_8abf5 0 0 0 [.ref (zQ X i)] σ (zI (fun y_ s_ => y_ = nI i ∧ s_ = σ)) := by
  refine zMet_of (ls := [some (.ref (zQ X i))]) rfl (by decide +kernel) rfl (fun h => by cases h) hX (Nat.le_of_ble_eq_true rfl) rfl ?_
  refine zr_aload_n dJx29ce0_ordinal_8abf5_0 rfl ?_
  refine zr_ordinal dJx29ce0_ordinal_8abf5_1 hi fJx29ce0_7 ?_
  exact zr_ireturn dJx29ce0_ordinal_8abf5_4 rfl rfl ⟨_, rfl, rfl, rfl⟩
theorem zr_callO {X : zX} {M : zMd} {d bc bs : Nat} {Q : zO → zS → Prop} {pc : Nat} {ls : List (Option Value)} {σ : zS} {i : Nat} (hX : X.1.stackTraces = false) (rest : List Value) (hd : decode M.2.1 pc = .ok (.invokevirtual 65, 3)) (ho : M.1 = RX5) (hi : i < 7) (hd' : 1 ≤ d) (hcat : (rest.map fun v => v.category).sum ≤ 8) (htab : M.2.2.2.2.2 = []) (kk : zW X M d bc bs Q (pc + 3) ls (.int (nI i) :: rest) σ) : zW X M d bc bs Q pc ls (.ref (zQ X i) :: rest) σ := by
  intro p e s m args below meth c R H locs cells slots r hM hR hc hs hS hP hL
  have hk := kJx29ce0_ordinal_8abf5
  refine zcall (mc := 0) (ms := 0) hM hR hc hs hS hL (Nat.zero_le _) (Nat.zero_le _) (vx_runU (C := "BraidCourt$Command") (owner := "java/lang/Enum") (x := ⟨"BraidCourt$Command", "ordinal", "()I"⟩) (y := yJx29ce0_ordinal_8abf5) (bytes := mJx29ce0_ordinal_8abf5.2.1) (maxL := mJx29ce0_ordinal_8abf5.2.2.1) (ret := mJx29ce0_ordinal_8abf5.2.2.2.1) (ws := zws yJx29ce0_ordinal_8abf5 mJx29ce0_ordinal_8abf5) (rm := zrm 0 0 0) (mc := 0) (ms := 0) (n := 0) (As := []) (rest := rest) ⟨hM.1, hM.2.1, hM.2.2.1, hM.own, hM.ws⟩ (qJx29ce0_ordinal_8abf5 hX σ hi) ?_ ⟨zPc_blind X σ _, ?_, zpre hM.S hS hP⟩ rfl rfl hL.1 rfl (lv_room hcat) hd ⟨by omega, by omega⟩) (fun v σ' h => by obtain ⟨r, e, h1, h2⟩ := h; cases e; rw [h1, h2]; exact kk) (fun E σ' h => by obtain ⟨r, e, -⟩ := h; cases e)
  · refine ⟨⟨rfl, rfl, ?_, ?_, ?_, ?_⟩, hM.ws _ hk.2.1, hM.ws _ hk.1, by decide, ?_, ?_, hM.ws _ ord_s, va_Decl.of (hM.ws _ iJx29ce0_ordinal_8abf5) (hM.ws _ hk.2.1), hM.ws _ ord_e, hM.ws _ iJx29ce0_ordinal_8abf5⟩
    · have := hR.1; show 0 + 1 ≤ R.frames; omega
    · have := hR.2; show 8 + (1 + 11) + (100 + 50 * 0) ≤ R.locals; omega
    · exact fun w hw => zpay hM.ws (fun w hw => by rcases List.mem_cons.mp hw with h | h; rw [h]; exact hk.2.1; exact h) w hw
    · exact List.mem_cons_self
    · intro sig h
      have h2 := hk.2.2.1.2.2
      rw [show (⟨"BraidCourt$Command", "ordinal", "()I"⟩ : MethodName).desc = yJx29ce0_ordinal_8abf5.desc from rfl] at h
      rw [h] at h2
      exact (Option.some.inj h2).symm
    · rw [ho]; exact hM.ws _ ord_l
  · obtain ⟨cell, g1, g2, g3, -⟩ := (hM.S.2.2.2.1.1 i hi).2.1.kept hS.2.1
    exact ⟨cell, g1, g2, g3⟩
