/-! the throw sites, ordinal, the texts -/
theorem thE102 (is : Nat) (t : String) (h : (RX9, is, t) ∈ zST) : zTr RX9 102 106 is "java/lang/IllegalArgumentException" t := ⟨7, ⟨#[0x2a, 0x2b, 0xb7, 0x00, 0x07, 0xb1]⟩, by decide +kernel, by decide +kernel, by decide +kernel, by decide +kernel, by decide +kernel, zin 689 (by decide +kernel) (by decide +kernel), zin 93 (by decide +kernel) (by decide +kernel), h, by decide +kernel, by decide +kernel, by decide +kernel⟩
theorem thE150 (is : Nat) (t : String) (h : (RX9, is, t) ∈ zST) : zTr RX9 150 154 is "java/util/NoSuchElementException" t := ⟨13, ⟨#[0x2a, 0x2b, 0xb7, 0x00, 0x0d, 0xb1]⟩, by decide +kernel, by decide +kernel, by decide +kernel, by decide +kernel, by decide +kernel, zin 766 (by decide +kernel) (by decide +kernel), zin 94 (by decide +kernel) (by decide +kernel), h, by decide +kernel, by decide +kernel, by decide +kernel⟩
theorem thE270 (is : Nat) (t : String) (h : (RX9, is, t) ∈ zST) : zTr RX9 270 274 is "java/lang/ArithmeticException" t := ⟨7, ⟨#[0x2a, 0x2b, 0xb7, 0x00, 0x07, 0xb1]⟩, by decide +kernel, by decide +kernel, by decide +kernel, by decide +kernel, by decide +kernel, zin 1090 (by decide +kernel) (by decide +kernel), zin 97 (by decide +kernel) (by decide +kernel), h, by decide +kernel, by decide +kernel, by decide +kernel⟩
theorem thE287 (is : Nat) (t : String) (h : (RX9, is, t) ∈ zST) : zTr RX9 287 291 is "java/lang/IllegalStateException" t := ⟨7, ⟨#[0x2a, 0x2b, 0xb7, 0x00, 0x07, 0xb1]⟩, by decide +kernel, by decide +kernel, by decide +kernel, by decide +kernel, by decide +kernel, zin 831 (by decide +kernel) (by decide +kernel), zin 95 (by decide +kernel) (by decide +kernel), h, by decide +kernel, by decide +kernel, by decide +kernel⟩
theorem thE328 (is : Nat) (t : String) (h : (RX9, is, t) ∈ zST) : zTr RX9 328 332 is "java/lang/UnsupportedOperationException" t := ⟨7, ⟨#[0x2a, 0x2b, 0xb7, 0x00, 0x07, 0xb1]⟩, by decide +kernel, by decide +kernel, by decide +kernel, by decide +kernel, by decide +kernel, zin 554 (by decide +kernel) (by decide +kernel), zin 89 (by decide +kernel) (by decide +kernel), h, by decide +kernel, by decide +kernel, by decide +kernel⟩
theorem thE357 (is : Nat) (t : String) (h : (RX9, is, t) ∈ zST) : zTr RX9 357 361 is "java/lang/IndexOutOfBoundsException" t := ⟨7, ⟨#[0x2a, 0x2b, 0xb7, 0x00, 0x07, 0xb1]⟩, by decide +kernel, by decide +kernel, by decide +kernel, by decide +kernel, by decide +kernel, zin 673 (by decide +kernel) (by decide +kernel), zin 90 (by decide +kernel) (by decide +kernel), h, by decide +kernel, by decide +kernel, by decide +kernel⟩
theorem thX9_102_104 : zTr RX9 102 106 104 "java/lang/IllegalArgumentException" "there is no such letter" := thE102 _ _ (by decide +kernel)
theorem thX9_150_152 : zTr RX9 150 154 152 "java/util/NoSuchElementException" "there is no such position" := thE150 _ _ (by decide +kernel)
theorem thX9_102_193 : zTr RX9 102 106 193 "java/lang/IllegalArgumentException" "there is no such coordinate" := thE102 _ _ (by decide +kernel)
theorem thX9_150_220 : zTr RX9 150 154 220 "java/util/NoSuchElementException" "there is no such rank" := thE150 _ _ (by decide +kernel)
theorem thX9_150_244 : zTr RX9 150 154 244 "java/util/NoSuchElementException" "the case is undecided" := thE150 _ _ (by decide +kernel)
theorem thX9_150_249 : zTr RX9 150 154 249 "java/util/NoSuchElementException" "there is no such precedent" := thE150 _ _ (by decide +kernel)
theorem thX9_270_272 : zTr RX9 270 274 272 "java/lang/ArithmeticException" "there are no cases" := thE270 _ _ (by decide +kernel)
theorem thX9_270_278 : zTr RX9 270 274 278 "java/lang/ArithmeticException" "no case is decided" := thE270 _ _ (by decide +kernel)
theorem thX9_287_289 : zTr RX9 287 291 289 "java/lang/IllegalStateException" "the text buffer is full" := thE287 _ _ (by decide +kernel)
theorem thX9_102_304 : zTr RX9 102 106 304 "java/lang/IllegalArgumentException" "the text does not match the grammar" := thE102 _ _ (by decide +kernel)
theorem thX9_328_330 : zTr RX9 328 332 330 "java/lang/UnsupportedOperationException" "a command failed" := thE328 _ _ (by decide +kernel)
theorem thX9_150_341 : zTr RX9 150 154 341 "java/util/NoSuchElementException" "no fault position was kept yet" := thE150 _ _ (by decide +kernel)
theorem thX9_357_359 : zTr RX9 357 361 359 "java/lang/IndexOutOfBoundsException" "there is no such index" := thE357 _ _ (by decide +kernel)
theorem thX9_150_365 : zTr RX9 150 154 365 "java/util/NoSuchElementException" "the latest denial has no cause" := thE150 _ _ (by decide +kernel)
theorem thX9_287_368 : zTr RX9 287 291 368 "java/lang/IllegalStateException" "there is no change to undo" := thE287 _ _ (by decide +kernel)
theorem thX9_287_373 : zTr RX9 287 291 373 "java/lang/IllegalStateException" "there is no snapshot" := thE287 _ _ (by decide +kernel)
theorem thX9_357_381 : zTr RX9 357 361 381 "java/lang/IndexOutOfBoundsException" "there is no such case" := thE357 _ _ (by decide +kernel)
theorem thX9_357_249 : zTr RX9 357 361 249 "java/lang/IndexOutOfBoundsException" "there is no such precedent" := thE357 _ _ (by decide +kernel)
theorem thX9_102_152 : zTr RX9 102 106 152 "java/lang/IllegalArgumentException" "there is no such position" := thE102 _ _ (by decide +kernel)
theorem thX9_150_383 : zTr RX9 150 154 383 "java/util/NoSuchElementException" "there is no handle" := thE150 _ _ (by decide +kernel)
theorem thX9_287_398 : zTr RX9 287 291 398 "java/lang/IllegalStateException" "the relaxation fails" := thE287 _ _ (by decide +kernel)
theorem thX9_150_400 : zTr RX9 150 154 400 "java/util/NoSuchElementException" "nothing was denied yet" := thE150 _ _ (by decide +kernel)
theorem thX9_328_406 : zTr RX9 328 332 406 "java/lang/UnsupportedOperationException" "the call is denied" := thE328 _ _ (by decide +kernel)
theorem zr_distinct {X : zX} {M : zMd} {d bc bs : Nat} {Q : zO → zS → Prop} {pc : Nat} {ls : List (Option Value)} {st : List Value} {σ : zS} (kk : (∀ i j : Nat, i < 7 → j < 7 → zQ X i = zQ X j → i = j) → zW X M d bc bs Q pc ls st σ) : zW X M d bc bs Q pc ls st σ := by
  intro p e s m args below meth c R H locs cells slots r hM hR hc hs hS hP hL
  exact kk hM.S.2.2.2.1.2 p e s m args below meth c R H locs cells slots r hM hR hc hs hS hP hL
theorem ord_l : Cond.methodLink RX5 69 ⟨"BraidCourt$Command", "ordinal", "()I"⟩ ∈ zBig := zin 532 (by decide +kernel) (by decide +kernel)
theorem ord_s : Cond.sameMethod "BraidCourt$Command" "java/lang/Enum" "ordinal" "()I" ∈ zBig := zin 533 (by decide +kernel) (by decide +kernel)
theorem ord_e : Cond.selects "BraidCourt$Command" ⟨"BraidCourt$Command", "ordinal", "()I"⟩ yJx29ce0_ordinal_8abf5 ∈ zBig := zin 535 (by decide +kernel) (by decide +kernel)
theorem qJx29ce0_ordinal_8abf5 {X : zX} (hX : X.1.stackTraces = false) (σ : zS) {i : Nat} (hi : i < 7) : zMet X mJx29ce0_ordinal_8abf5 yJx29ce0_ordinal_8abf5 0 0 0 [.ref (zQ X i)] σ (zI (fun y_ s_ => y_ = nI i ∧ s_ = σ)) := by
  refine zMet_of (ls := [some (.ref (zQ X i))]) rfl (by decide +kernel) rfl (fun h => by cases h) hX (Nat.le_of_ble_eq_true rfl) rfl ?_
  refine zr_aload_n dJx29ce0_ordinal_8abf5_0 rfl ?_
  refine zr_ordinal dJx29ce0_ordinal_8abf5_1 hi fJx29ce0_7 ?_
  exact zr_ireturn dJx29ce0_ordinal_8abf5_4 rfl rfl ⟨_, rfl, rfl, rfl⟩
theorem zr_callO {X : zX} {M : zMd} {d bc bs : Nat} {Q : zO → zS → Prop} {pc : Nat} {ls : List (Option Value)} {σ : zS} {i : Nat} (hX : X.1.stackTraces = false) (rest : List Value) (hd : decode M.2.1 pc = .ok (.invokevirtual 69, 3)) (ho : M.1 = RX5) (hi : i < 7) (hd' : 1 ≤ d) (hcat : (rest.map fun v => v.category).sum ≤ 8) (htab : M.2.2.2.2.2 = []) (kk : zW X M d bc bs Q (pc + 3) ls (.int (nI i) :: rest) σ) : zW X M d bc bs Q pc ls (.ref (zQ X i) :: rest) σ := by
  intro p e s m args below meth c R H locs cells slots r hM hR hc hs hS hP hL
  have hk := kJx29ce0_ordinal_8abf5
  refine zcall (mc := 0) (ms := 0) hM hR hc hs hS hL (Nat.zero_le _) (Nat.zero_le _) (vx_runU (C := "BraidCourt$Command") (owner := "java/lang/Enum") (x := ⟨"BraidCourt$Command", "ordinal", "()I"⟩) (y := yJx29ce0_ordinal_8abf5) (bytes := mJx29ce0_ordinal_8abf5.2.1) (maxL := mJx29ce0_ordinal_8abf5.2.2.1) (ret := mJx29ce0_ordinal_8abf5.2.2.2.1) (ws := zws yJx29ce0_ordinal_8abf5 mJx29ce0_ordinal_8abf5) (rm := zrm 0 0 0) (mc := 0) (ms := 0) (n := 0) (As := []) (rest := rest) ⟨hM.1, hM.2.1, hM.2.2.1, hM.own, hM.ws⟩ (qJx29ce0_ordinal_8abf5 hX σ hi) ?_ ⟨zPc_blind X σ _, ?_, zpre hM.S hS hP⟩ rfl rfl hL.1 rfl (lv_room hcat) hd ⟨by omega, by omega⟩) (fun v σ' h => by obtain ⟨r, e, h1, h2⟩ := h; cases e; rw [h1, h2]; exact kk) (fun E σ' h => by obtain ⟨r, e, -⟩ := h; cases e)
  · refine ⟨⟨rfl, rfl, ?_, ?_, ?_, ?_⟩, hM.ws _ hk.2.1, hM.ws _ hk.1, by decide, ?_, ?_, hM.ws _ ord_s, va_Decl.of (hM.ws _ iJx29ce0_ordinal_8abf5) (hM.ws _ hk.2.1), hM.ws _ ord_e, hM.ws _ iJx29ce0_ordinal_8abf5⟩
    · have := hR.1; show 0 + 1 ≤ R.frames; omega
    · have := hR.2; show 8 + (1 + 11) + (100 + 50 * 0) ≤ R.locals; omega
    · exact fun w hw => zpay hM.ws (fun w hw => by rcases List.mem_cons.mp hw with h | h; rw [h]; exact hk.2.1; exact h) w hw
    · exact List.mem_cons_self
    · intro sig h
      have h2 := hk.2.2.1.2.2
      rw [show (⟨"BraidCourt$Command", "ordinal", "()I"⟩ : MethodName).desc = yJx29ce0_ordinal_8abf5.desc from rfl] at h
      rw [h] at h2
      exact (Option.some.inj h2).symm
    · rw [ho]; exact hM.ws _ ord_l
  · obtain ⟨cell, g1, g2, g3, -⟩ := (hM.S.2.2.2.1.1 i hi).2.1.kept hS.2.1
    exact ⟨cell, g1, g2, g3⟩
