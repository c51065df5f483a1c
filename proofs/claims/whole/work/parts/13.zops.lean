theorem zr_iconst {X : zX} {M : zMd} {d bc bs : Nat} {Q : zO → zS → Prop} {pc : Nat} {ls : List (Option Value)} {st : List Value} {σ : zS} {n : Int} {v : Int32} (hd : decode M.2.1 pc = .ok (.iconst n, 1)) (hv : Int32.ofInt n = v) (kk : zW X M d bc bs Q (pc + 1) ls (.int v :: st) σ) : zW X M d bc bs Q pc ls (st) σ := by
  intro p e s m args below meth c R H locs cells slots r hM hR hc hs hS hP hL
  exact lv_iconst hM.1 hM.2.1 hd hv (kk p e s m args below meth c R H locs cells slots r hM hR hc hs hS hP hL)
theorem zr_bipush {X : zX} {M : zMd} {d bc bs : Nat} {Q : zO → zS → Prop} {pc : Nat} {ls : List (Option Value)} {st : List Value} {σ : zS} {n : Int} {v : Int32} (hd : decode M.2.1 pc = .ok (.bipush n, 2)) (hv : (Int8.ofInt n).toInt32 = v) (kk : zW X M d bc bs Q (pc + 2) ls (.int v :: st) σ) : zW X M d bc bs Q pc ls (st) σ := by
  intro p e s m args below meth c R H locs cells slots r hM hR hc hs hS hP hL
  exact lv_bipush hM.1 hM.2.1 hd hv (kk p e s m args below meth c R H locs cells slots r hM hR hc hs hS hP hL)
theorem zr_sipush {X : zX} {M : zMd} {d bc bs : Nat} {Q : zO → zS → Prop} {pc : Nat} {ls : List (Option Value)} {st : List Value} {σ : zS} {n : Int} {v : Int32} (hd : decode M.2.1 pc = .ok (.sipush n, 3)) (hv : (Int16.ofInt n).toInt32 = v) (kk : zW X M d bc bs Q (pc + 3) ls (.int v :: st) σ) : zW X M d bc bs Q pc ls (st) σ := by
  intro p e s m args below meth c R H locs cells slots r hM hR hc hs hS hP hL
  exact lv_sipush hM.1 hM.2.1 hd hv (kk p e s m args below meth c R H locs cells slots r hM hR hc hs hS hP hL)
theorem zr_lconst {X : zX} {M : zMd} {d bc bs : Nat} {Q : zO → zS → Prop} {pc : Nat} {ls : List (Option Value)} {st : List Value} {σ : zS} {n : Fin 2} {v : Int64} (hd : decode M.2.1 pc = .ok (.lconst n, 1)) (hv : Int64.ofNat (n : Nat) = v) (kk : zW X M d bc bs Q (pc + 1) ls (.long v :: st) σ) : zW X M d bc bs Q pc ls (st) σ := by
  intro p e s m args below meth c R H locs cells slots r hM hR hc hs hS hP hL
  exact lv_lconst hM.1 hM.2.1 hd hv (kk p e s m args below meth c R H locs cells slots r hM hR hc hs hS hP hL)
theorem zr_fconst0 {X : zX} {M : zMd} {d bc bs : Nat} {Q : zO → zS → Prop} {pc : Nat} {ls : List (Option Value)} {st : List Value} {σ : zS}  (hd : decode M.2.1 pc = .ok (.fconst 0, 1)) (kk : zW X M d bc bs Q (pc + 1) ls (.float FP.fconst0 :: st) σ) : zW X M d bc bs Q pc ls (st) σ := by
  intro p e s m args below meth c R H locs cells slots r hM hR hc hs hS hP hL
  exact lv_fconst0 hM.1 hM.2.1 hd (kk p e s m args below meth c R H locs cells slots r hM hR hc hs hS hP hL)
theorem zr_dconst0 {X : zX} {M : zMd} {d bc bs : Nat} {Q : zO → zS → Prop} {pc : Nat} {ls : List (Option Value)} {st : List Value} {σ : zS}  (hd : decode M.2.1 pc = .ok (.dconst 0, 1)) (kk : zW X M d bc bs Q (pc + 1) ls (.double FP.dconst0 :: st) σ) : zW X M d bc bs Q pc ls (st) σ := by
  intro p e s m args below meth c R H locs cells slots r hM hR hc hs hS hP hL
  exact lv_dconst0 hM.1 hM.2.1 hd (kk p e s m args below meth c R H locs cells slots r hM hR hc hs hS hP hL)
theorem zr_iload_n {X : zX} {M : zMd} {d bc bs : Nat} {Q : zO → zS → Prop} {pc : Nat} {ls : List (Option Value)} {st : List Value} {σ : zS} {k : Fin 4} {x : Int32} (hd : decode M.2.1 pc = .ok (.iload_n k, 1)) (hl : ls[(k : Nat)]? = some (some (.int x))) (kk : zW X M d bc bs Q (pc + 1) ls (.int x :: st) σ) : zW X M d bc bs Q pc ls (st) σ := by
  intro p e s m args below meth c R H locs cells slots r hM hR hc hs hS hP hL
  exact lv_iload_n hM.1 hM.2.1 hd rfl (hL.2.2 _ _ hl) (kk p e s m args below meth c R H locs cells slots r hM hR hc hs hS hP hL)
theorem zr_iload {X : zX} {M : zMd} {d bc bs : Nat} {Q : zO → zS → Prop} {pc : Nat} {ls : List (Option Value)} {st : List Value} {σ : zS} {i : Nat} {x : Int32} (hd : decode M.2.1 pc = .ok (.iload i, 2)) (hl : ls[i]? = some (some (.int x))) (kk : zW X M d bc bs Q (pc + 2) ls (.int x :: st) σ) : zW X M d bc bs Q pc ls (st) σ := by
  intro p e s m args below meth c R H locs cells slots r hM hR hc hs hS hP hL
  exact lv_iload hM.1 hM.2.1 hd (hL.2.2 _ _ hl) (kk p e s m args below meth c R H locs cells slots r hM hR hc hs hS hP hL)
theorem zr_lload_n {X : zX} {M : zMd} {d bc bs : Nat} {Q : zO → zS → Prop} {pc : Nat} {ls : List (Option Value)} {st : List Value} {σ : zS} {k : Fin 4} {x : Int64} (hd : decode M.2.1 pc = .ok (.lload_n k, 1)) (hl : ls[(k : Nat)]? = some (some (.long x))) (kk : zW X M d bc bs Q (pc + 1) ls (.long x :: st) σ) : zW X M d bc bs Q pc ls (st) σ := by
  intro p e s m args below meth c R H locs cells slots r hM hR hc hs hS hP hL
  exact lv_lload_n hM.1 hM.2.1 hd rfl (hL.2.2 _ _ hl) (kk p e s m args below meth c R H locs cells slots r hM hR hc hs hS hP hL)
theorem zr_lload {X : zX} {M : zMd} {d bc bs : Nat} {Q : zO → zS → Prop} {pc : Nat} {ls : List (Option Value)} {st : List Value} {σ : zS} {i : Nat} {x : Int64} (hd : decode M.2.1 pc = .ok (.lload i, 2)) (hl : ls[i]? = some (some (.long x))) (kk : zW X M d bc bs Q (pc + 2) ls (.long x :: st) σ) : zW X M d bc bs Q pc ls (st) σ := by
  intro p e s m args below meth c R H locs cells slots r hM hR hc hs hS hP hL
  exact lv_lload hM.1 hM.2.1 hd (hL.2.2 _ _ hl) (kk p e s m args below meth c R H locs cells slots r hM hR hc hs hS hP hL)
theorem zr_aload_n {X : zX} {M : zMd} {d bc bs : Nat} {Q : zO → zS → Prop} {pc : Nat} {ls : List (Option Value)} {st : List Value} {σ : zS} {k : Fin 4} {x : Nat} (hd : decode M.2.1 pc = .ok (.aload_n k, 1)) (hl : ls[(k : Nat)]? = some (some (.ref x))) (kk : zW X M d bc bs Q (pc + 1) ls (.ref x :: st) σ) : zW X M d bc bs Q pc ls (st) σ := by
  intro p e s m args below meth c R H locs cells slots r hM hR hc hs hS hP hL
  exact lv_aload_n hM.1 hM.2.1 hd rfl (hL.2.2 _ _ hl) (kk p e s m args below meth c R H locs cells slots r hM hR hc hs hS hP hL)
theorem zr_aload {X : zX} {M : zMd} {d bc bs : Nat} {Q : zO → zS → Prop} {pc : Nat} {ls : List (Option Value)} {st : List Value} {σ : zS} {i : Nat} {x : Nat} (hd : decode M.2.1 pc = .ok (.aload i, 2)) (hl : ls[i]? = some (some (.ref x))) (kk : zW X M d bc bs Q (pc + 2) ls (.ref x :: st) σ) : zW X M d bc bs Q pc ls (st) σ := by
  intro p e s m args below meth c R H locs cells slots r hM hR hc hs hS hP hL
  exact lv_aload hM.1 hM.2.1 hd (hL.2.2 _ _ hl) (kk p e s m args below meth c R H locs cells slots r hM hR hc hs hS hP hL)
theorem zr_fload_n {X : zX} {M : zMd} {d bc bs : Nat} {Q : zO → zS → Prop} {pc : Nat} {ls : List (Option Value)} {st : List Value} {σ : zS} {k : Fin 4} {x : UInt32} (hd : decode M.2.1 pc = .ok (.fload_n k, 1)) (hl : ls[(k : Nat)]? = some (some (.float x))) (kk : zW X M d bc bs Q (pc + 1) ls (.float x :: st) σ) : zW X M d bc bs Q pc ls (st) σ := by
  intro p e s m args below meth c R H locs cells slots r hM hR hc hs hS hP hL
  exact lv_fload_n hM.1 hM.2.1 hd rfl (hL.2.2 _ _ hl) (kk p e s m args below meth c R H locs cells slots r hM hR hc hs hS hP hL)
theorem zr_fload {X : zX} {M : zMd} {d bc bs : Nat} {Q : zO → zS → Prop} {pc : Nat} {ls : List (Option Value)} {st : List Value} {σ : zS} {i : Nat} {x : UInt32} (hd : decode M.2.1 pc = .ok (.fload i, 2)) (hl : ls[i]? = some (some (.float x))) (kk : zW X M d bc bs Q (pc + 2) ls (.float x :: st) σ) : zW X M d bc bs Q pc ls (st) σ := by
  intro p e s m args below meth c R H locs cells slots r hM hR hc hs hS hP hL
  exact lv_fload hM.1 hM.2.1 hd (hL.2.2 _ _ hl) (kk p e s m args below meth c R H locs cells slots r hM hR hc hs hS hP hL)
theorem zr_dload_n {X : zX} {M : zMd} {d bc bs : Nat} {Q : zO → zS → Prop} {pc : Nat} {ls : List (Option Value)} {st : List Value} {σ : zS} {k : Fin 4} {x : UInt64} (hd : decode M.2.1 pc = .ok (.dload_n k, 1)) (hl : ls[(k : Nat)]? = some (some (.double x))) (kk : zW X M d bc bs Q (pc + 1) ls (.double x :: st) σ) : zW X M d bc bs Q pc ls (st) σ := by
  intro p e s m args below meth c R H locs cells slots r hM hR hc hs hS hP hL
  exact lv_dload_n hM.1 hM.2.1 hd rfl (hL.2.2 _ _ hl) (kk p e s m args below meth c R H locs cells slots r hM hR hc hs hS hP hL)
theorem zr_dload {X : zX} {M : zMd} {d bc bs : Nat} {Q : zO → zS → Prop} {pc : Nat} {ls : List (Option Value)} {st : List Value} {σ : zS} {i : Nat} {x : UInt64} (hd : decode M.2.1 pc = .ok (.dload i, 2)) (hl : ls[i]? = some (some (.double x))) (kk : zW X M d bc bs Q (pc + 2) ls (.double x :: st) σ) : zW X M d bc bs Q pc ls (st) σ := by
  intro p e s m args below meth c R H locs cells slots r hM hR hc hs hS hP hL
  exact lv_dload hM.1 hM.2.1 hd (hL.2.2 _ _ hl) (kk p e s m args below meth c R H locs cells slots r hM hR hc hs hS hP hL)
theorem zr_istore_n {X : zX} {M : zMd} {d bc bs : Nat} {Q : zO → zS → Prop} {pc : Nat} {ls : List (Option Value)} {st : List Value} {σ : zS} {k : Fin 4} {i : Nat} {x : Int32} {ls' : List (Option Value)} (hd : decode M.2.1 pc = .ok (.istore_n k, 1)) (hi : (k : Nat) = i) (hn : i < M.2.2.1) (hl : zput1 ls i (.int x) = ls') (kk : zW X M d bc bs Q (pc + 1) ls' st σ) : zW X M d bc bs Q pc ls (.int x :: st) σ := by
  intro p e s m args below meth c R H locs cells slots r hM hR hc hs hS hP hL
  subst hl
  exact lv_istore_n hM.1 hM.2.1 hd hi (hL.kit zkl_mem) hn rfl (fun r hr => kk p e s m args below meth c R H locs cells slots r hM hR hc hs hS hP (zL.p1 hr rfl))
theorem zr_istore {X : zX} {M : zMd} {d bc bs : Nat} {Q : zO → zS → Prop} {pc : Nat} {ls : List (Option Value)} {st : List Value} {σ : zS} {i : Nat} {x : Int32} {ls' : List (Option Value)} (hd : decode M.2.1 pc = .ok (.istore i, 2)) (hn : i < M.2.2.1) (hl : zput1 ls i (.int x) = ls') (kk : zW X M d bc bs Q (pc + 2) ls' st σ) : zW X M d bc bs Q pc ls (.int x :: st) σ := by
  intro p e s m args below meth c R H locs cells slots r hM hR hc hs hS hP hL
  subst hl
  exact lv_istore hM.1 hM.2.1 hd (hL.kit zkl_mem) hn rfl (fun r hr => kk p e s m args below meth c R H locs cells slots r hM hR hc hs hS hP (zL.p1 hr rfl))
theorem zr_lstore_n {X : zX} {M : zMd} {d bc bs : Nat} {Q : zO → zS → Prop} {pc : Nat} {ls : List (Option Value)} {st : List Value} {σ : zS} {k : Fin 4} {i : Nat} {x : Int64} {ls' : List (Option Value)} (hd : decode M.2.1 pc = .ok (.lstore_n k, 1)) (hi : (k : Nat) = i) (hn : i + 1 < M.2.2.1) (hl : zput2 ls i (.long x) = ls') (kk : zW X M d bc bs Q (pc + 1) ls' st σ) : zW X M d bc bs Q pc ls (.long x :: st) σ := by
  intro p e s m args below meth c R H locs cells slots r hM hR hc hs hS hP hL
  subst hl
  exact lv_lstore_n hM.1 hM.2.1 hd hi (hL.kit zkl_mem) hn rfl (fun r hr => kk p e s m args below meth c R H locs cells slots r hM hR hc hs hS hP (zL.p2 hr))
theorem zr_lstore {X : zX} {M : zMd} {d bc bs : Nat} {Q : zO → zS → Prop} {pc : Nat} {ls : List (Option Value)} {st : List Value} {σ : zS} {i : Nat} {x : Int64} {ls' : List (Option Value)} (hd : decode M.2.1 pc = .ok (.lstore i, 2)) (hn : i + 1 < M.2.2.1) (hl : zput2 ls i (.long x) = ls') (kk : zW X M d bc bs Q (pc + 2) ls' st σ) : zW X M d bc bs Q pc ls (.long x :: st) σ := by
  intro p e s m args below meth c R H locs cells slots r hM hR hc hs hS hP hL
  subst hl
  exact lv_lstore hM.1 hM.2.1 hd (hL.kit zkl_mem) hn rfl (fun r hr => kk p e s m args below meth c R H locs cells slots r hM hR hc hs hS hP (zL.p2 hr))
theorem zr_astore_n {X : zX} {M : zMd} {d bc bs : Nat} {Q : zO → zS → Prop} {pc : Nat} {ls : List (Option Value)} {st : List Value} {σ : zS} {k : Fin 4} {i : Nat} {x : Nat} {ls' : List (Option Value)} (hd : decode M.2.1 pc = .ok (.astore_n k, 1)) (hi : (k : Nat) = i) (hn : i < M.2.2.1) (hl : zput1 ls i (.ref x) = ls') (kk : zW X M d bc bs Q (pc + 1) ls' st σ) : zW X M d bc bs Q pc ls (.ref x :: st) σ := by
  intro p e s m args below meth c R H locs cells slots r hM hR hc hs hS hP hL
  subst hl
  exact lv_astore_n hM.1 hM.2.1 hd hi (hL.kit zkl_mem) hn rfl (fun r hr => kk p e s m args below meth c R H locs cells slots r hM hR hc hs hS hP (zL.p1 hr rfl))
theorem zr_astore {X : zX} {M : zMd} {d bc bs : Nat} {Q : zO → zS → Prop} {pc : Nat} {ls : List (Option Value)} {st : List Value} {σ : zS} {i : Nat} {x : Nat} {ls' : List (Option Value)} (hd : decode M.2.1 pc = .ok (.astore i, 2)) (hn : i < M.2.2.1) (hl : zput1 ls i (.ref x) = ls') (kk : zW X M d bc bs Q (pc + 2) ls' st σ) : zW X M d bc bs Q pc ls (.ref x :: st) σ := by
  intro p e s m args below meth c R H locs cells slots r hM hR hc hs hS hP hL
  subst hl
  exact lv_astore hM.1 hM.2.1 hd (hL.kit zkl_mem) hn rfl (fun r hr => kk p e s m args below meth c R H locs cells slots r hM hR hc hs hS hP (zL.p1 hr rfl))
theorem zr_fstore_n {X : zX} {M : zMd} {d bc bs : Nat} {Q : zO → zS → Prop} {pc : Nat} {ls : List (Option Value)} {st : List Value} {σ : zS} {k : Fin 4} {i : Nat} {x : UInt32} {ls' : List (Option Value)} (hd : decode M.2.1 pc = .ok (.fstore_n k, 1)) (hi : (k : Nat) = i) (hn : i < M.2.2.1) (hl : zput1 ls i (.float x) = ls') (kk : zW X M d bc bs Q (pc + 1) ls' st σ) : zW X M d bc bs Q pc ls (.float x :: st) σ := by
  intro p e s m args below meth c R H locs cells slots r hM hR hc hs hS hP hL
  subst hl
  exact lv_fstore_n hM.1 hM.2.1 hd hi (hL.kit zkl_mem) hn rfl (fun r hr => kk p e s m args below meth c R H locs cells slots r hM hR hc hs hS hP (zL.p1 hr rfl))
theorem zr_fstore {X : zX} {M : zMd} {d bc bs : Nat} {Q : zO → zS → Prop} {pc : Nat} {ls : List (Option Value)} {st : List Value} {σ : zS} {i : Nat} {x : UInt32} {ls' : List (Option Value)} (hd : decode M.2.1 pc = .ok (.fstore i, 2)) (hn : i < M.2.2.1) (hl : zput1 ls i (.float x) = ls') (kk : zW X M d bc bs Q (pc + 2) ls' st σ) : zW X M d bc bs Q pc ls (.float x :: st) σ := by
  intro p e s m args below meth c R H locs cells slots r hM hR hc hs hS hP hL
  subst hl
  exact lv_fstore hM.1 hM.2.1 hd (hL.kit zkl_mem) hn rfl (fun r hr => kk p e s m args below meth c R H locs cells slots r hM hR hc hs hS hP (zL.p1 hr rfl))
theorem zr_dstore_n {X : zX} {M : zMd} {d bc bs : Nat} {Q : zO → zS → Prop} {pc : Nat} {ls : List (Option Value)} {st : List Value} {σ : zS} {k : Fin 4} {i : Nat} {x : UInt64} {ls' : List (Option Value)} (hd : decode M.2.1 pc = .ok (.dstore_n k, 1)) (hi : (k : Nat) = i) (hn : i + 1 < M.2.2.1) (hl : zput2 ls i (.double x) = ls') (kk : zW X M d bc bs Q (pc + 1) ls' st σ) : zW X M d bc bs Q pc ls (.double x :: st) σ := by
  intro p e s m args below meth c R H locs cells slots r hM hR hc hs hS hP hL
  subst hl
  exact lv_dstore_n hM.1 hM.2.1 hd hi (hL.kit zkl_mem) hn rfl (fun r hr => kk p e s m args below meth c R H locs cells slots r hM hR hc hs hS hP (zL.p2 hr))
theorem zr_dstore {X : zX} {M : zMd} {d bc bs : Nat} {Q : zO → zS → Prop} {pc : Nat} {ls : List (Option Value)} {st : List Value} {σ : zS} {i : Nat} {x : UInt64} {ls' : List (Option Value)} (hd : decode M.2.1 pc = .ok (.dstore i, 2)) (hn : i + 1 < M.2.2.1) (hl : zput2 ls i (.double x) = ls') (kk : zW X M d bc bs Q (pc + 2) ls' st σ) : zW X M d bc bs Q pc ls (.double x :: st) σ := by
  intro p e s m args below meth c R H locs cells slots r hM hR hc hs hS hP hL
  subst hl
  exact lv_dstore hM.1 hM.2.1 hd (hL.kit zkl_mem) hn rfl (fun r hr => kk p e s m args below meth c R H locs cells slots r hM hR hc hs hS hP (zL.p2 hr))
theorem zr_iinc {X : zX} {M : zMd} {d bc bs : Nat} {Q : zO → zS → Prop} {pc : Nat} {ls : List (Option Value)} {st : List Value} {σ : zS} {i : Nat} {n : Int} {x v : Int32} {ls' : List (Option Value)} (hd : decode M.2.1 pc = .ok (.iinc i n, 3)) (hx : ls[i]? = some (some (.int x))) (hv : x + Int32.ofInt n = v) (hn : i < M.2.2.1) (hl : zput1 ls i (.int v) = ls') (kk : zW X M d bc bs Q (pc + 3) ls' st σ) : zW X M d bc bs Q pc ls st σ := by
  intro p e s m args below meth c R H locs cells slots r hM hR hc hs hS hP hL
  subst hl
  obtain ⟨k, hk⟩ := List.getElem?_of_mem ((zkl_iff).mpr hx)
  exact lv_iinc hM.1 hM.2.1 hd (hL.kit zkl_mem) (k := k) hk hv hn rfl (fun r hr => kk p e s m args below meth c R H locs cells slots r hM hR hc hs hS hP (zL.p1 hr rfl))
theorem zr_iadd {X : zX} {M : zMd} {d bc bs : Nat} {Q : zO → zS → Prop} {pc : Nat} {ls : List (Option Value)} {st : List Value} {σ : zS} {x y : Int32} (hd : decode M.2.1 pc = .ok (.iadd, 1)) (kk : zW X M d bc bs Q (pc + 1) ls (.int (x + y) :: st) σ) : zW X M d bc bs Q pc ls (.int y :: .int x :: st) σ := by
  intro p e s m args below meth c R H locs cells slots r hM hR hc hs hS hP hL
  exact lv_iadd hM.1 hM.2.1 hd (kk p e s m args below meth c R H locs cells slots r hM hR hc hs hS hP hL)
theorem zr_isub {X : zX} {M : zMd} {d bc bs : Nat} {Q : zO → zS → Prop} {pc : Nat} {ls : List (Option Value)} {st : List Value} {σ : zS} {x y : Int32} (hd : decode M.2.1 pc = .ok (.isub, 1)) (kk : zW X M d bc bs Q (pc + 1) ls (.int (x - y) :: st) σ) : zW X M d bc bs Q pc ls (.int y :: .int x :: st) σ := by
  intro p e s m args below meth c R H locs cells slots r hM hR hc hs hS hP hL
  exact lv_isub hM.1 hM.2.1 hd (kk p e s m args below meth c R H locs cells slots r hM hR hc hs hS hP hL)
theorem zr_imul {X : zX} {M : zMd} {d bc bs : Nat} {Q : zO → zS → Prop} {pc : Nat} {ls : List (Option Value)} {st : List Value} {σ : zS} {x y : Int32} (hd : decode M.2.1 pc = .ok (.imul, 1)) (kk : zW X M d bc bs Q (pc + 1) ls (.int (x * y) :: st) σ) : zW X M d bc bs Q pc ls (.int y :: .int x :: st) σ := by
  intro p e s m args below meth c R H locs cells slots r hM hR hc hs hS hP hL
  exact lv_imul hM.1 hM.2.1 hd (kk p e s m args below meth c R H locs cells slots r hM hR hc hs hS hP hL)
theorem zr_iand {X : zX} {M : zMd} {d bc bs : Nat} {Q : zO → zS → Prop} {pc : Nat} {ls : List (Option Value)} {st : List Value} {σ : zS} {x y : Int32} (hd : decode M.2.1 pc = .ok (.iand, 1)) (kk : zW X M d bc bs Q (pc + 1) ls (.int (x &&& y) :: st) σ) : zW X M d bc bs Q pc ls (.int y :: .int x :: st) σ := by
  intro p e s m args below meth c R H locs cells slots r hM hR hc hs hS hP hL
  exact lv_iand hM.1 hM.2.1 hd (kk p e s m args below meth c R H locs cells slots r hM hR hc hs hS hP hL)
theorem zr_ior {X : zX} {M : zMd} {d bc bs : Nat} {Q : zO → zS → Prop} {pc : Nat} {ls : List (Option Value)} {st : List Value} {σ : zS} {x y : Int32} (hd : decode M.2.1 pc = .ok (.ior, 1)) (kk : zW X M d bc bs Q (pc + 1) ls (.int (x ||| y) :: st) σ) : zW X M d bc bs Q pc ls (.int y :: .int x :: st) σ := by
  intro p e s m args below meth c R H locs cells slots r hM hR hc hs hS hP hL
  exact lv_ior hM.1 hM.2.1 hd (kk p e s m args below meth c R H locs cells slots r hM hR hc hs hS hP hL)
theorem zr_ixor {X : zX} {M : zMd} {d bc bs : Nat} {Q : zO → zS → Prop} {pc : Nat} {ls : List (Option Value)} {st : List Value} {σ : zS} {x y : Int32} (hd : decode M.2.1 pc = .ok (.ixor, 1)) (kk : zW X M d bc bs Q (pc + 1) ls (.int (x ^^^ y) :: st) σ) : zW X M d bc bs Q pc ls (.int y :: .int x :: st) σ := by
  intro p e s m args below meth c R H locs cells slots r hM hR hc hs hS hP hL
  exact lv_ixor hM.1 hM.2.1 hd (kk p e s m args below meth c R H locs cells slots r hM hR hc hs hS hP hL)
theorem zr_ishl {X : zX} {M : zMd} {d bc bs : Nat} {Q : zO → zS → Prop} {pc : Nat} {ls : List (Option Value)} {st : List Value} {σ : zS} {x y : Int32} (hd : decode M.2.1 pc = .ok (.ishl, 1)) (kk : zW X M d bc bs Q (pc + 1) ls (.int (x <<< (y &&& 31)) :: st) σ) : zW X M d bc bs Q pc ls (.int y :: .int x :: st) σ := by
  intro p e s m args below meth c R H locs cells slots r hM hR hc hs hS hP hL
  exact lv_ishl hM.1 hM.2.1 hd (kk p e s m args below meth c R H locs cells slots r hM hR hc hs hS hP hL)
theorem zr_ishr {X : zX} {M : zMd} {d bc bs : Nat} {Q : zO → zS → Prop} {pc : Nat} {ls : List (Option Value)} {st : List Value} {σ : zS} {x y : Int32} (hd : decode M.2.1 pc = .ok (.ishr, 1)) (kk : zW X M d bc bs Q (pc + 1) ls (.int (x >>> (y &&& 31)) :: st) σ) : zW X M d bc bs Q pc ls (.int y :: .int x :: st) σ := by
  intro p e s m args below meth c R H locs cells slots r hM hR hc hs hS hP hL
  exact lv_ishr hM.1 hM.2.1 hd (kk p e s m args below meth c R H locs cells slots r hM hR hc hs hS hP hL)
theorem zr_idiv {X : zX} {M : zMd} {d bc bs : Nat} {Q : zO → zS → Prop} {pc : Nat} {ls : List (Option Value)} {st : List Value} {σ : zS} {x y : Int32} (hd : decode M.2.1 pc = .ok (.idiv, 1)) (hne : ¬ y = 0) (kk : zW X M d bc bs Q (pc + 1) ls (.int (x / y) :: st) σ) : zW X M d bc bs Q pc ls (.int y :: .int x :: st) σ := by
  intro p e s m args below meth c R H locs cells slots r hM hR hc hs hS hP hL
  exact lv_idiv hM.1 hM.2.1 hd hne (kk p e s m args below meth c R H locs cells slots r hM hR hc hs hS hP hL)
theorem zr_irem {X : zX} {M : zMd} {d bc bs : Nat} {Q : zO → zS → Prop} {pc : Nat} {ls : List (Option Value)} {st : List Value} {σ : zS} {x y : Int32} (hd : decode M.2.1 pc = .ok (.irem, 1)) (hne : ¬ y = 0) (kk : zW X M d bc bs Q (pc + 1) ls (.int (x - x / y * y) :: st) σ) : zW X M d bc bs Q pc ls (.int y :: .int x :: st) σ := by
  intro p e s m args below meth c R H locs cells slots r hM hR hc hs hS hP hL
  exact lv_irem hM.1 hM.2.1 hd hne (kk p e s m args below meth c R H locs cells slots r hM hR hc hs hS hP hL)
theorem zr_ineg {X : zX} {M : zMd} {d bc bs : Nat} {Q : zO → zS → Prop} {pc : Nat} {ls : List (Option Value)} {st : List Value} {σ : zS} {x : Int32} (hd : decode M.2.1 pc = .ok (.ineg, 1)) (kk : zW X M d bc bs Q (pc + 1) ls (.int (-x) :: st) σ) : zW X M d bc bs Q pc ls (.int x :: st) σ := by
  intro p e s m args below meth c R H locs cells slots r hM hR hc hs hS hP hL
  exact lv_ineg hM.1 hM.2.1 hd (kk p e s m args below meth c R H locs cells slots r hM hR hc hs hS hP hL)
theorem zr_ladd {X : zX} {M : zMd} {d bc bs : Nat} {Q : zO → zS → Prop} {pc : Nat} {ls : List (Option Value)} {st : List Value} {σ : zS} {x y : Int64} (hd : decode M.2.1 pc = .ok (.ladd, 1)) (kk : zW X M d bc bs Q (pc + 1) ls (.long (x + y) :: st) σ) : zW X M d bc bs Q pc ls (.long y :: .long x :: st) σ := by
  intro p e s m args below meth c R H locs cells slots r hM hR hc hs hS hP hL
  exact lv_ladd hM.1 hM.2.1 hd (kk p e s m args below meth c R H locs cells slots r hM hR hc hs hS hP hL)
theorem zr_lsub {X : zX} {M : zMd} {d bc bs : Nat} {Q : zO → zS → Prop} {pc : Nat} {ls : List (Option Value)} {st : List Value} {σ : zS} {x y : Int64} (hd : decode M.2.1 pc = .ok (.lsub, 1)) (kk : zW X M d bc bs Q (pc + 1) ls (.long (x - y) :: st) σ) : zW X M d bc bs Q pc ls (.long y :: .long x :: st) σ := by
  intro p e s m args below meth c R H locs cells slots r hM hR hc hs hS hP hL
  exact lv_lsub hM.1 hM.2.1 hd (kk p e s m args below meth c R H locs cells slots r hM hR hc hs hS hP hL)
theorem zr_lmul {X : zX} {M : zMd} {d bc bs : Nat} {Q : zO → zS → Prop} {pc : Nat} {ls : List (Option Value)} {st : List Value} {σ : zS} {x y : Int64} (hd : decode M.2.1 pc = .ok (.lmul, 1)) (kk : zW X M d bc bs Q (pc + 1) ls (.long (x * y) :: st) σ) : zW X M d bc bs Q pc ls (.long y :: .long x :: st) σ := by
  intro p e s m args below meth c R H locs cells slots r hM hR hc hs hS hP hL
  exact lv_lmul hM.1 hM.2.1 hd (kk p e s m args below meth c R H locs cells slots r hM hR hc hs hS hP hL)
theorem zr_i2l {X : zX} {M : zMd} {d bc bs : Nat} {Q : zO → zS → Prop} {pc : Nat} {ls : List (Option Value)} {st : List Value} {σ : zS} {x : Int32} (hd : decode M.2.1 pc = .ok (.i2l, 1)) (kk : zW X M d bc bs Q (pc + 1) ls (.long x.toInt64 :: st) σ) : zW X M d bc bs Q pc ls (.int x :: st) σ := by
  intro p e s m args below meth c R H locs cells slots r hM hR hc hs hS hP hL
  exact lv_i2l hM.1 hM.2.1 hd rfl (kk p e s m args below meth c R H locs cells slots r hM hR hc hs hS hP hL)
theorem zr_i2c {X : zX} {M : zMd} {d bc bs : Nat} {Q : zO → zS → Prop} {pc : Nat} {ls : List (Option Value)} {st : List Value} {σ : zS} {x : Int32} (hd : decode M.2.1 pc = .ok (.i2c, 1)) (kk : zW X M d bc bs Q (pc + 1) ls (.int (x.toUInt32 % 65536).toInt32 :: st) σ) : zW X M d bc bs Q pc ls (.int x :: st) σ := by
  intro p e s m args below meth c R H locs cells slots r hM hR hc hs hS hP hL
  exact lv_i2c hM.1 hM.2.1 hd rfl (kk p e s m args below meth c R H locs cells slots r hM hR hc hs hS hP hL)
theorem zr_i2f {X : zX} {M : zMd} {d bc bs : Nat} {Q : zO → zS → Prop} {pc : Nat} {ls : List (Option Value)} {st : List Value} {σ : zS} {x : Int32} (hd : decode M.2.1 pc = .ok (.i2f, 1)) (kk : zW X M d bc bs Q (pc + 1) ls (.float (FP.i2f x) :: st) σ) : zW X M d bc bs Q pc ls (.int x :: st) σ := by
  intro p e s m args below meth c R H locs cells slots r hM hR hc hs hS hP hL
  exact lv_i2f hM.1 hM.2.1 hd (kk p e s m args below meth c R H locs cells slots r hM hR hc hs hS hP hL)
theorem zr_i2d {X : zX} {M : zMd} {d bc bs : Nat} {Q : zO → zS → Prop} {pc : Nat} {ls : List (Option Value)} {st : List Value} {σ : zS} {x : Int32} (hd : decode M.2.1 pc = .ok (.i2d, 1)) (kk : zW X M d bc bs Q (pc + 1) ls (.double (FP.i2d x) :: st) σ) : zW X M d bc bs Q pc ls (.int x :: st) σ := by
  intro p e s m args below meth c R H locs cells slots r hM hR hc hs hS hP hL
  exact lv_i2d hM.1 hM.2.1 hd (kk p e s m args below meth c R H locs cells slots r hM hR hc hs hS hP hL)
theorem zr_f2d {X : zX} {M : zMd} {d bc bs : Nat} {Q : zO → zS → Prop} {pc : Nat} {ls : List (Option Value)} {st : List Value} {σ : zS} {x : UInt32} (hd : decode M.2.1 pc = .ok (.f2d, 1)) (hne : vf_n64 (FP.f2d x)) (kk : zW X M d bc bs Q (pc + 1) ls (.double (FP.f2d x) :: st) σ) : zW X M d bc bs Q pc ls (.float x :: st) σ := by
  intro p e s m args below meth c R H locs cells slots r hM hR hc hs hS hP hL
  exact lv_f2d hM.1 hM.2.1 hd hne (kk p e s m args below meth c R H locs cells slots r hM hR hc hs hS hP hL)
theorem zr_fdiv {X : zX} {M : zMd} {d bc bs : Nat} {Q : zO → zS → Prop} {pc : Nat} {ls : List (Option Value)} {st : List Value} {σ : zS} {x y : UInt32} (hd : decode M.2.1 pc = .ok (.fdiv, 1)) (hne : vf_n32 (FP.fdiv x y)) (kk : zW X M d bc bs Q (pc + 1) ls (.float (FP.fdiv x y) :: st) σ) : zW X M d bc bs Q pc ls (.float y :: .float x :: st) σ := by
  intro p e s m args below meth c R H locs cells slots r hM hR hc hs hS hP hL
  exact lv_fdiv hM.1 hM.2.1 hd hne (kk p e s m args below meth c R H locs cells slots r hM hR hc hs hS hP hL)
theorem zr_ddiv {X : zX} {M : zMd} {d bc bs : Nat} {Q : zO → zS → Prop} {pc : Nat} {ls : List (Option Value)} {st : List Value} {σ : zS} {x y : UInt64} (hd : decode M.2.1 pc = .ok (.ddiv, 1)) (hne : vf_n64 (FP.ddiv x y)) (kk : zW X M d bc bs Q (pc + 1) ls (.double (FP.ddiv x y) :: st) σ) : zW X M d bc bs Q pc ls (.double y :: .double x :: st) σ := by
  intro p e s m args below meth c R H locs cells slots r hM hR hc hs hS hP hL
  exact lv_ddiv hM.1 hM.2.1 hd hne (kk p e s m args below meth c R H locs cells slots r hM hR hc hs hS hP hL)
theorem zr_dcmp {X : zX} {M : zMd} {d bc bs : Nat} {Q : zO → zS → Prop} {pc : Nat} {ls : List (Option Value)} {st : List Value} {σ : zS} {x y : UInt64} {op : CmpOp} (hd : decode M.2.1 pc = .ok (.dcmp op, 1)) (kk : zW X M d bc bs Q (pc + 1) ls (.int (Op.cmpValue (FP.dcmp x y) op) :: st) σ) : zW X M d bc bs Q pc ls (.double y :: .double x :: st) σ := by
  intro p e s m args below meth c R H locs cells slots r hM hR hc hs hS hP hL
  exact lv_dcmp hM.1 hM.2.1 hd (kk p e s m args below meth c R H locs cells slots r hM hR hc hs hS hP hL)
theorem zr_fcmp {X : zX} {M : zMd} {d bc bs : Nat} {Q : zO → zS → Prop} {pc : Nat} {ls : List (Option Value)} {st : List Value} {σ : zS} {x y : UInt32} {op : CmpOp} (hd : decode M.2.1 pc = .ok (.fcmp op, 1)) (kk : zW X M d bc bs Q (pc + 1) ls (.int (Op.cmpValue (FP.fcmp x y) op) :: st) σ) : zW X M d bc bs Q pc ls (.float y :: .float x :: st) σ := by
  intro p e s m args below meth c R H locs cells slots r hM hR hc hs hS hP hL
  exact lv_fcmp hM.1 hM.2.1 hd (kk p e s m args below meth c R H locs cells slots r hM hR hc hs hS hP hL)
theorem zr_dup {X : zX} {M : zMd} {d bc bs : Nat} {Q : zO → zS → Prop} {pc : Nat} {ls : List (Option Value)} {st : List Value} {σ : zS} {va : Value} (hd : decode M.2.1 pc = .ok (.dup, 1)) (hc1 : va.category = 1) (kk : zW X M d bc bs Q (pc + 1) ls (va :: va :: st) σ) : zW X M d bc bs Q pc ls (va :: st) σ := by
  intro p e s m args below meth c R H locs cells slots r hM hR hc hs hS hP hL
  exact lv_dup hM.1 hM.2.1 hd hc1 (kk p e s m args below meth c R H locs cells slots r hM hR hc hs hS hP hL)
theorem zr_pop {X : zX} {M : zMd} {d bc bs : Nat} {Q : zO → zS → Prop} {pc : Nat} {ls : List (Option Value)} {st : List Value} {σ : zS} {va : Value} (hd : decode M.2.1 pc = .ok (.pop, 1)) (hc1 : va.category = 1) (kk : zW X M d bc bs Q (pc + 1) ls (st) σ) : zW X M d bc bs Q pc ls (va :: st) σ := by
  intro p e s m args below meth c R H locs cells slots r hM hR hc hs hS hP hL
  exact lv_pop hM.1 hM.2.1 hd hc1 (kk p e s m args below meth c R H locs cells slots r hM hR hc hs hS hP hL)
theorem zr_dup2 {X : zX} {M : zMd} {d bc bs : Nat} {Q : zO → zS → Prop} {pc : Nat} {ls : List (Option Value)} {st : List Value} {σ : zS} {va vb : Value} (hd : decode M.2.1 pc = .ok (.dup2, 1)) (hc1 : va.category = 1) (hc2 : vb.category = 1) (kk : zW X M d bc bs Q (pc + 1) ls (va :: vb :: va :: vb :: st) σ) : zW X M d bc bs Q pc ls (va :: vb :: st) σ := by
  intro p e s m args below meth c R H locs cells slots r hM hR hc hs hS hP hL
  exact lv_dup2_11 hM.1 hM.2.1 hd hc1 hc2 (kk p e s m args below meth c R H locs cells slots r hM hR hc hs hS hP hL)
theorem zr_if_eq {X : zX} {M : zMd} {d bc bs : Nat} {Q : zO → zS → Prop} {pc : Nat} {ls : List (Option Value)} {st : List Value} {σ : zS} {x : Int32} {off : Int} {tgt : Nat} (hd : decode M.2.1 pc = .ok (.ifCond .eq off, 3)) (ht : (pc : Int) + off = (tgt : Int)) (kt : x = 0 → zW X M d bc bs Q tgt ls st σ) (kf : ¬ x = 0 → zW X M d bc bs Q (pc + 3) ls st σ) : zW X M d bc bs Q pc ls (.int x :: st) σ := by
  intro p e s m args below meth c R H locs cells slots r hM hR hc hs hS hP hL
  exact lv_if_eq hM.1 hM.2.1 hd ht (fun h => kt h p e s m args below meth c R H locs cells slots r hM hR hc hs hS hP hL) (fun h => kf h p e s m args below meth c R H locs cells slots r hM hR hc hs hS hP hL)
theorem zr_if_ne {X : zX} {M : zMd} {d bc bs : Nat} {Q : zO → zS → Prop} {pc : Nat} {ls : List (Option Value)} {st : List Value} {σ : zS} {x : Int32} {off : Int} {tgt : Nat} (hd : decode M.2.1 pc = .ok (.ifCond .ne off, 3)) (ht : (pc : Int) + off = (tgt : Int)) (kt : ¬ x = 0 → zW X M d bc bs Q tgt ls st σ) (kf : x = 0 → zW X M d bc bs Q (pc + 3) ls st σ) : zW X M d bc bs Q pc ls (.int x :: st) σ := by
  intro p e s m args below meth c R H locs cells slots r hM hR hc hs hS hP hL
  exact lv_if_ne hM.1 hM.2.1 hd ht (fun h => kt h p e s m args below meth c R H locs cells slots r hM hR hc hs hS hP hL) (fun h => kf h p e s m args below meth c R H locs cells slots r hM hR hc hs hS hP hL)
theorem zr_if_lt {X : zX} {M : zMd} {d bc bs : Nat} {Q : zO → zS → Prop} {pc : Nat} {ls : List (Option Value)} {st : List Value} {σ : zS} {x : Int32} {off : Int} {tgt : Nat} (hd : decode M.2.1 pc = .ok (.ifCond .lt off, 3)) (ht : (pc : Int) + off = (tgt : Int)) (kt : x < 0 → zW X M d bc bs Q tgt ls st σ) (kf : ¬ x < 0 → zW X M d bc bs Q (pc + 3) ls st σ) : zW X M d bc bs Q pc ls (.int x :: st) σ := by
  intro p e s m args below meth c R H locs cells slots r hM hR hc hs hS hP hL
  exact lv_if_lt hM.1 hM.2.1 hd ht (fun h => kt h p e s m args below meth c R H locs cells slots r hM hR hc hs hS hP hL) (fun h => kf h p e s m args below meth c R H locs cells slots r hM hR hc hs hS hP hL)
theorem zr_if_ge {X : zX} {M : zMd} {d bc bs : Nat} {Q : zO → zS → Prop} {pc : Nat} {ls : List (Option Value)} {st : List Value} {σ : zS} {x : Int32} {off : Int} {tgt : Nat} (hd : decode M.2.1 pc = .ok (.ifCond .ge off, 3)) (ht : (pc : Int) + off = (tgt : Int)) (kt : 0 ≤ x → zW X M d bc bs Q tgt ls st σ) (kf : ¬ 0 ≤ x → zW X M d bc bs Q (pc + 3) ls st σ) : zW X M d bc bs Q pc ls (.int x :: st) σ := by
  intro p e s m args below meth c R H locs cells slots r hM hR hc hs hS hP hL
  exact lv_if_ge hM.1 hM.2.1 hd ht (fun h => kt h p e s m args below meth c R H locs cells slots r hM hR hc hs hS hP hL) (fun h => kf h p e s m args below meth c R H locs cells slots r hM hR hc hs hS hP hL)
theorem zr_if_gt {X : zX} {M : zMd} {d bc bs : Nat} {Q : zO → zS → Prop} {pc : Nat} {ls : List (Option Value)} {st : List Value} {σ : zS} {x : Int32} {off : Int} {tgt : Nat} (hd : decode M.2.1 pc = .ok (.ifCond .gt off, 3)) (ht : (pc : Int) + off = (tgt : Int)) (kt : 0 < x → zW X M d bc bs Q tgt ls st σ) (kf : ¬ 0 < x → zW X M d bc bs Q (pc + 3) ls st σ) : zW X M d bc bs Q pc ls (.int x :: st) σ := by
  intro p e s m args below meth c R H locs cells slots r hM hR hc hs hS hP hL
  exact lv_if_gt hM.1 hM.2.1 hd ht (fun h => kt h p e s m args below meth c R H locs cells slots r hM hR hc hs hS hP hL) (fun h => kf h p e s m args below meth c R H locs cells slots r hM hR hc hs hS hP hL)
theorem zr_if_le {X : zX} {M : zMd} {d bc bs : Nat} {Q : zO → zS → Prop} {pc : Nat} {ls : List (Option Value)} {st : List Value} {σ : zS} {x : Int32} {off : Int} {tgt : Nat} (hd : decode M.2.1 pc = .ok (.ifCond .le off, 3)) (ht : (pc : Int) + off = (tgt : Int)) (kt : x ≤ 0 → zW X M d bc bs Q tgt ls st σ) (kf : ¬ x ≤ 0 → zW X M d bc bs Q (pc + 3) ls st σ) : zW X M d bc bs Q pc ls (.int x :: st) σ := by
  intro p e s m args below meth c R H locs cells slots r hM hR hc hs hS hP hL
  exact lv_if_le hM.1 hM.2.1 hd ht (fun h => kt h p e s m args below meth c R H locs cells slots r hM hR hc hs hS hP hL) (fun h => kf h p e s m args below meth c R H locs cells slots r hM hR hc hs hS hP hL)
theorem zr_icmp_eq {X : zX} {M : zMd} {d bc bs : Nat} {Q : zO → zS → Prop} {pc : Nat} {ls : List (Option Value)} {st : List Value} {σ : zS} {x y : Int32} {off : Int} {tgt : Nat} (hd : decode M.2.1 pc = .ok (.if_icmp .eq off, 3)) (ht : (pc : Int) + off = (tgt : Int)) (kt : x = y → zW X M d bc bs Q tgt ls st σ) (kf : ¬ x = y → zW X M d bc bs Q (pc + 3) ls st σ) : zW X M d bc bs Q pc ls (.int y :: .int x :: st) σ := by
  intro p e s m args below meth c R H locs cells slots r hM hR hc hs hS hP hL
  exact lv_icmp_eq hM.1 hM.2.1 hd ht (fun h => kt h p e s m args below meth c R H locs cells slots r hM hR hc hs hS hP hL) (fun h => kf h p e s m args below meth c R H locs cells slots r hM hR hc hs hS hP hL)
theorem zr_icmp_ne {X : zX} {M : zMd} {d bc bs : Nat} {Q : zO → zS → Prop} {pc : Nat} {ls : List (Option Value)} {st : List Value} {σ : zS} {x y : Int32} {off : Int} {tgt : Nat} (hd : decode M.2.1 pc = .ok (.if_icmp .ne off, 3)) (ht : (pc : Int) + off = (tgt : Int)) (kt : ¬ x = y → zW X M d bc bs Q tgt ls st σ) (kf : x = y → zW X M d bc bs Q (pc + 3) ls st σ) : zW X M d bc bs Q pc ls (.int y :: .int x :: st) σ := by
  intro p e s m args below meth c R H locs cells slots r hM hR hc hs hS hP hL
  exact lv_icmp_ne hM.1 hM.2.1 hd ht (fun h => kt h p e s m args below meth c R H locs cells slots r hM hR hc hs hS hP hL) (fun h => kf h p e s m args below meth c R H locs cells slots r hM hR hc hs hS hP hL)
theorem zr_icmp_lt {X : zX} {M : zMd} {d bc bs : Nat} {Q : zO → zS → Prop} {pc : Nat} {ls : List (Option Value)} {st : List Value} {σ : zS} {x y : Int32} {off : Int} {tgt : Nat} (hd : decode M.2.1 pc = .ok (.if_icmp .lt off, 3)) (ht : (pc : Int) + off = (tgt : Int)) (kt : x < y → zW X M d bc bs Q tgt ls st σ) (kf : ¬ x < y → zW X M d bc bs Q (pc + 3) ls st σ) : zW X M d bc bs Q pc ls (.int y :: .int x :: st) σ := by
  intro p e s m args below meth c R H locs cells slots r hM hR hc hs hS hP hL
  exact lv_icmp_lt hM.1 hM.2.1 hd ht (fun h => kt h p e s m args below meth c R H locs cells slots r hM hR hc hs hS hP hL) (fun h => kf h p e s m args below meth c R H locs cells slots r hM hR hc hs hS hP hL)
theorem zr_icmp_ge {X : zX} {M : zMd} {d bc bs : Nat} {Q : zO → zS → Prop} {pc : Nat} {ls : List (Option Value)} {st : List Value} {σ : zS} {x y : Int32} {off : Int} {tgt : Nat} (hd : decode M.2.1 pc = .ok (.if_icmp .ge off, 3)) (ht : (pc : Int) + off = (tgt : Int)) (kt : y ≤ x → zW X M d bc bs Q tgt ls st σ) (kf : ¬ y ≤ x → zW X M d bc bs Q (pc + 3) ls st σ) : zW X M d bc bs Q pc ls (.int y :: .int x :: st) σ := by
  intro p e s m args below meth c R H locs cells slots r hM hR hc hs hS hP hL
  exact lv_icmp_ge hM.1 hM.2.1 hd ht (fun h => kt h p e s m args below meth c R H locs cells slots r hM hR hc hs hS hP hL) (fun h => kf h p e s m args below meth c R H locs cells slots r hM hR hc hs hS hP hL)
theorem zr_icmp_gt {X : zX} {M : zMd} {d bc bs : Nat} {Q : zO → zS → Prop} {pc : Nat} {ls : List (Option Value)} {st : List Value} {σ : zS} {x y : Int32} {off : Int} {tgt : Nat} (hd : decode M.2.1 pc = .ok (.if_icmp .gt off, 3)) (ht : (pc : Int) + off = (tgt : Int)) (kt : y < x → zW X M d bc bs Q tgt ls st σ) (kf : ¬ y < x → zW X M d bc bs Q (pc + 3) ls st σ) : zW X M d bc bs Q pc ls (.int y :: .int x :: st) σ := by
  intro p e s m args below meth c R H locs cells slots r hM hR hc hs hS hP hL
  exact lv_icmp_gt hM.1 hM.2.1 hd ht (fun h => kt h p e s m args below meth c R H locs cells slots r hM hR hc hs hS hP hL) (fun h => kf h p e s m args below meth c R H locs cells slots r hM hR hc hs hS hP hL)
theorem zr_icmp_le {X : zX} {M : zMd} {d bc bs : Nat} {Q : zO → zS → Prop} {pc : Nat} {ls : List (Option Value)} {st : List Value} {σ : zS} {x y : Int32} {off : Int} {tgt : Nat} (hd : decode M.2.1 pc = .ok (.if_icmp .le off, 3)) (ht : (pc : Int) + off = (tgt : Int)) (kt : x ≤ y → zW X M d bc bs Q tgt ls st σ) (kf : ¬ x ≤ y → zW X M d bc bs Q (pc + 3) ls st σ) : zW X M d bc bs Q pc ls (.int y :: .int x :: st) σ := by
  intro p e s m args below meth c R H locs cells slots r hM hR hc hs hS hP hL
  exact lv_icmp_le hM.1 hM.2.1 hd ht (fun h => kt h p e s m args below meth c R H locs cells slots r hM hR hc hs hS hP hL) (fun h => kf h p e s m args below meth c R H locs cells slots r hM hR hc hs hS hP hL)
theorem zr_acmp_eq {X : zX} {M : zMd} {d bc bs : Nat} {Q : zO → zS → Prop} {pc : Nat} {ls : List (Option Value)} {st : List Value} {σ : zS} {x y : Nat} {off : Int} {tgt : Nat} (hd : decode M.2.1 pc = .ok (.if_acmp .eq off, 3)) (ht : (pc : Int) + off = (tgt : Int)) (kt : x = y → zW X M d bc bs Q tgt ls st σ) (kf : ¬ x = y → zW X M d bc bs Q (pc + 3) ls st σ) : zW X M d bc bs Q pc ls (.ref y :: .ref x :: st) σ := by
  intro p e s m args below meth c R H locs cells slots r hM hR hc hs hS hP hL
  exact lv_acmp_eq (rx := some x) (ry := some y) hM.1 hM.2.1 hd ht (fun h => kt (by simpa using h) p e s m args below meth c R H locs cells slots r hM hR hc hs hS hP hL) (fun h => kf (by simpa using h) p e s m args below meth c R H locs cells slots r hM hR hc hs hS hP hL)
theorem zr_acmp_ne {X : zX} {M : zMd} {d bc bs : Nat} {Q : zO → zS → Prop} {pc : Nat} {ls : List (Option Value)} {st : List Value} {σ : zS} {x y : Nat} {off : Int} {tgt : Nat} (hd : decode M.2.1 pc = .ok (.if_acmp .ne off, 3)) (ht : (pc : Int) + off = (tgt : Int)) (kt : ¬ x = y → zW X M d bc bs Q tgt ls st σ) (kf : x = y → zW X M d bc bs Q (pc + 3) ls st σ) : zW X M d bc bs Q pc ls (.ref y :: .ref x :: st) σ := by
  intro p e s m args below meth c R H locs cells slots r hM hR hc hs hS hP hL
  exact lv_acmp_ne (rx := some x) (ry := some y) hM.1 hM.2.1 hd ht (fun h => kt (by simpa using h) p e s m args below meth c R H locs cells slots r hM hR hc hs hS hP hL) (fun h => kf (by simpa using h) p e s m args below meth c R H locs cells slots r hM hR hc hs hS hP hL)
theorem zr_goto {X : zX} {M : zMd} {d bc bs : Nat} {Q : zO → zS → Prop} {pc : Nat} {ls : List (Option Value)} {st : List Value} {σ : zS} {off : Int} {tgt : Nat} (hd : decode M.2.1 pc = .ok (.goto off, 3)) (ht : (pc : Int) + off = (tgt : Int)) (kk : zW X M d bc bs Q tgt ls st σ) : zW X M d bc bs Q pc ls st σ := by
  intro p e s m args below meth c R H locs cells slots r hM hR hc hs hS hP hL
  exact lv_goto hM.1 hM.2.1 hd ht (kk p e s m args below meth c R H locs cells slots r hM hR hc hs hS hP hL)
theorem zr_lcmp {X : zX} {M : zMd} {d bc bs : Nat} {Q : zO → zS → Prop} {pc : Nat} {ls : List (Option Value)} {st : List Value} {σ : zS} {x y : Int64} (hd : decode M.2.1 pc = .ok (.lcmp, 1)) (kk : zW X M d bc bs Q (pc + 1) ls (.int (lg_cmp x y) :: st) σ) : zW X M d bc bs Q pc ls (.long y :: .long x :: st) σ := by
  intro p e s m args below meth c R H locs cells slots r hM hR hc hs hS hP hL
  exact W.lcmp hM.1 hM.2.1 hd (kk p e s m args below meth c R H locs cells slots r hM hR hc hs hS hP hL)
theorem zr_tableOut {X : zX} {M : zMd} {d bc bs : Nat} {Q : zO → zS → Prop} {pc : Nat} {ls : List (Option Value)} {st : List Value} {σ : zS} {dflt lo hi : Int} {offs : Array Int} {len : Nat} {x : Int32} {tgt : Nat} (hd : decode M.2.1 pc = .ok (.tableswitch dflt lo hi offs, len)) (h : x.toInt < lo ∨ hi < x.toInt) (ht : (pc : Int) + dflt = (tgt : Int)) (kk : zW X M d bc bs Q tgt ls st σ) : zW X M d bc bs Q pc ls (.int x :: st) σ := by
  intro p e s m args below meth c R H locs cells slots r hM hR hc hs hS hP hL
  exact lv_tableOut hM.1 hM.2.1 hd h ht (kk p e s m args below meth c R H locs cells slots r hM hR hc hs hS hP hL)
theorem zr_tableIn {X : zX} {M : zMd} {d bc bs : Nat} {Q : zO → zS → Prop} {pc : Nat} {ls : List (Option Value)} {st : List Value} {σ : zS} {dflt lo hi : Int} {offs : Array Int} {len : Nat} {x : Int32} {off : Int} {tgt : Nat} (hd : decode M.2.1 pc = .ok (.tableswitch dflt lo hi offs, len)) (h1 : ¬ x.toInt < lo) (h2 : ¬ hi < x.toInt) (ho : offs[(x.toInt - lo).toNat]? = some off) (ht : (pc : Int) + off = (tgt : Int)) (kk : zW X M d bc bs Q tgt ls st σ) : zW X M d bc bs Q pc ls (.int x :: st) σ := by
  intro p e s m args below meth c R H locs cells slots r hM hR hc hs hS hP hL
  exact lv_tableIn hM.1 hM.2.1 hd h1 h2 ho ht (kk p e s m args below meth c R H locs cells slots r hM hR hc hs hS hP hL)
theorem zr_iaload {X : zX} {M : zMd} {d bc bs : Nat} {Q : zO → zS → Prop} {pc : Nat} {ls : List (Option Value)} {st : List Value} {σ : zS} {a n : Nat} {i : Int32} {f : Nat → Int32} (hd : decode M.2.1 pc = .ok (.iaload, 1)) (hσ : σ.1 a = .inl (0, n, .inl f)) (hi : vp_in i n) (kk : zW X M d bc bs Q (pc + 1) ls (.int (f i.toNatClampNeg) :: st) σ) : zW X M d bc bs Q pc ls (.int i :: .ref a :: st) σ := by
  intro p e s m args below meth c R H locs cells slots r hM hR hc hs hS hP hL
  have h1 := (hP.at hσ (by simp [zN])).2
  exact va_iald (ws := [(a, zc X (.inl (0, n, .inl f)))]) hM.1 hM.2.1 (zM.K hM) (zone h1) 0 0 rfl rfl hi hd (kk p e s m args below meth c R H locs cells slots r hM hR hc hs hS hP hL)
theorem zr_caload {X : zX} {M : zMd} {d bc bs : Nat} {Q : zO → zS → Prop} {pc : Nat} {ls : List (Option Value)} {st : List Value} {σ : zS} {a n : Nat} {i : Int32} {f : Nat → Int32} (hd : decode M.2.1 pc = .ok (.caload, 1)) (hσ : σ.1 a = .inl (1, n, .inl f)) (hi : vp_in i n) (kk : zW X M d bc bs Q (pc + 1) ls (.int (f i.toNatClampNeg) :: st) σ) : zW X M d bc bs Q pc ls (.int i :: .ref a :: st) σ := by
  intro p e s m args below meth c R H locs cells slots r hM hR hc hs hS hP hL
  have h1 := (hP.at hσ (by simp [zN])).2
  exact va_cald (ws := [(a, zc X (.inl (1, n, .inl f)))]) hM.1 hM.2.1 (zM.K hM) (zone h1) 0 1 rfl rfl hi hd (kk p e s m args below meth c R H locs cells slots r hM hR hc hs hS hP hL)
theorem zr_baload {X : zX} {M : zMd} {d bc bs : Nat} {Q : zO → zS → Prop} {pc : Nat} {ls : List (Option Value)} {st : List Value} {σ : zS} {a n : Nat} {i : Int32} {f : Nat → Int32} (hd : decode M.2.1 pc = .ok (.baload, 1)) (hσ : σ.1 a = .inl (2, n, .inl f)) (hi : vp_in i n) (kk : zW X M d bc bs Q (pc + 1) ls (.int (f i.toNatClampNeg) :: st) σ) : zW X M d bc bs Q pc ls (.int i :: .ref a :: st) σ := by
  intro p e s m args below meth c R H locs cells slots r hM hR hc hs hS hP hL
  have h1 := (hP.at hσ (by simp [zN])).2
  exact va_zald (ws := [(a, zc X (.inl (2, n, .inl f)))]) hM.1 hM.2.1 (zM.K hM) (zone h1) 0 2 rfl rfl hi hd (kk p e s m args below meth c R H locs cells slots r hM hR hc hs hS hP hL)
theorem zr_laload {X : zX} {M : zMd} {d bc bs : Nat} {Q : zO → zS → Prop} {pc : Nat} {ls : List (Option Value)} {st : List Value} {σ : zS} {a n : Nat} {i : Int32} {f : Nat → Int64} (hd : decode M.2.1 pc = .ok (.laload, 1)) (hσ : σ.1 a = .inl (3, n, .inr (.inl f))) (hi : vp_in i n) (kk : zW X M d bc bs Q (pc + 1) ls (.long (f i.toNatClampNeg) :: st) σ) : zW X M d bc bs Q pc ls (.int i :: .ref a :: st) σ := by
  intro p e s m args below meth c R H locs cells slots r hM hR hc hs hS hP hL
  have h1 := (hP.at hσ (by simp [zN])).2
  exact va_lald (ws := [(a, zc X (.inl (3, n, .inr (.inl f))))]) hM.1 hM.2.1 (zM.K hM) (zone h1) 0 3 rfl rfl hi hd (kk p e s m args below meth c R H locs cells slots r hM hR hc hs hS hP hL)
theorem zr_daload {X : zX} {M : zMd} {d bc bs : Nat} {Q : zO → zS → Prop} {pc : Nat} {ls : List (Option Value)} {st : List Value} {σ : zS} {a n : Nat} {i : Int32} {f : Nat → UInt64} (hd : decode M.2.1 pc = .ok (.daload, 1)) (hσ : σ.1 a = .inl (4, n, .inr (.inr (.inr (.inl f))))) (hi : vp_in i n) (kk : zW X M d bc bs Q (pc + 1) ls (.double (f i.toNatClampNeg) :: st) σ) : zW X M d bc bs Q pc ls (.int i :: .ref a :: st) σ := by
  intro p e s m args below meth c R H locs cells slots r hM hR hc hs hS hP hL
  have h1 := (hP.at hσ (by simp [zN])).2
  exact va_dald (ws := [(a, zc X (.inl (4, n, .inr (.inr (.inr (.inl f))))))]) hM.1 hM.2.1 (zM.K hM) (zone h1) 0 4 rfl rfl hi hd (kk p e s m args below meth c R H locs cells slots r hM hR hc hs hS hP hL)
theorem zr_aaload5 {X : zX} {M : zMd} {d bc bs : Nat} {Q : zO → zS → Prop} {pc : Nat} {ls : List (Option Value)} {st : List Value} {σ : zS} {a n b : Nat} {i : Int32} {f : Nat → Option Nat} (hd : decode M.2.1 pc = .ok (.aaload, 1)) (hσ : σ.1 a = .inl (5, n, .inr (.inr (.inr (.inr f))))) (hi : vp_in i n) (hb : f i.toNatClampNeg = some b) (kk : zW X M d bc bs Q (pc + 1) ls (.ref b :: st) σ) : zW X M d bc bs Q pc ls (.int i :: .ref a :: st) σ := by
  intro p e s m args below meth c R H locs cells slots r hM hR hc hs hS hP hL
  have h1 := (hP.at hσ (by simp [zN])).2
  refine va_aldq (ws := [(a, zc X (.inl (5, n, .inr (.inr (.inr (.inr f))))))]) hM.1 hM.2.1 (zM.K hM) (zone h1) 0 5 rfl rfl hi hd ?_
  rw [hb]
  exact kk p e s m args below meth c R H locs cells slots r hM hR hc hs hS hP hL
theorem zr_aaload6 {X : zX} {M : zMd} {d bc bs : Nat} {Q : zO → zS → Prop} {pc : Nat} {ls : List (Option Value)} {st : List Value} {σ : zS} {a n b : Nat} {i : Int32} {f : Nat → Option Nat} (hd : decode M.2.1 pc = .ok (.aaload, 1)) (hσ : σ.1 a = .inl (6, n, .inr (.inr (.inr (.inr f))))) (hi : vp_in i n) (hb : f i.toNatClampNeg = some b) (kk : zW X M d bc bs Q (pc + 1) ls (.ref b :: st) σ) : zW X M d bc bs Q pc ls (.int i :: .ref a :: st) σ := by
  intro p e s m args below meth c R H locs cells slots r hM hR hc hs hS hP hL
  have h1 := (hP.at hσ (by simp [zN])).2
  refine va_aldq (ws := [(a, zc X (.inl (6, n, .inr (.inr (.inr (.inr f))))))]) hM.1 hM.2.1 (zM.K hM) (zone h1) 0 6 rfl rfl hi hd ?_
  rw [hb]
  exact kk p e s m args below meth c R H locs cells slots r hM hR hc hs hS hP hL
theorem zr_aaload7 {X : zX} {M : zMd} {d bc bs : Nat} {Q : zO → zS → Prop} {pc : Nat} {ls : List (Option Value)} {st : List Value} {σ : zS} {a n b : Nat} {i : Int32} {f : Nat → Option Nat} (hd : decode M.2.1 pc = .ok (.aaload, 1)) (hσ : σ.1 a = .inl (7, n, .inr (.inr (.inr (.inr f))))) (hi : vp_in i n) (hb : f i.toNatClampNeg = some b) (kk : zW X M d bc bs Q (pc + 1) ls (.ref b :: st) σ) : zW X M d bc bs Q pc ls (.int i :: .ref a :: st) σ := by
  intro p e s m args below meth c R H locs cells slots r hM hR hc hs hS hP hL
  have h1 := (hP.at hσ (by simp [zN])).2
  refine va_aldq (ws := [(a, zc X (.inl (7, n, .inr (.inr (.inr (.inr f))))))]) hM.1 hM.2.1 (zM.K hM) (zone h1) 0 7 rfl rfl hi hd ?_
  rw [hb]
  exact kk p e s m args below meth c R H locs cells slots r hM hR hc hs hS hP hL
theorem zr_iastore {X : zX} {M : zMd} {d bc bs : Nat} {Q : zO → zS → Prop} {pc : Nat} {ls : List (Option Value)} {st : List Value} {σ : zS} {a n : Nat} {i : Int32} {x : Int32} {f : Nat → Int32} (hd : decode M.2.1 pc = .ok (.iastore, 1)) (hσ : σ.1 a = .inl (0, n, .inl f)) (hi : vp_in i n) (kk : zW X M d bc bs Q (pc + 1) ls st (zup σ a (.inl (0, n, .inl (upd f i.toNatClampNeg x))))) : zW X M d bc bs Q pc ls (.int x :: .int i :: .ref a :: st) σ := by
  intro p e s m args below meth c R H locs cells slots r hM hR hc hs hS hP hL
  obtain ⟨hB, h1⟩ := hP.at hσ (by simp [zN])
  refine W.iast hM.1 hM.2.1 h1 (((zM.K hM).2 0 _ rfl).1 n (fun j => .int (f j))) (fun q => by cases q) (by show ¬ (i < 0 ∨ (arrV _ _ _).slots.size ≤ _); rw [arrV_size]; exact hi) rfl rfl hd fun H1 e1 z oq => ?_
  refine kk p e s m args below meth c R H1 _ cells slots r hM hR hc hs (hS.put z oq hB) (hP.put hB z ?_ oq) hL
  show H1[a]? = some (vp_cell _ _)
  rw [e1, vp_cell_i, vp_cell_i, arrV_store]
  congr 2
  funext q
  by_cases hq : q = i.toNatClampNeg
  · subst hq
    simp [updV, upd]
  · simp [updV, upd, hq]
theorem zr_lastore {X : zX} {M : zMd} {d bc bs : Nat} {Q : zO → zS → Prop} {pc : Nat} {ls : List (Option Value)} {st : List Value} {σ : zS} {a n : Nat} {i : Int32} {x : Int64} {f : Nat → Int64} (hd : decode M.2.1 pc = .ok (.lastore, 1)) (hσ : σ.1 a = .inl (3, n, .inr (.inl f))) (hi : vp_in i n) (kk : zW X M d bc bs Q (pc + 1) ls st (zup σ a (.inl (3, n, .inr (.inl (vp_updL f i.toNatClampNeg x)))))) : zW X M d bc bs Q pc ls (.long x :: .int i :: .ref a :: st) σ := by
  intro p e s m args below meth c R H locs cells slots r hM hR hc hs hS hP hL
  obtain ⟨hB, h1⟩ := hP.at hσ (by simp [zN])
  refine W.last hM.1 hM.2.1 h1 (((zM.K hM).2 3 _ rfl).1 n (fun j => .long (f j))) (fun q => by cases q) (by show ¬ (i < 0 ∨ (arrV _ _ _).slots.size ≤ _); rw [arrV_size]; exact hi) rfl rfl hd fun H1 e1 z oq => ?_
  refine kk p e s m args below meth c R H1 _ cells slots r hM hR hc hs (hS.put z oq hB) (hP.put hB z ?_ oq) hL
  show H1[a]? = some (vp_cell _ _)
  rw [e1, vp_cell_l, vp_cell_l, arrV_store]
  congr 2
  funext q
  by_cases hq : q = i.toNatClampNeg
  · subst hq
    simp [updV, vp_updL]
  · simp [updV, vp_updL, hq]
theorem zr_castore {X : zX} {M : zMd} {d bc bs : Nat} {Q : zO → zS → Prop} {pc : Nat} {ls : List (Option Value)} {st : List Value} {σ : zS} {a n : Nat} {i x : Int32} {f : Nat → Int32} (hd : decode M.2.1 pc = .ok (.castore, 1)) (hσ : σ.1 a = .inl (1, n, .inl f)) (hi : vp_in i n) (hx : vp_nar .char x = x) (kk : zW X M d bc bs Q (pc + 1) ls st (zup σ a (.inl (1, n, .inl (upd f i.toNatClampNeg x))))) : zW X M d bc bs Q pc ls (.int x :: .int i :: .ref a :: st) σ := by
  intro p e s m args below meth c R H locs cells slots r hM hR hc hs hS hP hL
  obtain ⟨hB, h1⟩ := hP.at hσ (by simp [zN])
  refine W.cast hM.1 hM.2.1 h1 (((zM.K hM).2 1 _ rfl).1 n (fun j => .int (f j))) (fun q => by cases q) (by show ¬ (i < 0 ∨ (arrV _ _ _).slots.size ≤ _); rw [arrV_size]; exact hi) rfl rfl hd fun H1 e1 z oq => ?_
  refine kk p e s m args below meth c R H1 _ cells slots r hM hR hc hs (hS.put z oq hB) (hP.put hB z ?_ oq) hL
  show H1[a]? = some (vp_cell _ _)
  rw [e1, vp_cell_i, vp_cell_i, arrV_store]
  congr 2
  funext q
  by_cases hq : q = i.toNatClampNeg
  · subst hq
    simp only [updV, upd, if_true]
    rw [show narrow .char (.int x) = .int (vp_nar .char x) from by simp only [vp_nar]; rfl, hx]
  · simp [updV, upd, hq]
theorem zr_bastore {X : zX} {M : zMd} {d bc bs : Nat} {Q : zO → zS → Prop} {pc : Nat} {ls : List (Option Value)} {st : List Value} {σ : zS} {a n : Nat} {i x : Int32} {f : Nat → Int32} (hd : decode M.2.1 pc = .ok (.bastore, 1)) (hσ : σ.1 a = .inl (2, n, .inl f)) (hi : vp_in i n) (hx : vp_nar .boolean x = x) (kk : zW X M d bc bs Q (pc + 1) ls st (zup σ a (.inl (2, n, .inl (upd f i.toNatClampNeg x))))) : zW X M d bc bs Q pc ls (.int x :: .int i :: .ref a :: st) σ := by
  intro p e s m args below meth c R H locs cells slots r hM hR hc hs hS hP hL
  obtain ⟨hB, h1⟩ := hP.at hσ (by simp [zN])
  refine W.zast hM.1 hM.2.1 h1 (((zM.K hM).2 2 _ rfl).1 n (fun j => .int (f j))) (fun q => by cases q) (by show ¬ (i < 0 ∨ (arrV _ _ _).slots.size ≤ _); rw [arrV_size]; exact hi) rfl rfl hd fun H1 e1 z oq => ?_
  refine kk p e s m args below meth c R H1 _ cells slots r hM hR hc hs (hS.put z oq hB) (hP.put hB z ?_ oq) hL
  show H1[a]? = some (vp_cell _ _)
  rw [e1, vp_cell_i, vp_cell_i, arrV_store]
  congr 2
  funext q
  by_cases hq : q = i.toNatClampNeg
  · subst hq
    simp only [updV, upd, if_true]
    rw [show narrow .boolean (.int x) = .int (vp_nar .boolean x) from by simp only [vp_nar]; rfl, hx]
  · simp [updV, upd, hq]
theorem zr_dastore {X : zX} {M : zMd} {d bc bs : Nat} {Q : zO → zS → Prop} {pc : Nat} {ls : List (Option Value)} {st : List Value} {σ : zS} {a n : Nat} {i : Int32} {x : UInt64} {f : Nat → UInt64} (hd : decode M.2.1 pc = .ok (.dastore, 1)) (hσ : σ.1 a = .inl (4, n, .inr (.inr (.inr (.inl f))))) (hi : vp_in i n) (kk : zW X M d bc bs Q (pc + 1) ls st (zup σ a (.inl (4, n, .inr (.inr (.inr (.inl (vf_upd f i.toNatClampNeg x)))))))) : zW X M d bc bs Q pc ls (.double x :: .int i :: .ref a :: st) σ := by
  intro p e s m args below meth c R H locs cells slots r hM hR hc hs hS hP hL
  obtain ⟨hB, h1⟩ := hP.at hσ (by simp [zN])
  refine W.dast hM.1 hM.2.1 h1 (((zM.K hM).2 4 _ rfl).1 n (fun j => .double (f j))) (fun q => by cases q) (by show ¬ (i < 0 ∨ (arrV _ _ _).slots.size ≤ _); rw [arrV_size]; exact hi) rfl rfl hd fun H1 e1 z oq => ?_
  refine kk p e s m args below meth c R H1 _ cells slots r hM hR hc hs (hS.put z oq hB) (hP.put hB z ?_ oq) hL
  show H1[a]? = some (vp_cell _ _)
  rw [e1, vp_cell_d, vp_cell_d, arrV_store]
  congr 2
  funext q
  by_cases hq : q = i.toNatClampNeg
  · subst hq
    simp [updV, vf_upd]
  · simp [updV, vf_upd, hq]
theorem zr_alen {X : zX} {M : zMd} {d bc bs : Nat} {Q : zO → zS → Prop} {pc : Nat} {ls : List (Option Value)} {st : List Value} {σ : zS} {a t : Nat} {x : vp_A} {v : Int32} {ty : FieldType} (hd : decode M.2.1 pc = .ok (.arraylength, 1)) (hσ : σ.1 a = .inl (t, x)) (ht : (ztys X)[t]? = some (zT X t, ty)) (hv : Int32.ofNat x.1 = v) (kk : zW X M d bc bs Q (pc + 1) ls (.int v :: st) σ) : zW X M d bc bs Q pc ls (.ref a :: st) σ := by
  intro p e s m args below meth c R H locs cells slots r hM hR hc hs hS hP hL
  have h1 := (hP.at hσ (by simp [zN])).2
  exact va_alen (ws := [(a, zc X (.inl (t, x)))]) hM.1 hM.2.1 (zM.K hM) (zone h1) 0 t rfl ht hv hd (kk p e s m args below meth c R H locs cells slots r hM hR hc hs hS hP hL)
