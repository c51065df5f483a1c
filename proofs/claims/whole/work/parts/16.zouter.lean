/-! the constants outside: statics, enum constants, texts, the script -/
def zSt (own : String) (idx : Nat) (C n ds : String) : Prop := Cond.fieldLink own idx C n ds ∈ zBig ∨ (own, idx, C, n, ds) ∈ zFN
section ZJ
variable {X : zX} {M M' : zMd} {d bc bs : Nat} {Q : zO → zS → Prop} {pc : Nat} {ls : List (Option Value)} {st : List Value} {σ : zS}
theorem zgets {C n ds : String} {v : Value} {idx : Nat} (hd : decode M.2.1 pc = .ok (.getstatic idx, 3)) (hl : zSt M.1 idx C n ds) (hz : ∀ s : State, zS0 X s s.heap → va_Z C n ds v (zA X) s s.heap) (kk : zW X M d bc bs Q (pc + 3) ls (v :: st) σ) : zW X M d bc bs Q pc ls st σ := by
  intro p e s m args below meth c R H locs cells slots r hM hR hc hs hS hP hL
  have h9 := kk p e s m args below meth c R H locs cells slots r hM hR hc hs hS hP hL
  rcases hl with hl | hl
  · exact va_gets hM.1 hM.2.1 (hz s hM.S) hS hM.own (hM.ws _ hl) (fun _ h => h) hd h9
  · exact va_getsN hM.1 hM.2.1 (hz s hM.S) hS hM.own ((hM.N.1 _ hl).use rfl) (fun _ h => h) hd h9
theorem zr_enum {i idx : Nat} {nm : String} (hd : decode M.2.1 pc = .ok (.getstatic idx, 3)) (hi : i < 7) (hn : zEN.getD i "" = nm) (hl : zSt M.1 idx "BraidCourt$Command" nm "LBraidCourt$Command;") (kk : zW X M d bc bs Q (pc + 3) ls (.ref (zQ X i) :: st) σ) : zW X M d bc bs Q pc ls st σ := by
  subst hn
  exact zgets hd hl (fun s h => (h.2.2.2.1.1 i hi).1) kk
theorem zr_ALL {idx : Nat} (hd : decode M.2.1 pc = .ok (.getstatic idx, 3)) (hl : zSt M.1 idx "BraidCourt$Command" "ALL" "[LBraidCourt$Command;") (kk : zW X M d bc bs Q (pc + 3) ls (.ref (zQ X 35) :: st) σ) : zW X M d bc bs Q pc ls st σ := zgets hd hl (fun s h => h.2.2.2.2.2.1.1) kk
theorem zr_MAP {idx : Nat} (hd : decode M.2.1 pc = .ok (.getstatic idx, 3)) (hl : zSt M.1 idx "BraidCourt$1" "$SwitchMap$BraidCourt$Command" "[I") (kk : zW X M d bc bs Q (pc + 3) ls (.ref (zQ X 36) :: st) σ) : zW X M d bc bs Q pc ls st σ := zgets hd hl (fun s h => h.2.2.2.2.2.1.2.2.1) kk
theorem zr_COMPACT {idx : Nat} (hd : decode M.2.1 pc = .ok (.getstatic idx, 3)) (hl : zSt M.1 idx "java/lang/String" "COMPACT_STRINGS" "Z") (kk : zW X M d bc bs Q (pc + 3) ls (.int 1 :: st) σ) : zW X M d bc bs Q pc ls st σ := zgets hd hl (fun s h => h.2.2.2.2.2.1.2.2.2.2.1) kk
theorem zr_SIOOBE {idx : Nat} (hd : decode M.2.1 pc = .ok (.getstatic idx, 3)) (hl : zSt M.1 idx "jdk/internal/util/Preconditions" "SIOOBE_FORMATTER" "Ljava/util/function/BiFunction;") (kk : ∀ v : Value, v.category = 1 → (v = .null ∨ ∃ a, v = .ref a) → zW X M d bc bs Q (pc + 3) ls (v :: st) σ) : zW X M d bc bs Q pc ls st σ := by
  intro p e s m args below meth c R H locs cells slots r hM hR hc hs hS hP hL
  rcases hM.S.2.2.2.2.2.1.2.2.2.2.2.1 with h | ⟨t, h⟩
  · rcases hl with hl | hl
    · exact va_gets hM.1 hM.2.1 h hS hM.own (hM.ws _ hl) (fun _ h => h) hd (kk _ rfl (Or.inl rfl) p e s m args below meth c R H locs cells slots r hM hR hc hs hS hP hL)
    · exact va_getsN hM.1 hM.2.1 h hS hM.own ((hM.N.1 _ hl).use rfl) (fun _ h => h) hd (kk _ rfl (Or.inl rfl) p e s m args below meth c R H locs cells slots r hM hR hc hs hS hP hL)
  · rcases hl with hl | hl
    · exact va_gets hM.1 hM.2.1 h hS hM.own (hM.ws _ hl) (fun _ h => h) hd (kk _ rfl (Or.inr ⟨t, rfl⟩) p e s m args below meth c R H locs cells slots r hM hR hc hs hS hP hL)
    · exact va_getsN hM.1 hM.2.1 h hS hM.own ((hM.N.1 _ hl).use rfl) (fun _ h => h) hd (kk _ rfl (Or.inr ⟨t, rfl⟩) p e s m args below meth c R H locs cells slots r hM hR hc hs hS hP hL)
/-- a field of an object outside -/
theorem zgetx {C n ds ref : String} {v : Value} {idx a : Nat} (hd : decode M.2.1 pc = .ok (.getfield idx, 3)) (hl : zSt M.1 idx ref n ds) (hz : ∀ s : State, zS0 X s s.heap → va_OF C n ds v a (zA X) s s.heap ∧ ∀ x, s.fieldFound? C n ds = some x → s.fieldFound? ref n ds = some x) (kk : zW X M d bc bs Q (pc + 3) ls (v :: st) σ) : zW X M d bc bs Q pc ls (.ref a :: st) σ := by
  intro p e s m args below meth c R H locs cells slots r hM hR hc hs hS hP hL
  have h9 := kk p e s m args below meth c R H locs cells slots r hM hR hc hs hS hP hL
  obtain ⟨h1, h2⟩ := hz s hM.S
  rcases hl with hl | hl
  · exact vk_getf hM.1 hM.2.1 h1 hS hM.own (hM.ws _ hl) h2 hd h9
  · obtain ⟨cf, kf, fi, f, cell, g1, g2, g3, g4, g5, g6⟩ := h1.kept hS.2.1
    exact va_Wgetf hM.1 hM.2.1 hM.own ((hM.N.1 _ hl).use rfl) (h2 _ g1) g2 g3 g4 (v := v) g5 rfl rfl hd h9
theorem zr_ordinal {i idx : Nat} (hd : decode M.2.1 pc = .ok (.getfield idx, 3)) (hi : i < 7) (hl : zSt M.1 idx "java/lang/Enum" "ordinal" "I") (kk : zW X M d bc bs Q (pc + 3) ls (.int (nI i) :: st) σ) : zW X M d bc bs Q pc ls (.ref (zQ X i) :: st) σ := zgetx hd hl (fun s h => ⟨(h.2.2.2.1.1 i hi).2.2.1, fun _ h => h⟩) kk
theorem zr_takes {i idx : Nat} (hd : decode M.2.1 pc = .ok (.getfield idx, 3)) (hi : i < 7) (hl : zSt M.1 idx "BraidCourt$Command" "takesCase" "Z") (kk : zW X M d bc bs Q (pc + 3) ls (.int (if i = 0 then 0 else 1) :: st) σ) : zW X M d bc bs Q pc ls (.ref (zQ X i) :: st) σ := zgetx hd hl (fun s h => ⟨(h.2.2.2.1.1 i hi).2.2.2.1, fun _ h => h⟩) kk
theorem zr_spelling {i idx : Nat} (hd : decode M.2.1 pc = .ok (.getfield idx, 3)) (hi : i < 7) (hl : zSt M.1 idx "BraidCourt$Command" "spelling" "Ljava/lang/String;") (kk : zW X M d bc bs Q (pc + 3) ls (.ref (zQ X (7 + i)) :: st) σ) : zW X M d bc bs Q pc ls (.ref (zQ X i) :: st) σ := zgetx hd hl (fun s h => ⟨(h.2.2.2.1.1 i hi).2.2.2.2, fun _ h => h⟩) kk
theorem zr_value {i idx : Nat} (hd : decode M.2.1 pc = .ok (.getfield idx, 3)) (hi : i < 14) (hl : zSt M.1 idx "java/lang/String" "value" "[B") (kk : zW X M d bc bs Q (pc + 3) ls (.ref (zQ X (21 + i)) :: st) σ) : zW X M d bc bs Q pc ls (.ref (zQ X (7 + i)) :: st) σ := zgetx hd hl (fun s h => ⟨(h.2.2.2.2.1 i hi).2.2.1, fun _ h => h⟩) kk
theorem zr_coder {i idx : Nat} (hd : decode M.2.1 pc = .ok (.getfield idx, 3)) (hi : i < 14) (hl : zSt M.1 idx "java/lang/String" "coder" "B") (kk : zW X M d bc bs Q (pc + 3) ls (.int 0 :: st) σ) : zW X M d bc bs Q pc ls (.ref (zQ X (7 + i)) :: st) σ := zgetx hd hl (fun s h => ⟨(h.2.2.2.2.1 i hi).2.1, fun _ h => h⟩) kk
/-- the bytes of a text -/
theorem zr_byte {i : Nat} {j : Int32} (hd : decode M.2.1 pc = .ok (.baload, 1)) (hi : i < 14) (hj : vp_in j ((zTX.getD i []).length)) (kk : zW X M d bc bs Q (pc + 1) ls (.int ((zTX.getD i []).getD j.toNatClampNeg 0) :: st) σ) : zW X M d bc bs Q pc ls (.int j :: .ref (zQ X (21 + i)) :: st) σ := by
  intro p e s m args below meth c R H locs cells slots r hM hR hc hs hS hP hL
  exact va_tb hM.1 hM.2.1 (hM.S.2.2.2.2.1 i hi).2.2.2 hS hj rfl hd (kk p e s m args below meth c R H locs cells slots r hM hR hc hs hS hP hL)
theorem zr_bytesLen {i : Nat} {v : Int32} (hd : decode M.2.1 pc = .ok (.arraylength, 1)) (hi : i < 14) (hv : Int32.ofNat ((zTX.getD i []).length) = v) (kk : zW X M d bc bs Q (pc + 1) ls (.int v :: st) σ) : zW X M d bc bs Q pc ls (.ref (zQ X (21 + i)) :: st) σ := by
  intro p e s m args below meth c R H locs cells slots r hM hR hc hs hS hP hL
  exact va_tlen hM.1 hM.2.1 (hM.S.2.2.2.2.1 i hi).2.2.2 hS hv hd (kk p e s m args below meth c R H locs cells slots r hM hR hc hs hS hP hL)
theorem zr_ALLlen (hd : decode M.2.1 pc = .ok (.arraylength, 1)) (kk : zW X M d bc bs Q (pc + 1) ls (.int 7 :: st) σ) : zW X M d bc bs Q pc ls (.ref (zQ X 35) :: st) σ := by
  intro p e s m args below meth c R H locs cells slots r hM hR hc hs hS hP hL
  exact va_tlen hM.1 hM.2.1 hM.S.2.2.2.2.2.1.2.1 hS rfl hd (kk p e s m args below meth c R H locs cells slots r hM hR hc hs hS hP hL)
theorem zr_ALLat {j : Int32} (hd : decode M.2.1 pc = .ok (.aaload, 1)) (hj : vp_in j 7) (kk : zW X M d bc bs Q (pc + 1) ls (.ref (zQ X j.toNatClampNeg) :: st) σ) : zW X M d bc bs Q pc ls (.int j :: .ref (zQ X 35) :: st) σ := by
  intro p e s m args below meth c R H locs cells slots r hM hR hc hs hS hP hL
  obtain ⟨cell, g1, g2, g3, g4, g5, g6, g7⟩ := hM.S.2.2.2.2.2.1.2.1.kept hS.2.1
  have hlt : j.toNatClampNeg < 7 := Nat.not_le.mp fun q => hj (Or.inr q)
  exact W.aald hM.1 hM.2.1 g1 g2 rfl g3 (fun q => hj (q.imp id (fun h => Nat.le_trans g4 h))) (g6 _ hlt) rfl rfl hd (kk p e s m args below meth c R H locs cells slots r hM hR hc hs hS hP hL)
theorem zr_MAPat {j v : Int32} (hd : decode M.2.1 pc = .ok (.iaload, 1)) (hj : vp_in j 7) (hv : zSW.getD j.toNatClampNeg 0 = v) (kk : zW X M d bc bs Q (pc + 1) ls (.int v :: st) σ) : zW X M d bc bs Q pc ls (.int j :: .ref (zQ X 36) :: st) σ := by
  intro p e s m args below meth c R H locs cells slots r hM hR hc hs hS hP hL
  subst hv
  exact va_ti hM.1 hM.2.1 hM.S.2.2.2.2.2.1.2.2.2.1 hS hj rfl hd (kk p e s m args below meth c R H locs cells slots r hM hR hc hs hS hP hL)
/-- the script -/
theorem zr_sat {j : Int32} (hd : decode M.2.1 pc = .ok (.iaload, 1)) (hj : vp_in j X.2.2.2.2.2.1) (kk : zW X M d bc bs Q (pc + 1) ls (.int (X.2.2.2.2.2.2 j.toNatClampNeg) :: st) σ) : zW X M d bc bs Q pc ls (.int j :: .ref (zQ X 37) :: st) σ := by
  intro p e s m args below meth c R H locs cells slots r hM hR hc hs hS hP hL
  obtain ⟨-, -, -, -, -, -, -, -, g9, g10, g11⟩ := hM.S.2.2.2.2.2.1
  exact va_sld hM.1 hM.2.1 g9 g11 g10 hS hj hd (kk p e s m args below meth c R H locs cells slots r hM hR hc hs hS hP hL)
theorem zr_slen (hd : decode M.2.1 pc = .ok (.arraylength, 1)) (kk : zW X M d bc bs Q (pc + 1) ls (.int (Int32.ofNat X.2.2.2.2.2.1) :: st) σ) : zW X M d bc bs Q pc ls (.ref (zQ X 37) :: st) σ := by
  intro p e s m args below meth c R H locs cells slots r hM hR hc hs hS hP hL
  obtain ⟨-, -, -, -, -, -, -, -, g9, g10, g11⟩ := hM.S.2.2.2.2.2.1
  exact va_slen hM.1 hM.2.1 g9 g11 g10 hS hd (kk p e s m args below meth c R H locs cells slots r hM hR hc hs hS hP hL)
/-- texts of the reference -/
theorem zr_ldcM {i idx : Nat} {tx : String} (hd : decode M.2.1 pc = .ok (.ldc_w idx, 3)) (ho : M.1 = "BraidCourtModel") (hi : (idx, tx, i) ∈ zSM) (kk : zW X M d bc bs Q (pc + 3) ls (.ref (zQ X (14 + i)) :: st) σ) : zW X M d bc bs Q pc ls st σ := by
  intro p e s m args below meth c R H locs cells slots r hM hR hc hs hS hP hL
  have h1 := hM.S.2.2.1 _ hi
  intro T hT X9
  obtain ⟨t, a1, b1⟩ := kk p e s m args below meth c R H locs cells slots r hM hR hc hs hS hP hL T hT X9
  exact ⟨t, X9.ldcStringW hM.1 (own := "BraidCourtModel") (ho ▸ hM.own) (text := tx) (a := zQ X (14 + i)) h1.1 h1.2 (g := F0 m pc r st) rfl (by rw [hM.2.1]; exact hd) t a1, b1⟩
theorem zr_ldcM2 {i idx : Nat} {tx : String} (hd : decode M.2.1 pc = .ok (.ldc idx, 2)) (ho : M.1 = "BraidCourtModel") (hi : (idx, tx, i) ∈ zSM) (kk : zW X M d bc bs Q (pc + 2) ls (.ref (zQ X (14 + i)) :: st) σ) : zW X M d bc bs Q pc ls st σ := by
  intro p e s m args below meth c R H locs cells slots r hM hR hc hs hS hP hL
  have h1 := hM.S.2.2.1 _ hi
  exact va_ldcS hM.1 hM.2.1 (ho ▸ hM.own) h1 hd (kk p e s m args below meth c R H locs cells slots r hM hR hc hs hS hP hL)
theorem zr_ldcI {idx : Nat} {v : Int32} (hd : decode M.2.1 pc = .ok (.ldc idx, 2)) (hk : Cond.constant M.1 idx v ∈ zBig) (kk : zW X M d bc bs Q (pc + 2) ls (.int v :: st) σ) : zW X M d bc bs Q pc ls st σ := by
  intro p e s m args below meth c R H locs cells slots r hM hR hc hs hS hP hL
  exact lv_ldc hM.1 hM.2.1 hM.own (hM.ws _ hk) hd (kk p e s m args below meth c R H locs cells slots r hM hR hc hs hS hP hL)
end ZJ
