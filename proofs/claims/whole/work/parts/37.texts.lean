theorem zr_aastE {X : zX} {M : zMd} {d bc bs : Nat} {Q : zO → zS → Prop} {pc : Nat} {ls : List (Option Value)} {st : List Value} {σ : zS} {a n k : Nat} {i : Int32} {f : Nat → Option Nat} (hd : decode M.2.1 pc = .ok (.aastore, 1)) (hσ : σ.1 a = .inl (7, n, .inr (.inr (.inr (.inr f))))) (hi : vp_in i n) (hk : k < 7) (kk : zW X M d bc bs Q (pc + 1) ls st (zup σ a (.inl (7, n, .inr (.inr (.inr (.inr (va_up f i.toNatClampNeg (some (zQ X k))))))))))  : zW X M d bc bs Q pc ls (.ref (zQ X k) :: .int i :: .ref a :: st) σ := by
  intro p e s m args below meth c R H locs cells slots r hM hR hc hs hS hP hL
  obtain ⟨hB, h1⟩ := hP.at hσ (by simp [zN])
  have hlt : i.toNatClampNeg < n := Nat.not_le.mp fun q => hi (Or.inr q)
  have h0 : ¬ i < 0 := fun q => hi (Or.inl q)
  obtain ⟨cellV, g1, g3, g2, -⟩ := (hM.S.2.2.2.1.1 k hk).2.1.kept hS.2.1
  obtain ⟨kA, comp, k1, k2, k3, -⟩ := ((zM.K hM).2 7 _ rfl).2
  obtain ⟨kE, hkE, -⟩ := Vm.findClass_spec k3
  obtain ⟨kC, hkC, -⟩ := Vm.findClass_spec g2
  refine W.aast hM.1 hM.2.1 h1 (fun q h => by cases h) (fun h => by cases h) k1 k2 rfl hkE ⟨h0, by show _ < (arrV _ _ _).slots.size; rw [arrV_size]; exact hlt⟩ g1 (fun q h => by rw [h] at g3; cases g3) hkC (vb_asgS _ _ k3 g2) rfl rfl hd fun H1 e1 z oq => ?_
  refine kk p e s m args below meth c R H1 _ cells slots r hM hR hc hs (hS.put z oq hB) (hP.put hB z ?_ oq) hL
  show H1[a]? = some (vp_cell _ _)
  rw [e1]
  rw [vp_cell_q, vp_cell_q, arrV_store]
  congr 2
  funext q
  by_cases hq : q = i.toNatClampNeg
  · subst hq
    simp [updV, va_up, va_rf]
  · simp [updV, va_up, hq]
theorem zr_aastO {X : zX} {M : zMd} {d bc bs : Nat} {Q : zO → zS → Prop} {pc : Nat} {ls : List (Option Value)} {st : List Value} {σ : zS} {a n t ci v : Nat} {i : Int32} {f : Nat → Option Nat} {vs : List Value} {rc : vw_C} (hd : decode M.2.1 pc = .ok (.aastore, 1)) (hσ : σ.1 a = .inl (t, n, .inr (.inr (.inr (.inr f))))) (hi : vp_in i n) (hv : σ.1 v = .inr (ci, vs)) (h99 : ci ≠ 99) (hcl : zcl[ci]? = some rc) (ht : (ztys X)[t]? = some (zT X t, .object rc.1)) (kk : zW X M d bc bs Q (pc + 1) ls st (zup σ a (.inl (t, n, .inr (.inr (.inr (.inr (va_up f i.toNatClampNeg (some v)))))))))  : zW X M d bc bs Q pc ls (.ref v :: .int i :: .ref a :: st) σ := by
  intro p e s m args below meth c R H locs cells slots r hM hR hc hs hS hP hL
  obtain ⟨hB, h1⟩ := hP.at hσ (by simp [zN])
  have hlt : i.toNatClampNeg < n := Nat.not_le.mp fun q => hi (Or.inr q)
  have h0 : ¬ i < 0 := fun q => hi (Or.inl q)
  have h2 := (hP.at hv (fun q => h99 (by injection q with q; injection q))).2
  obtain ⟨r', hr', cellV, g1, g2, g3, -⟩ := h2
  have hcls := ((zM.K hM).1 ci rc hcl).2
  obtain ⟨kA, comp, k1, k2, k3, -⟩ := ((zM.K hM).2 t _ ht).2
  have hcomp : comp = (zD X).1 ci := Option.some.inj (k3.symm.trans hcls.1)
  subst hcomp
  obtain ⟨kC, hkC, -⟩ := hcls.2
  refine W.aast hM.1 hM.2.1 h1 (fun q h => by cases h) (fun h => by cases h) k1 k2 rfl hkC ⟨h0, by show _ < (arrV _ _ _).slots.size; rw [arrV_size]; exact hlt⟩ g1 (fun q h => by rw [g3] at h; cases h) (by rw [g2]; exact hkC) (by rw [g2]; exact va_assign hcls) rfl rfl hd fun H1 e1 z oq => ?_
  refine kk p e s m args below meth c R H1 _ cells slots r hM hR hc hs (hS.put z oq hB) (hP.put hB z ?_ oq) hL
  show H1[a]? = some (vp_cell _ _)
  rw [e1]
  rw [vp_cell_q, vp_cell_q, arrV_store]
  congr 2
  funext q
  by_cases hq : q = i.toNatClampNeg
  · subst hq
    simp [updV, va_up, va_rf]
  · simp [updV, va_up, hq]
theorem tx_l61 : Cond.methodLink RX7 61 yJ0_length_8abf5 ∈ zBig := zin 1142 (by decide +kernel) (by decide +kernel)
theorem tx_l76 : Cond.methodLink RX7 76 yJ0_charAt_5068e ∈ zBig := zin 1152 (by decide +kernel) (by decide +kernel)
theorem tx_l335 : Cond.methodLink RJ0 335 yJ0_coder_7d493 ∈ zBig := zin 1146 (by decide +kernel) (by decide +kernel)
theorem tx_l492 : Cond.methodLink RJ0 492 yJ0_isLatin1_aae02 ∈ zBig := zin 1156 (by decide +kernel) (by decide +kernel)
theorem tx_l237 : Cond.methodLink RX10 237 yJ0_length_8abf5 ∈ zBig := zin 1747 (by decide +kernel) (by decide +kernel)
theorem tx_l241 : Cond.methodLink RX10 241 yJ0_charAt_5068e ∈ zBig := zin 1748 (by decide +kernel) (by decide +kernel)
set_option maxHeartbeats 400000 in
set_option maxRecDepth 100000 in
theorem qJ0_coder_7d493 {X : zX} (hX : X.1.stackTraces = false) (σ : zS) {i : Nat} (hi : i < 14) : zMet X mJ0_coder_7d493 yJ0_coder_7d493 0 0 0 [.ref (zQ X (7 + i))] σ (zI (fun y_ s_ => y_ = 0 ∧ s_ = σ)) := by
  refine zMet_of (ls := [some (.ref (zQ X (7 + i)))]) rfl (by decide +kernel) rfl (fun h => by cases h) hX (Nat.le_of_ble_eq_true rfl) rfl ?_
  refine zr_COMPACT dJ0_coder_7d493_0 fJ0_38 ?_
  refine zr_if_eq (tgt := 13) dJ0_coder_7d493_3 (by decide) (fun c => absurd c (by decide)) (fun _ => ?_)
  refine zr_aload_n dJ0_coder_7d493_6 rfl ?_
  refine zr_coder dJ0_coder_7d493_7 hi fJ0_15 ?_
  refine zr_goto (tgt := 14) dJ0_coder_7d493_10 (by decide) ?_
  exact zr_ireturn dJ0_coder_7d493_14 rfl rfl ⟨_, rfl, rfl, rfl⟩
set_option maxHeartbeats 400000 in
set_option maxRecDepth 100000 in
theorem qJ0_isLatin1_aae02 {X : zX} (hX : X.1.stackTraces = false) (σ : zS) {i : Nat} (hi : i < 14) : zMet X mJ0_isLatin1_aae02 yJ0_isLatin1_aae02 0 0 0 [.ref (zQ X (7 + i))] σ (zI (fun y_ s_ => y_ = 1 ∧ s_ = σ)) := by
  refine zMet_of (ls := [some (.ref (zQ X (7 + i)))]) rfl (by decide +kernel) rfl (fun h => by cases h) hX (Nat.le_of_ble_eq_true rfl) rfl ?_
  refine zr_COMPACT dJ0_isLatin1_aae02_0 fJ0_38 ?_
  refine zr_if_eq (tgt := 17) dJ0_isLatin1_aae02_3 (by decide) (fun c => absurd c (by decide)) (fun _ => ?_)
  refine zr_aload_n dJ0_isLatin1_aae02_6 rfl ?_
  refine zr_coder dJ0_isLatin1_aae02_7 hi fJ0_15 ?_
  refine zr_if_ne (tgt := 17) dJ0_isLatin1_aae02_10 (by decide) (fun c => absurd rfl c) (fun _ => ?_)
  refine zr_iconst (v := 1) dJ0_isLatin1_aae02_13 (by decide) ?_
  refine zr_goto (tgt := 18) dJ0_isLatin1_aae02_14 (by decide) ?_
  exact zr_ireturn dJ0_isLatin1_aae02_18 rfl rfl ⟨_, rfl, rfl, rfl⟩
theorem zTX_len {i : Nat} (hi : i < 14) : (zTX.getD i []).length < 2 ^ 31 := by
  have : i = 0 ∨ i = 1 ∨ i = 2 ∨ i = 3 ∨ i = 4 ∨ i = 5 ∨ i = 6 ∨ i = 7 ∨ i = 8 ∨ i = 9 ∨ i = 10 ∨ i = 11 ∨ i = 12 ∨ i = 13 := by omega
  rcases this with rfl | rfl | rfl | rfl | rfl | rfl | rfl | rfl | rfl | rfl | rfl | rfl | rfl | rfl <;> decide
theorem zTX_ch : ∀ i, i < 14 → ∀ x ∈ zTX.getD i [], (x &&& 255).toUInt32 % 65536 = x.toUInt32 ∧ x.toUInt32.toInt32 = x := by decide +kernel
def zTXn (i : Nat) : Nat := (zTX.getD i []).length
def zTXc (i j : Nat) : Int32 := (zTX.getD i []).getD j 0
set_option maxHeartbeats 400000 in
set_option maxRecDepth 100000 in
theorem qJ0_length_8abf5 {X : zX} (hX : X.1.stackTraces = false) (σ : zS) {i : Nat} (hi : i < 14) : zMet X mJ0_length_8abf5 yJ0_length_8abf5 1 0 0 [.ref (zQ X (7 + i))] σ (zI (fun y_ s_ => y_ = nI (zTXn i) ∧ s_ = σ)) := by
  refine zMet_of (ls := [some (.ref (zQ X (7 + i)))]) rfl (by decide +kernel) rfl (fun h => by cases h) hX (Nat.le_of_ble_eq_true rfl) rfl ?_
  refine zr_aload_n dJ0_length_8abf5_0 rfl ?_
  refine zr_value dJ0_length_8abf5_1 hi fJ0_9 ?_
  refine zr_bytesLen (v := nI (zTXn i)) dJ0_length_8abf5_4 hi rfl ?_
  refine zr_aload_n dJ0_length_8abf5_5 rfl ?_
  refine zr_callT (vs := []) [.int (nI (zTXn i))] dJ0_length_8abf5_6 kJ0_coder_7d493 tx_l335 iJ0_coder_7d493 sJ0_coder_7d493 rfl hi (qJ0_coder_7d493 hX σ hi) (by decide) rfl rfl (Nat.le_of_ble_eq_true rfl) rfl (fun r_ s_ h_ => ?_)
  obtain ⟨e1, e2⟩ := h_
  rw [e1, e2]
  refine zr_ishr dJ0_length_8abf5_9 ?_
  exact zr_ireturn dJ0_length_8abf5_10 rfl rfl ⟨_, rfl, (pk_shrN (zTX_len hi) _ 0 (by decide)).trans (by rw [Nat.pow_zero, Nat.div_one]; rfl), rfl⟩
set_option maxHeartbeats 400000 in
set_option maxRecDepth 100000 in
theorem qJ3_checkIndex_8e157 {X : zX} (hX : X.1.stackTraces = false) (σ : zS) {j n : Nat} {v : Value} (hj : j < n) (hn : n < 2 ^ 31) (hv : v = .null ∨ ∃ a, v = .ref a) : zMet X mJ3_checkIndex_8e157 yJ3_checkIndex_8e157 0 0 0 [.int (nI j), .int (nI n), v] σ (zI (fun y_ s_ => y_ = nI j ∧ s_ = σ)) := by
  have hcat : v.category = 1 := by rcases hv with rfl | ⟨a, rfl⟩ <;> rfl
  refine zMet_of (ls := [some (.int (nI j)), some (.int (nI n)), some (v)]) rfl (by decide +kernel) rfl (fun h => by cases h) hX (by rcases hv with rfl | ⟨a, rfl⟩ <;> exact Nat.le_of_ble_eq_true rfl) (by rcases hv with rfl | ⟨a, rfl⟩ <;> rfl) ?_
  refine zr_iload_n dJ3_checkIndex_8e157_0 rfl ?_
  refine zr_if_lt (tgt := 9) dJ3_checkIndex_8e157_1 (by decide) (fun c => absurd c (nI_pos (by omega))) (fun _ => ?_)
  refine zr_iload_n dJ3_checkIndex_8e157_4 rfl ?_
  refine zr_iload_n dJ3_checkIndex_8e157_5 rfl ?_
  refine zr_icmp_lt (tgt := 16) dJ3_checkIndex_8e157_6 (by decide) (fun _ => ?_) (fun c => absurd ((nI_ltI (by omega) (by omega)).mpr hj) c)
  refine zr_iload_n dJ3_checkIndex_8e157_16 rfl ?_
  exact zr_ireturn dJ3_checkIndex_8e157_17 rfl rfl ⟨_, rfl, rfl, rfl⟩
set_option maxHeartbeats 400000 in
set_option maxRecDepth 100000 in
theorem qJ0_checkIndex_df160 {X : zX} (hX : X.1.stackTraces = false) (σ : zS) {j n : Nat} (hj : j < n) (hn : n < 2 ^ 31) : zMet X mJ0_checkIndex_df160 yJ0_checkIndex_df160 1 0 0 [.int (nI j), .int (nI n)] σ (zV (fun s_ => s_ = σ)) := by
  refine zMet_of (ls := [some (.int (nI j)), some (.int (nI n))]) rfl (by decide +kernel) rfl (fun h => by cases h) hX (Nat.le_of_ble_eq_true rfl) rfl ?_
  refine zr_iload_n dJ0_checkIndex_df160_0 rfl ?_
  refine zr_iload_n dJ0_checkIndex_df160_1 rfl ?_
  refine zr_SIOOBE dJ0_checkIndex_df160_2 fJ0_1053 (fun v hc hv => ?_)
  refine zr_pSi [] dJ0_checkIndex_df160_5 vJ0_1059 (qJ3_checkIndex_8e157 hX σ hj hn hv) (by decide) (by decide) (by decide) rfl rfl (Nat.le_of_ble_eq_true rfl) rfl ?_
  refine zr_pop dJ0_checkIndex_df160_8 rfl ?_
  exact zr_return dJ0_checkIndex_df160_9 rfl ⟨rfl, rfl⟩
theorem zTXc_mem {i j : Nat} (hj : j < zTXn i) : zTXc i j ∈ zTX.getD i [] := by
  unfold zTXn at hj
  unfold zTXc
  generalize zTX.getD i [] = L at hj ⊢
  rw [List.getD_eq_getElem?_getD, List.getElem?_eq_getElem hj]
  exact List.getElem_mem hj
theorem zTXc_eq {i j : Nat} (hi : i < 14) (hj : j < zTXn i) : ((((zTX.getD i []).getD j 0) &&& 255).toUInt32 % 65536).toInt32 = zTXc i j := by
  obtain ⟨h1, h2⟩ := zTX_ch i hi _ (zTXc_mem hj)
  unfold zTXc at h1 h2 ⊢
  rw [h1, h2]
theorem zTXc_nar {i j : Nat} (hi : i < 14) (hj : j < zTXn i) : narrow .char (.int (zTXc i j)) = .int (zTXc i j) := by
  rw [← zTXc_eq hi hj]; exact pk_nc _
set_option maxHeartbeats 400000 in
set_option maxRecDepth 100000 in
theorem qJ1_charAt_3b067 {X : zX} (hX : X.1.stackTraces = false) (σ : zS) {i j : Nat} (hi : i < 14) (hj : j < zTXn i) : zMet X mJ1_charAt_3b067 yJ1_charAt_3b067 2 0 0 [.ref (zQ X (21 + i)), .int (nI j)] σ (zI (fun y_ s_ => y_ = zTXc i j ∧ s_ = σ)) := by
  refine zMet_of (ls := [some (.ref (zQ X (21 + i))), some (.int (nI j))]) rfl (by decide +kernel) rfl (fun h => by cases h) hX (Nat.le_of_ble_eq_true rfl) rfl ?_
  refine zr_iload_n dJ1_charAt_3b067_0 rfl ?_
  refine zr_aload_n dJ1_charAt_3b067_1 rfl ?_
  refine zr_bytesLen (v := nI (zTXn i)) dJ1_charAt_3b067_2 hi rfl ?_
  refine zr_callSv [] dJ1_charAt_3b067_3 vJ1_9 (qJ0_checkIndex_df160 hX σ hj (zTX_len hi)) (by decide) (by decide) (by decide) rfl rfl (Nat.le_of_ble_eq_true rfl) rfl (fun s_ h_ => ?_)
  rw [h_]
  refine zr_aload_n dJ1_charAt_3b067_6 rfl ?_
  refine zr_iload_n dJ1_charAt_3b067_7 rfl ?_
  refine zr_byte dJ1_charAt_3b067_8 hi (vp_in_nI hj (zTX_len hi)) ?_
  rw [nI_clamp (Nat.lt_trans hj (zTX_len hi))]
  refine zr_sipush (v := 255) dJ1_charAt_3b067_9 (by decide) ?_
  refine zr_iand dJ1_charAt_3b067_12 ?_
  refine zr_i2c dJ1_charAt_3b067_13 ?_
  refine zr_eqi (x' := zTXc i j) (zTXc_eq hi hj) ?_
  exact zr_ireturn dJ1_charAt_3b067_14 rfl (zTXc_nar hi hj) ⟨_, rfl, rfl, rfl⟩
set_option maxHeartbeats 400000 in
set_option maxRecDepth 100000 in
theorem qJ0_charAt_5068e {X : zX} (hX : X.1.stackTraces = false) (σ : zS) {i j : Nat} (hi : i < 14) (hj : j < zTXn i) : zMet X mJ0_charAt_5068e yJ0_charAt_5068e 3 0 0 [.ref (zQ X (7 + i)), .int (nI j)] σ (zI (fun y_ s_ => y_ = zTXc i j ∧ s_ = σ)) := by
  refine zMet_of (ls := [some (.ref (zQ X (7 + i))), some (.int (nI j))]) rfl (by decide +kernel) rfl (fun h => by cases h) hX (Nat.le_of_ble_eq_true rfl) rfl ?_
  refine zr_aload_n dJ0_charAt_5068e_0 rfl ?_
  refine zr_callT (vs := []) [] dJ0_charAt_5068e_1 kJ0_isLatin1_aae02 tx_l492 iJ0_isLatin1_aae02 sJ0_isLatin1_aae02 rfl hi (qJ0_isLatin1_aae02 hX σ hi) (by decide) rfl rfl (Nat.le_of_ble_eq_true rfl) rfl (fun r_ s_ h_ => ?_)
  obtain ⟨e1, e2⟩ := h_
  rw [e1, e2]
  refine zr_if_eq (tgt := 16) dJ0_charAt_5068e_4 (by decide) (fun c => absurd c (by decide)) (fun _ => ?_)
  refine zr_aload_n dJ0_charAt_5068e_7 rfl ?_
  refine zr_value dJ0_charAt_5068e_8 hi fJ0_9 ?_
  refine zr_iload_n dJ0_charAt_5068e_11 rfl ?_
  refine zr_pSi [] dJ0_charAt_5068e_12 vJ0_495 (qJ1_charAt_3b067 hX σ hi hj) (by decide) (by decide) (by decide) rfl rfl (Nat.le_of_ble_eq_true rfl) rfl ?_
  exact zr_ireturn dJ0_charAt_5068e_15 rfl (zTXc_nar hi hj) ⟨_, rfl, rfl, rfl⟩
