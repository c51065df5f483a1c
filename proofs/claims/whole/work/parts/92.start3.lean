/-- the law's end, as the claim wants it: nothing that was there before is written -/
theorem zWend {X : zX} {p : Program} {l : Launch} {e : Env} {s : State} {m : MethodId} {below : List Frame} {meth : Method} {c : Code} {b : Nat} {H : Heap} {g : JFrame} (hB : zB X = s.heap.size) (k : W p l e room_1 s m #[Value.ref b] below meth c H [] 0 0 (vx_MQ below (zQc X zQl) (zXC X zQl) #[Value.ref b] s 603072 7215210 (zA X)) g) : W p l e room_1 s m #[Value.ref b] below meth c H [] 0 0 (lw_Z below #[Value.ref b] s) g := by
  intro T hT X9
  obtain ⟨t, a1, o, b1, b2, b3⟩ := k T hT X9
  refine ⟨t, a1, o, b1, b2, ?_⟩
  rcases b3 with ⟨⟨v, σ, ho, hq, -, -⟩, L, ⟨hv, hW, hs⟩, hf⟩ | ⟨q, -, E, ce, L, ⟨σ, hq, -⟩, -⟩
  · have hv1 : v = some (.int 1) := Sum.inl.inj hq
    subst hv1
    subst ho
    exact ⟨rfl, lw_closed (d0 := s.drawn) (fun _ => ⟨Nat.le_refl _, fun _ => rfl⟩) ⟨_, rfl⟩ hW (State.sameButNew.drop_fresh (L := []) (J := L) hs (fun x hx => hB ▸ hf x hx))⟩
  · exact nomatch (show (Sum.inr E : zO) = Sum.inl (some (.int 1)) from hq)
theorem whole_start {p : Program} {e : Env} {s : State} {m : MethodId} {below : List Frame} {meth : Method} {c : Code} (l : Launch) (hflags : l.flags = flags0) {b L : Nat} {xs : Nat → Int32} (hL : L ≤ 2048) (hT : c.exceptionTable.toList = []) (C0 : lw_At p s m meth c b L xs) : W p l e room_1 s m #[Value.ref b] below meth c s.heap [] 0 0 (lw_Z below #[Value.ref b] s) (entryFrame m ([Value.ref b] : List Value).toArray 9) := by
  obtain ⟨hx, hb, hr, hml, hown, hts, hX, hbl, hlk, hgv⟩ := C0
  obtain ⟨X, rfl, hB, hQ, hsL, hS0⟩ := zS0_of l hts (flat_of_before _ hgv) hX hbl
  have hst : X.1.stackTraces = false := by unfold Launch.stackTraces; rw [hflags]; decide
  rw [lg_entry_eq]
  refine zWend hB ?_
  refine (law_body (X := X) hst (σ := (fun _ => zN, some s.heap.size)) (x := s.heap.size) (k := 512) hS0.2.2.2.1.2 (by rw [hsL]; exact hL) (by rw [hsL]; omega) rfl) p e s m #[Value.ref b] below meth c room_1 s.heap [] 0 0 _ ⟨hx, hb, hml, hr, hlk, hown, fun w h => hts w (List.mem_filter.mp h).1, hS0, (fun h => by cases h), hst, hT⟩ ⟨by decide, by decide⟩ (by decide) (by decide) va_S.rf ⟨Nat.le_of_eq hB, fun _ _ => Or.inl rfl, fun _ _ => rfl, fun h hh => Option.some.inj hh⟩ (zargs_L (lv_entry [Value.ref b] (Nat.le_of_ble_eq_true rfl)) ?_)
  rw [hQ]
  rfl
