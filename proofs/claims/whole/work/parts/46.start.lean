/-! from a run of the interpreter to the law's walk -/
theorem jw_D {s : State} {args : Array Value} (hts : ∀ w ∈ jt_G, w.before args s = true) : ∃ D : va_G, ∀ (c : Nat) (q : vw_C), jt_Cl[c]? = some q → u_Kn s q.1 q.2.1 q.2.2 (D.1 c) (D.2 c) := by
  have h : ∀ c : Nat, ∃ P : ClassId × (Nat → Nat), ∀ q : vw_C, jt_Cl[c]? = some q → u_Kn s q.1 q.2.1 q.2.2 P.1 P.2 := by
    intro c
    by_cases hc : c < jt_Cl.length
    · obtain ⟨T, N, ty, h1, h2, h3, -⟩ := jt_D_ok c hc
      obtain ⟨cC, iS, h⟩ := u_known hts h2.1 (hts _ h3)
      refine ⟨(cC, iS), fun q hq => ?_⟩
      cases h1.symm.trans hq
      exact h
    · refine ⟨(0, fun _ => 0), fun q hq => ?_⟩
      exact absurd (List.getElem?_eq_some_iff.mp hq).1 hc
  exact ⟨(fun c => (Classical.choose (h c)).1, fun c => (Classical.choose (h c)).2), fun c q hq => Classical.choose_spec (h c) q hq⟩
theorem jw_aC {s : State} {args : Array Value} {ty : FieldType} (hT : ∀ cA, va_RA s cA ty = (s.vm.findClass ("[" ++ ty.toString) = some cA)) (h : (Cond.arrayClass ty).before args s = true) : ∃ cA, ArrOfT s cA ty ∧ va_RA s cA ty := by
  obtain ⟨cA, kA, comp, h1, h2, h3⟩ := Cond.arrayClass_spec h
  exact ⟨cA, fun n z => ⟨fun k h => (by cases h), kA, h2, comp, h3⟩, by rw [hT]; exact h1⟩
theorem jw_aO {s : State} {args : Array Value} {C : String} (h : (Cond.arrayOver (.object C)).before args s = true) : ∃ cA, ArrOfT s cA (.object C) ∧ va_RA s cA (.object C) := by
  obtain ⟨comp, cA, kA, h1, h2, h3, h4, h5⟩ := Cond.arrayOver_spec h
  exact ⟨cA, fun n z => ⟨fun k h => (by cases h), kA, h3, comp, h4⟩, kA, comp, h3, h4, h1, h5⟩
theorem jw_kA {s : State} {args : Array Value} (hts : ∀ w ∈ lw_tbl, w.before args s = true) : ∃ kA : Nat → ClassId, ∀ (k : Nat) (q : ClassId × FieldType), (jt_tys kA)[k]? = some q → ArrOfT s q.1 q.2 ∧ va_RA s q.1 q.2 := by
  have hG : ∀ w ∈ jt_G, w.before args s = true := fun w hw => hts w (List.mem_filter.mp hw).1
  have h : ∀ t : Nat, ∃ cA : ClassId, ∀ FT, jt_tyl[t]? = some FT → ArrOfT s cA FT ∧ va_RA s cA FT := by
    intro t
    cases hF : jt_tyl[t]? with
    | none => exact ⟨0, fun FT h => by cases h⟩
    | some FT =>
      have key : ∃ cA, ArrOfT s cA FT ∧ va_RA s cA FT := by
        rcases jt_tyl_ok (List.mem_of_getElem? hF) with rfl | rfl | ⟨C, hC, rfl⟩
        · exact jw_aC (fun _ => rfl) (hG _ jt_ac.1)
        · exact jw_aC (fun _ => rfl) (hG _ jt_ac.2)
        · exact jw_aO (hts _ (jt_ao_in C hC))
      obtain ⟨cA, h⟩ := key
      exact ⟨cA, fun FT' h' => by cases h'; exact h⟩
  refine ⟨fun t => Classical.choose (h t), fun k q hq => ?_⟩
  obtain ⟨FT, h1, rfl⟩ := jt_tys_q hq
  exact Classical.choose_spec (h k) FT h1
theorem jw_K {s : State} {args : Array Value} (hts : ∀ w ∈ lw_tbl, w.before args s = true) : ∃ D kA, jx_K D kA s := by
  obtain ⟨D, hD⟩ := jw_D (fun w hw => hts w (List.mem_filter.mp hw).1)
  obtain ⟨kA, hA⟩ := jw_kA hts
  exact ⟨D, kA, ⟨hD, hA⟩, fun c hc => va_Nw.of (jt_nw_on c hc) (hts c (jt_nw_in c hc)), fun C hC => va_AO.of (hts _ (jt_ao_in C hC))⟩
theorem jx_lret {p : Program} {l : Launch} {e : Env} {s : State} {m : MethodId} {below : List Frame} {meth : Method} {c : Code} {b L : Nat} {xs : Nat → Int32} (C0 : lw_At p s m meth c b L xs) {D : va_G} {kA : Nat → ClassId} {t : jx_T} (ht : t.1 = some (.inl 1)) {Z : jx_Sc} {call : jx_C} {pc : Nat} {lv : jx_L} {st : List jx_V} {w : jx_W} (h : jx_nxt Z jX_Lw_law call (pc, lv, st, w) = some (.inr t)) : jx_Go p l e room_1 s m #[Value.ref b] below meth c (lw_Z below #[Value.ref b] s) s.heap.size D kA jX_Lw_law t pc lv st w := by
  unfold jx_nxt at h
  split at h
  · rename_i i n hd
    dsimp only at h hd
    rcases jx_out h with rfl | rfl | rfl
    · obtain ⟨rfl, h'⟩ := jx_k_some h
      obtain ⟨x, hst, hq, -⟩ := ja_ir_some h'
      cases hq
      cases ht
      cases hst
      refine ⟨Nat.le_refl _, Nat.le_refl _, fun ls H locs cells slots hl hR hS hc hs => ?_⟩
      rw [Nat.sub_self, Nat.add_zero] at hc hs
      subst hc
      subst hs
      exact va_forget hS.2.2 (lw_ret C0.1 C0.2.1 C0.2.2.1 C0.2.2.2.2.2.2.2.2.1 hd)
    · obtain ⟨rfl, h'⟩ := jx_k_some h
      obtain ⟨r, C, -, hq, -⟩ := ja_ar_some h'
      cases hq
      cases ht
    · obtain ⟨rfl, h'⟩ := jx_k_some h
      obtain ⟨-, hq, -⟩ := ja_vr_some h'
      cases hq
      cases ht
  · cases h
theorem jx_law {p : Program} {e : Env} {s : State} {m : MethodId} {below : List Frame} {meth : Method} {c : Code} (l : Launch) {b L : Nat} {xs : Nat → Int32} (C0 : lw_At p s m meth c b L xs) {t : jx_T}
    (h : jx_run (b, L, xs) jX_Lw_law (jx_m (b, L, xs) 8) (0, [some (.inr (some b)), none, none, none], [], (fun _ => none, s.heap.size, 0)) = some t) (ht : t.1 = some (.inl 1)) (hc : t.2.2.1 ≤ s.heap.size + room_1.cells) (hs : t.2.2.2 ≤ room_1.slots) :
    W p l e room_1 s m #[Value.ref b] below meth c s.heap [] 0 0 (lw_Z below #[Value.ref b] s) (entryFrame m ([Value.ref b] : List Value).toArray 4) := by
  obtain ⟨D, kA, hK⟩ := jw_K C0.2.2.2.2.2.1
  obtain ⟨f, hf⟩ := jx_run_iff.mp h
  have hF : jx_Fx 8 s.heap.size (b, L, xs) D kA jX_Lw_law p room_1 s m #[Value.ref b] meth c :=
    ⟨C0.1, C0.2.1, C0.2.2.2.1, C0.2.2.2.2.1, fun w hw => C0.2.2.2.2.2.1 w (List.mem_filter.mp hw).1, fun h => (by cases h), hK, by decide, by decide, Nat.le_refl _, C0.2.2.2.2.2.2.1, C0.2.2.2.2.2.2.2.1⟩
  have hG := jx_runs (l := l) (e := e) (below := below) hF (jx_sound C0.2.2.2.2.2.2.2.1 8) (fun pc lv st w h' => jx_lret C0 ht h') f 0 _ _ _ hf
  have hl := lv_entry [Value.ref b] (n := 4) (Nat.le_of_ble_eq_true rfl)
  have hl : lv_has ((lg_sl [Value.ref b] ++ List.replicate (4 - (lg_sl [Value.ref b]).length) Slot.unset).toArray) 4 (jx_ps 0 [some (.inr (some b)), none, none, none]) := hl
  have hle := hG.1
  have hle : s.heap.size ≤ t.2.2.1 := hle
  have k := hG.2.2 _ s.heap [] (room_1.cells - (t.2.2.1 - s.heap.size)) (room_1.slots - t.2.2.2) hl ⟨rfl, Nat.le_refl _, fun a c h => by cases h⟩ va_S.rf (by show room_1.cells - (t.2.2.1 - s.heap.size) + (t.2.2.1 - s.heap.size) = room_1.cells; omega) (by show room_1.slots - t.2.2.2 + (t.2.2.2 - 0) = room_1.slots; omega)
  rw [lg_entry_eq]
  exact W.widen (Nat.zero_le _) (Nat.zero_le _) k
