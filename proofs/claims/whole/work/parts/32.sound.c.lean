/-! the step rows that touch the heap -/
theorem jx_gF_some {w : jx_W} {a ci k : Nat} {v : jx_V} (h : jx_gF w a ci k = some v) : ∃ fs, w.1 a = some (.inr (ci, fs)) ∧ fs[k]? = some v := by
  unfold jx_gF at h
  split at h
  · rename_i c0 fs hc
    split at h
    · rename_i e
      subst e
      exact ⟨fs, hc, h⟩
    · cases h
  · cases h
theorem jx_sF_some {w w' : jx_W} {a ci k : Nat} {v : jx_V} (h : jx_sF w a ci k v = some w') : ∃ fs, w.1 a = some (.inr (ci, fs)) ∧ k < fs.length ∧ w' = (va_up w.1 a (some (.inr (ci, fs.set k v))), w.2) := by
  unfold jx_sF at h
  split at h
  · rename_i c0 fs hc
    split at h
    · rename_i e
      obtain ⟨e, hk⟩ := e
      subst e
      exact ⟨fs, hc, hk, (Option.some.inj h).symm⟩
    · cases h
  · cases h
theorem jx_gI_some {Z : jx_Sc} {t : Nat} {w : jx_W} {a : Nat} {i x : Int32} (h : jx_gI Z t w a i = some x) : (∃ n f, w.1 a = some (.inl (t, n, .inl f)) ∧ vp_in i n ∧ x = f i.toNatClampNeg) ∨ (t = 0 ∧ a = Z.1 ∧ vp_in i Z.2.1 ∧ x = Z.2.2 i.toNatClampNeg) := by
  unfold jx_gI at h
  split at h
  · rename_i t' n f hc
    split at h
    · rename_i e
      obtain ⟨e, hi⟩ := e
      subst e
      exact Or.inl ⟨n, f, hc, hi, (Option.some.inj h).symm⟩
    · cases h
  · split at h
    · rename_i e
      exact Or.inr ⟨e.1, e.2.1, e.2.2, (Option.some.inj h).symm⟩
    · cases h
  · cases h
theorem jx_sI_some {t : Nat} {w w' : jx_W} {a : Nat} {i x : Int32} (h : jx_sI t w a i x = some w') : ∃ n f, w.1 a = some (.inl (t, n, .inl f)) ∧ vp_in i n ∧ w' = (va_up w.1 a (some (.inl (t, n, .inl (va_up f i.toNatClampNeg x)))), w.2) := by
  unfold jx_sI at h
  split at h
  · rename_i t' n f hc
    split at h
    · rename_i e
      obtain ⟨e, hi⟩ := e
      subst e
      exact ⟨n, f, hc, hi, (Option.some.inj h).symm⟩
    · cases h
  · cases h
theorem jx_gA_some {w : jx_W} {a : Nat} {i : Int32} {r : Option Nat} (h : jx_gA w a i = some r) : ∃ t n f, w.1 a = some (.inl (t, n, .inr f)) ∧ (jt_el t).isSome = true ∧ vp_in i n ∧ r = f i.toNatClampNeg := by
  unfold jx_gA at h
  split at h
  · rename_i t n f hc
    split at h
    · rename_i e
      exact ⟨t, n, f, hc, e.1, e.2, (Option.some.inj h).symm⟩
    · cases h
  · cases h
theorem jx_sA_some {w w' : jx_W} {a : Nat} {i : Int32} {r : Option Nat} (h : jx_sA w a i r = some w') : ∃ t n f, w.1 a = some (.inl (t, n, .inr f)) ∧ jx_ok w t r = true ∧ vp_in i n ∧ w' = (va_up w.1 a (some (.inl (t, n, .inr (va_up f i.toNatClampNeg r)))), w.2) := by
  unfold jx_sA at h
  split at h
  · rename_i t n f hc
    split at h
    · rename_i e
      exact ⟨t, n, f, hc, e.1, e.2, (Option.some.inj h).symm⟩
    · cases h
  · cases h
theorem jx_gL_some {Z : jx_Sc} {w : jx_W} {a k : Nat} (h : jx_gL Z w a = some k) : (∃ t x, w.1 a = some (.inl (t, k, x)) ∧ t < jt_nk) ∨ (a = Z.1 ∧ k = Z.2.1) := by
  unfold jx_gL at h
  split at h
  · rename_i t n x hc
    split at h
    · cases h
      exact Or.inl ⟨t, x, hc, by assumption⟩
    · cases h
  · split at h
    · cases h
      exact Or.inr ⟨by assumption, rfl⟩
    · cases h
  · cases h
theorem jx_ok_some {w : jx_W} {t v : Nat} (h : jx_ok w t (some v) = true) : ∃ ci fs, w.1 v = some (.inr (ci, fs)) ∧ jt_el t = some ci := by
  unfold jx_ok at h
  dsimp only at h
  split at h
  · rename_i ci fs hc
    exact ⟨ci, fs, hc, of_decide_eq_true h⟩
  · cases h
theorem jx_fit {ty : FieldType} {v : jx_V} (h : jx_fk (jt_tk ty) v = true) : narrow ty (jx_v v) = jx_v v ∧ fits ty (jx_v v) = true := by
  rcases v with x | r
  · cases ty with
    | int => exact ⟨rfl, rfl⟩
    | boolean =>
      have h : x = 0 ∨ x = 1 := by simpa [jx_fk, jt_tk] using h
      rcases h with rfl | rfl
      · exact ⟨by first | rfl | decide, by first | rfl | decide⟩
      · exact ⟨by first | rfl | decide, by first | rfl | decide⟩
    | _ => simp [jx_fk, jt_tk] at h
  · cases ty with
    | object C => cases r <;> exact ⟨rfl, rfl⟩
    | array u => cases r <;> exact ⟨rfl, rfl⟩
    | _ => simp [jx_fk, jt_tk] at h
theorem ja_gf_some {X : jx_X} {k pc : Nat} {lv : jx_L} {st : List jx_V} {w : jx_W} {q : jx_S ⊕ jx_T} (h : ja_gf X k pc lv st w = some q) : ∃ ci f tk pm a st0 v, jt_fld X.1 k = some (ci, f, tk, pm) ∧ st = .inr (some a) :: st0 ∧ jx_gF w a ci f = some v ∧ q = .inl (pc + 3, lv, v :: st0, w) := by
  unfold ja_gf at h
  split at h
  · rename_i ci f tk pm hf
    split at h
    · split at h
      · exact ⟨ci, f, tk, pm, _, _, _, hf, rfl, by assumption, jx_go_some h⟩
      · cases h
    · cases h
  · cases h
theorem ja_pf_some {X : jx_X} {k pc : Nat} {lv : jx_L} {st : List jx_V} {w : jx_W} {q : jx_S ⊕ jx_T} (h : ja_pf X k pc lv st w = some q) : ∃ ci f tk pm a st0 v w', jt_fld X.1 k = some (ci, f, tk, pm) ∧ st = v :: .inr (some a) :: st0 ∧ jx_fk tk v = true ∧ (pm = 0 ∨ (pm = 1 ∧ X.2.2.2.2 = true)) ∧ jx_sF w a ci f v = some w' ∧ q = .inl (pc + 3, lv, st0, w') := by
  unfold ja_pf at h
  split at h
  · rename_i ci f tk pm hf
    split at h
    · split at h
      · rename_i hp
        split at h
        · exact ⟨ci, f, tk, pm, _, _, _, _, hf, rfl, hp.1, hp.2, by assumption, jx_go_some h⟩
        · cases h
      · cases h
    · cases h
  · cases h
theorem ja_al_some {Z : jx_Sc} {t pc : Nat} {lv : jx_L} {st : List jx_V} {w : jx_W} {q : jx_S ⊕ jx_T} (h : ja_al Z t pc lv st w = some q) : ∃ i a st0 x, st = .inl i :: .inr (some a) :: st0 ∧ jx_gI Z t w a i = some x ∧ q = .inl (pc + 1, lv, .inl x :: st0, w) := by
  unfold ja_al at h
  split at h
  · split at h
    · exact ⟨_, _, _, _, rfl, by assumption, jx_go_some h⟩
    · cases h
  · cases h
theorem ja_as_some {t pc : Nat} {lv : jx_L} {st : List jx_V} {w : jx_W} {q : jx_S ⊕ jx_T} (h : ja_as t pc lv st w = some q) : ∃ x i a st0 w', st = .inl x :: .inl i :: .inr (some a) :: st0 ∧ (t = 0 ∨ x = 0 ∨ x = 1) ∧ jx_sI t w a i x = some w' ∧ q = .inl (pc + 1, lv, st0, w') := by
  unfold ja_as at h
  split at h
  · split at h
    · rename_i ht
      split at h
      · exact ⟨_, _, _, _, _, rfl, ht, by assumption, jx_go_some h⟩
      · cases h
    · cases h
  · cases h
theorem ja_rl_some {pc : Nat} {lv : jx_L} {st : List jx_V} {w : jx_W} {q : jx_S ⊕ jx_T} (h : ja_rl pc lv st w = some q) : ∃ i a st0 r, st = .inl i :: .inr (some a) :: st0 ∧ jx_gA w a i = some r ∧ q = .inl (pc + 1, lv, .inr r :: st0, w) := by
  unfold ja_rl at h
  split at h
  · split at h
    · exact ⟨_, _, _, _, rfl, by assumption, jx_go_some h⟩
    · cases h
  · cases h
theorem ja_rs_some {pc : Nat} {lv : jx_L} {st : List jx_V} {w : jx_W} {q : jx_S ⊕ jx_T} (h : ja_rs pc lv st w = some q) : ∃ r i a st0 w', st = .inr r :: .inl i :: .inr (some a) :: st0 ∧ jx_sA w a i r = some w' ∧ q = .inl (pc + 1, lv, st0, w') := by
  unfold ja_rs at h
  split at h
  · split at h
    · exact ⟨_, _, _, _, _, rfl, by assumption, jx_go_some h⟩
    · cases h
  · cases h
theorem ja_len_some {Z : jx_Sc} {pc : Nat} {lv : jx_L} {st : List jx_V} {w : jx_W} {q : jx_S ⊕ jx_T} (h : ja_len Z pc lv st w = some q) : ∃ a st0 k, st = .inr (some a) :: st0 ∧ jx_gL Z w a = some k ∧ q = .inl (pc + 1, lv, .inl (Int32.ofNat k) :: st0, w) := by
  unfold ja_len at h
  split at h
  · split at h
    · exact ⟨_, _, _, rfl, by assumption, jx_go_some h⟩
    · cases h
  · cases h
theorem ja_na_some {ty : ArrayType} {pc : Nat} {lv : jx_L} {st : List jx_V} {w : jx_W} {q : jx_S ⊕ jx_T} (h : ja_na ty pc lv st w = some q) : ∃ t x st0, jt_na ty = some t ∧ st = .inl x :: st0 ∧ ¬ x < 0 ∧ x.toNatClampNeg ≤ 65536 ∧ q = .inl (pc + 2, lv, .inr (some w.2.1) :: st0, jx_nw w (.inl (t, x.toNatClampNeg, .inl (fun _ => 0))) x.toNatClampNeg) := by
  unfold ja_na at h
  split at h
  · rename_i t ht
    split at h
    · rename_i x st0
      split at h
      · cases h
      · rename_i hx
        exact ⟨t, x, st0, ht, rfl, fun g => hx (Or.inl g), Nat.le_of_not_lt fun g => hx (Or.inr g), jx_go_some h⟩
    · cases h
  · cases h
theorem ja_ra_some {X : jx_X} {k pc : Nat} {lv : jx_L} {st : List jx_V} {w : jx_W} {q : jx_S ⊕ jx_T} (h : ja_ra X k pc lv st w = some q) : ∃ t x st0, jt_arr X.1 k = some t ∧ st = .inl x :: st0 ∧ ¬ x < 0 ∧ x.toNatClampNeg ≤ 65536 ∧ q = .inl (pc + 3, lv, .inr (some w.2.1) :: st0, jx_nw w (.inl (t, x.toNatClampNeg, .inr (fun _ => none))) x.toNatClampNeg) := by
  unfold ja_ra at h
  split at h
  · rename_i t ht
    split at h
    · rename_i x st0
      split at h
      · cases h
      · rename_i hx
        exact ⟨t, x, st0, ht, rfl, fun g => hx (Or.inl g), Nat.le_of_not_lt fun g => hx (Or.inr g), jx_go_some h⟩
    · cases h
  · cases h
theorem ja_nw_some {X : jx_X} {k pc : Nat} {lv : jx_L} {st : List jx_V} {w : jx_W} {q : jx_S ⊕ jx_T} (h : ja_nw X k pc lv st w = some q) : ∃ ci fs, jt_new X.1 k = some (ci, fs) ∧ q = .inl (pc + 3, lv, .inr (some w.2.1) :: st, jx_nw w (.inr (ci, fs)) fs.length) := by
  unfold ja_nw at h
  split at h
  · exact ⟨_, _, by assumption, jx_go_some h⟩
  · cases h
theorem jx_upd {f : Nat → Int32} {i : Nat} {x : Int32} : updV (fun j => Value.int (f j)) i (.int x) = fun j => Value.int (va_up f i x j) := by
  funext j
  by_cases hj : j = i
  · subst hj; simp [updV, va_up]
  · simp [updV, va_up, hj]
theorem jx_updq {f : Nat → Option Nat} {i : Nat} {r : Option Nat} : updV (fun j => va_rf (f j)) i (va_rf r) = fun j => va_rf (va_up f i r j) := by
  funext j
  by_cases hj : j = i
  · subst hj; simp [updV, va_up]
  · simp [updV, va_up, hj]
section JC
variable {p : Program} {l : Launch} {e : Env} {R : Room} {s : State} {m : MethodId} {args : Array Value} {below : List Frame} {meth : Method} {c : Code} {Qf : State → Prop}
variable {d b0 : Nat} {Z : jx_Sc} {D : va_G} {kA : Nat → ClassId} {X : jx_X} {t : jx_T} {pc n : Nat} {lv : jx_L} {st : List jx_V} {w : jx_W} {q : jx_S ⊕ jx_T}
theorem js_getfield {k : Nat} (hF : jx_Fx d b0 Z D kA X p R s m args meth c) (hd : decode X.2.1 pc = .ok (.getfield k, n)) (h : jx_k n 3 (ja_gf X k pc lv st w) = some q) (hq : jx_To p l e R s m args below meth c Qf b0 D kA X t q) : jx_Go p l e R s m args below meth c Qf b0 D kA X t pc lv st w := by
  obtain ⟨rfl, h⟩ := jx_k_some h
  obtain ⟨hx, hb, hml, hown, hts, -, hK, -⟩ := hF
  obtain ⟨ci, f, tk, pm, a, st0, v, hfl, rfl, hv, rfl⟩ := ja_gf_some h
  obtain ⟨C, T, N, ty, hc, hk, hC, hlink, -⟩ := jt_fld_ok hfl
  obtain ⟨fs, ha, hv⟩ := jx_gF_some hv
  exact jx_lift hq (fun ls H locs cells slots hl hR _ _ _ kk => va_get (D := D) hx hb hts hC.1 hown hK.1 (hR.one ha) 0 rfl hc f hk (hts _ hlink) (fun _ h => h) (by rw [List.getElem?_map, hv]; rfl) hd kk)
theorem js_putfield {k : Nat} (hF : jx_Fx d b0 Z D kA X p R s m args meth c) (hd : decode X.2.1 pc = .ok (.putfield k, n)) (h : jx_k n 3 (ja_pf X k pc lv st w) = some q) (hq : jx_To p l e R s m args below meth c Qf b0 D kA X t q) : jx_Go p l e R s m args below meth c Qf b0 D kA X t pc lv st w := by
  obtain ⟨rfl, h⟩ := jx_k_some h
  obtain ⟨hx, hb, hml, hown, hts, hini, hK, -⟩ := hF
  obtain ⟨ci, f, tk, pm, a, st0, v, w', hfl, rfl, hfk, hpm, hw, rfl⟩ := ja_pf_some h
  obtain ⟨C, T, N, ty, hc, hk, ⟨hin, hty, hnm⟩, hlink, htk, hp0, hp1⟩ := jt_fld_ok hfl
  dsimp only at hc hk hlink htk hp0 hp1
  obtain ⟨fs, ha, hl, rfl⟩ := jx_sF_some hw
  obtain ⟨hd2, hd3⟩ := jx_fit (ty := ty f) (v := v) (by rw [htk]; exact hfk)
  have hd1 := hty f hk
  refine jx_lifw hq ha (fun ls H locs cells slots hlv hR kk => ?_)
  have hap := va_apart (own := jt_cn X.1) hts hin ty hty hnm hK.1 hc
  obtain ⟨r, h1, cell, q1, q2, q3, q4⟩ := (hR.one ha) 0 _ rfl
  have hr : r = (C, T, N) := Option.some.inj (h1.symm.trans hc)
  subst hr
  obtain ⟨hS, hfc, kC, hkC, hkind⟩ := hK.1.1 ci _ hc
  obtain ⟨cf, kf, fi, fd, hi, hsl⟩ := hS f hk
  have hst := (u_facts hfc hkC (u_lays hts hin hk) hi).1
  have hlay := hts _ (hin _ (u_in_lay hk))
  have fin : ∀ H1 : Heap, H1[a]? = some (cell.setSlot fd.slot (jx_v v)) → va_at D jt_Cl (a, jx_e kA (.inr (ci, fs.set f v))) H1 := by
    intro H1 e1
    refine ⟨_, hc, t_OB.to (V := updV (vp_V (fs.map jx_v)) f (jx_v v)) ⟨_, e1, q2, q3, ?_⟩ (fun j _ => ?_)⟩
    · rw [hsl]; exact t_set q4 hap hk (jx_v v)
    · rw [vp_updV_set (by rw [List.length_map]; exact hl) (jx_v v) j, List.map_set]
  rcases hpm with hpm | ⟨hpm, hi2⟩
  · have hfin := hp0 hpm
    unfold u_lay at hlay
    rw [if_neg (by rw [hfin]; decide)] at hlay
    have h6 := u_store hfc hkC hkind hlay hi hd1 hd2 hd3
    exact W.putK hx hb (f := fd) ⟨hown, hts _ hlink, ⟨_, _, _, hi⟩, hst⟩ (by rw [q2]; exact h6) q1 q3 (by rw [hsl]; exact k2_hasslot (q4 f hk)) rfl rfl hd (fun H' e1 e2 e3 => kk H' _ (fin H' e1) e2 e3)
  · obtain ⟨hfin, hdecl⟩ := hp1 hpm
    unfold u_lay at hlay
    rw [if_pos hfin] at hlay
    have hcf : m.cls = cf := by
      obtain ⟨_, _, c', _, _, _, -, -, hf', -, -, -, hown2, -⟩ := Cond.laysFinal_spec hlay
      have e1 : c' = cf := by have := hi.symm.trans hf'; simp at this; exact this.1.symm
      rw [hdecl] at hown2
      rw [← e1]; exact Option.some.inj (hown.symm.trans hown2)
    have h6 := u_fits hfc hkC hkind (Or.inr hlay) hi hd1 hd2 hd3
    exact W.putFinK hx hb hown (hts _ hlink) hi hst hcf (hini hi2) (by rw [q2]; exact h6) q1 q3 (by rw [hsl]; exact k2_hasslot (q4 f hk)) rfl rfl hd (fun H' e1 e2 e3 => kk H' _ (fin H' e1) e2 e3)
theorem js_iaload (hF : jx_Fx d b0 Z D kA X p R s m args meth c) (hd : decode X.2.1 pc = .ok (.iaload, n)) (h : jx_k n 1 (ja_al Z 0 pc lv st w) = some q) (hq : jx_To p l e R s m args below meth c Qf b0 D kA X t q) : jx_Go p l e R s m args below meth c Qf b0 D kA X t pc lv st w := by
  obtain ⟨rfl, h⟩ := jx_k_some h
  obtain ⟨hx, hb, hml, hown, hts, -, hK, -, -, hb0, hX, hZ⟩ := hF
  obtain ⟨i, a, st0, x, rfl, hv, rfl⟩ := ja_al_some h
  rcases jx_gI_some hv with ⟨k, f, ha, hi, rfl⟩ | ⟨-, rfl, hi, rfl⟩
  · exact jx_lift hq (fun ls H locs cells slots hl hR _ _ _ kk => va_iald hx hb hK.1 (hR.one ha) 0 0 rfl rfl hi hd kk)
  · exact jx_lift hq (fun ls H locs cells slots hl hR hS _ _ kk => va_sld hx hb hX (Nat.lt_of_lt_of_le hZ hb0) (Nat.not_le.mpr hZ) hS hi hd kk)
theorem js_baload (hF : jx_Fx d b0 Z D kA X p R s m args meth c) (hd : decode X.2.1 pc = .ok (.baload, n)) (h : jx_k n 1 (ja_al Z 1 pc lv st w) = some q) (hq : jx_To p l e R s m args below meth c Qf b0 D kA X t q) : jx_Go p l e R s m args below meth c Qf b0 D kA X t pc lv st w := by
  obtain ⟨rfl, h⟩ := jx_k_some h
  obtain ⟨hx, hb, hml, hown, hts, -, hK, -, -, hb0, hX, hZ⟩ := hF
  obtain ⟨i, a, st0, x, rfl, hv, rfl⟩ := ja_al_some h
  rcases jx_gI_some hv with ⟨k, f, ha, hi, rfl⟩ | ⟨h0, -, -, -⟩
  · exact jx_lift hq (fun ls H locs cells slots hl hR _ _ _ kk => va_zald hx hb hK.1 (hR.one ha) 0 1 rfl rfl hi hd kk)
  · exact absurd h0 (by decide)
theorem js_iastore (hF : jx_Fx d b0 Z D kA X p R s m args meth c) (hd : decode X.2.1 pc = .ok (.iastore, n)) (h : jx_k n 1 (ja_as 0 pc lv st w) = some q) (hq : jx_To p l e R s m args below meth c Qf b0 D kA X t q) : jx_Go p l e R s m args below meth c Qf b0 D kA X t pc lv st w := by
  obtain ⟨rfl, h⟩ := jx_k_some h
  obtain ⟨hx, hb, hml, hown, hts, -, hK, -⟩ := hF
  obtain ⟨x, i, a, st0, w', rfl, -, hw, rfl⟩ := ja_as_some h
  obtain ⟨k, f, ha, hi, rfl⟩ := jx_sI_some hw
  refine jx_lifw hq ha (fun ls H locs cells slots hl hR kk => ?_)
  refine W.iast hx hb (hR.2.2 _ _ ha).2 ((hK.1.2 0 _ rfl).1 k (fun j => .int (f j))) (fun z => by cases z) (by show ¬ (i < 0 ∨ (arrV _ _ _).slots.size ≤ _); rw [arrV_size]; exact hi) rfl rfl hd fun H1 e1 z oq => kk H1 _ ?_ z oq
  show H1[a]? = some (vp_cell _ _)
  rw [e1, vp_cell_i, vp_cell_i, arrV_store, jx_upd]
theorem js_bastore (hF : jx_Fx d b0 Z D kA X p R s m args meth c) (hd : decode X.2.1 pc = .ok (.bastore, n)) (h : jx_k n 1 (ja_as 1 pc lv st w) = some q) (hq : jx_To p l e R s m args below meth c Qf b0 D kA X t q) : jx_Go p l e R s m args below meth c Qf b0 D kA X t pc lv st w := by
  obtain ⟨rfl, h⟩ := jx_k_some h
  obtain ⟨hx, hb, hml, hown, hts, -, hK, -⟩ := hF
  obtain ⟨x, i, a, st0, w', rfl, h01, hw, rfl⟩ := ja_as_some h
  obtain ⟨k, f, ha, hi, rfl⟩ := jx_sI_some hw
  have hn : narrow .boolean (.int x) = .int x := by
    rcases h01 with h0 | h0 | h0
    · exact absurd h0 (by decide)
    · subst h0; first | rfl | decide
    · subst h0; first | rfl | decide
  refine jx_lifw hq ha (fun ls H locs cells slots hl hR kk => ?_)
  refine W.zast hx hb (hR.2.2 _ _ ha).2 ((hK.1.2 1 _ rfl).1 k (fun j => .int (f j))) (fun z => by cases z) (by show ¬ (i < 0 ∨ (arrV _ _ _).slots.size ≤ _); rw [arrV_size]; exact hi) rfl rfl hd fun H1 e1 z oq => kk H1 _ ?_ z oq
  show H1[a]? = some (vp_cell _ _)
  rw [e1, vp_cell_i, vp_cell_i, hn, arrV_store, jx_upd]
theorem js_aaload (hF : jx_Fx d b0 Z D kA X p R s m args meth c) (hd : decode X.2.1 pc = .ok (.aaload, n)) (h : jx_k n 1 (ja_rl pc lv st w) = some q) (hq : jx_To p l e R s m args below meth c Qf b0 D kA X t q) : jx_Go p l e R s m args below meth c Qf b0 D kA X t pc lv st w := by
  obtain ⟨rfl, h⟩ := jx_k_some h
  obtain ⟨hx, hb, hml, hown, hts, -, hK, -⟩ := hF
  obtain ⟨i, a, st0, r, rfl, hv, rfl⟩ := ja_rl_some h
  obtain ⟨ty, k, f, ha, hel, hi, rfl⟩ := jx_gA_some hv
  obtain ⟨ci, hci⟩ := Option.isSome_iff_exists.mp hel
  have hC := (jt_el_ok (kA := kA) hci).1
  exact jx_lift hq (fun ls H locs cells slots hl hR _ _ _ kk => va_aldq hx hb hK.1 (hR.one ha) 0 ty rfl hC hi hd kk)
theorem js_aastore (hF : jx_Fx d b0 Z D kA X p R s m args meth c) (hd : decode X.2.1 pc = .ok (.aastore, n)) (h : jx_k n 1 (ja_rs pc lv st w) = some q) (hq : jx_To p l e R s m args below meth c Qf b0 D kA X t q) : jx_Go p l e R s m args below meth c Qf b0 D kA X t pc lv st w := by
  obtain ⟨rfl, h⟩ := jx_k_some h
  obtain ⟨hx, hb, hml, hown, hts, -, hK, -⟩ := hF
  obtain ⟨r, i, a, st0, w', rfl, hw, rfl⟩ := ja_rs_some h
  obtain ⟨ty, k, f, ha, hok, hi, rfl⟩ := jx_sA_some hw
  refine jx_lifw hq ha (fun ls H locs cells slots hl hR kk => ?_)
  cases r with
  | none =>
    obtain ⟨ci, hci⟩ := Option.isSome_iff_exists.mp (show (jt_el ty).isSome = true from hok)
    have hC := (jt_el_ok (kA := kA) hci).1
    refine va_WaastN (C := jt_cn ci) hx hb (hR.2.2 _ _ ha).2 ((hK.1.2 ty _ hC).1 k (fun j => va_rf (f j))) (fun z => by cases z) (by show ¬ (i < 0 ∨ (arrV _ _ _).slots.size ≤ _); rw [arrV_size]; exact hi) rfl rfl hd fun H1 e1 z oq => kk H1 _ ?_ z oq
    show H1[a]? = some (vp_cell _ _)
    rw [e1, vp_cell_q, vp_cell_q, show Value.null = va_rf none from rfl, arrV_store, jx_updq]
  | some v =>
    obtain ⟨ci, fs, hv, hci⟩ := jx_ok_some hok
    obtain ⟨hC, T, N, hcl⟩ := jt_el_ok (kA := kA) hci
    have hlt : i.toNatClampNeg < k := Nat.not_le.mp fun q => hi (Or.inr q)
    have h0 : ¬ i < 0 := fun q => hi (Or.inl q)
    obtain ⟨r', hr', cellV, g1, g2, g3, -⟩ := (hR.one hv) 0 _ rfl
    have hcls := (hK.1.1 ci _ hcl).2
    obtain ⟨kA', comp, k1, k2, k3, -⟩ := (hK.1.2 ty _ hC).2
    have hcomp : comp = D.1 ci := Option.some.inj (k3.symm.trans hcls.1)
    subst hcomp
    obtain ⟨kC, hkC, -⟩ := hcls.2
    refine W.aast hx hb (hR.2.2 _ _ ha).2 (fun q h => by cases h) (fun h => by cases h) k1 k2 rfl hkC ⟨h0, by show _ < (arrV _ _ _).slots.size; rw [arrV_size]; exact hlt⟩ g1 (fun q h => by rw [g3] at h; cases h) (by rw [g2]; exact hkC) (by rw [g2]; exact va_assign hcls) rfl rfl hd fun H1 e1 z oq => kk H1 _ ?_ z oq
    show H1[a]? = some (vp_cell _ _)
    rw [e1, vp_cell_q, vp_cell_q, show Value.ref v = va_rf (some v) from rfl, arrV_store, jx_updq]
theorem js_arraylength (hF : jx_Fx d b0 Z D kA X p R s m args meth c) (hd : decode X.2.1 pc = .ok (.arraylength, n)) (h : jx_k n 1 (ja_len Z pc lv st w) = some q) (hq : jx_To p l e R s m args below meth c Qf b0 D kA X t q) : jx_Go p l e R s m args below meth c Qf b0 D kA X t pc lv st w := by
  obtain ⟨rfl, h⟩ := jx_k_some h
  obtain ⟨hx, hb, hml, hown, hts, -, hK, -, -, hb0, hX, hZ⟩ := hF
  obtain ⟨a, st0, k, rfl, hv, rfl⟩ := ja_len_some h
  rcases jx_gL_some hv with ⟨ty, x, ha, hty⟩ | ⟨rfl, rfl⟩
  · obtain ⟨FT, hFT⟩ := jt_tys_ok (kA := kA) hty
    rcases x with f | f
    · exact jx_lift hq (fun ls H locs cells slots hl hR _ _ _ kk => va_alen hx hb hK.1 (hR.one ha) 0 ty (x := (k, .inl f)) rfl hFT rfl hd kk)
    · exact jx_lift hq (fun ls H locs cells slots hl hR _ _ _ kk => va_alen hx hb hK.1 (hR.one ha) 0 ty (x := (k, .inr (.inr (.inr (.inr f))))) rfl hFT rfl hd kk)
  · exact jx_lift hq (fun ls H locs cells slots hl hR hS _ _ kk => va_slen hx hb hX (Nat.lt_of_lt_of_le hZ hb0) (Nat.not_le.mpr hZ) hS hd kk)
theorem js_newarray {ty : ArrayType} (hF : jx_Fx d b0 Z D kA X p R s m args meth c) (hd : decode X.2.1 pc = .ok (.newarray ty, n)) (h : jx_k n 2 (ja_na ty pc lv st w) = some q) (hq : jx_To p l e R s m args below meth c Qf b0 D kA X t q) : jx_Go p l e R s m args below meth c Qf b0 D kA X t pc lv st w := by
  obtain ⟨rfl, h⟩ := jx_k_some h
  obtain ⟨hx, hb, hml, hown, hts, -, hK, -⟩ := hF
  obtain ⟨ta, x, st0, hta, rfl, hx0, hx1, rfl⟩ := ja_na_some h
  have key : (Cond.arrayClass (newarray.typeOf ty)).before args s = true ∧ (jt_tys kA)[ta]? = some (kA ta, newarray.typeOf ty) ∧ componentBytes (newarray.typeOf ty) ≤ 4 ∧ defaultValue (newarray.typeOf ty) = .int 0 ∧ va_RA s (kA ta) (newarray.typeOf ty) = (s.vm.findClass ("[" ++ (newarray.typeOf ty).toString) = some (kA ta)) := by
    cases ty with
    | int => cases hta; exact ⟨hts _ jt_ac.1, rfl, by decide, rfl, rfl⟩
    | boolean => cases hta; exact ⟨hts _ jt_ac.2, rfl, by decide, rfl, rfl⟩
    | _ => cases hta
  obtain ⟨k1, k2, k3, k4, k5⟩ := key
  have hRA := (hK.1.2 ta _ k2).2
  dsimp only at hRA
  rw [k5] at hRA
  refine jx_lifn hq (fun ls H locs cells slots hlv hz hc1 hs1 kk => ?_)
  refine va_newaK hx hb k1 rfl hd rfl hx0 rfl (Nat.le_trans (Nat.mul_le_mul hx1 k3) (by decide)) hc1 hs1 rfl fun H1 cA e1 z1 o1 _ hfc => ?_
  have hcA : cA = kA ta := Option.some.inj (hfc.symm.trans hRA)
  subst hcA
  have := kk H1 (by show H1[H.size]? = some (vp_cell _ _); rw [e1, k4]; rfl) z1 o1
  rw [← hz] at this
  exact this
theorem js_anewarray {k : Nat} (hF : jx_Fx d b0 Z D kA X p R s m args meth c) (hd : decode X.2.1 pc = .ok (.anewarray k, n)) (h : jx_k n 3 (ja_ra X k pc lv st w) = some q) (hq : jx_To p l e R s m args below meth c Qf b0 D kA X t q) : jx_Go p l e R s m args below meth c Qf b0 D kA X t pc lv st w := by
  obtain ⟨rfl, h⟩ := jx_k_some h
  obtain ⟨hx, hb, hml, hown, hts, -, hK, -⟩ := hF
  obtain ⟨ta, x, st0, hta, rfl, hx0, hx1, rfl⟩ := ja_ra_some h
  obtain ⟨ci, hcl, hel, hao⟩ := jt_arr_ok hta
  have hC := (jt_el_ok (kA := kA) hel).1
  refine jx_lifn hq (fun ls H locs cells slots hlv hz hc1 hs1 kk => ?_)
  refine W.anew hx hb hown (hts _ hcl) (va_AO.use (hK.2.2 _ hao)) rfl hd rfl hx0 (Nat.le_trans (Nat.mul_le_mul hx1 (Nat.le_refl 4)) (by decide)) hc1 hs1 fun cA kA' comp f1 f2 f3 f4 => ?_
  obtain ⟨kA2, comp2, r1, r2, r3, r4⟩ := (hK.1.2 ta _ hC).2
  have hcA : cA = kA ta := Option.some.inj (f1.symm.trans r4)
  subst hcA
  have := kk (H.push { cls := kA ta, slots := Array.replicate x.toNatClampNeg .null, vm := .none }) (by show (H.push _)[H.size]? = some (vp_cell _ _); rw [Array.getElem?_push_size, arrV_new, vp_cell_q]; rfl) (by rw [Array.size_push]) (fun q hq => by rw [Array.getElem?_push, if_neg (Nat.ne_of_lt hq)])
  rw [← hz] at this
  exact this
theorem js_new {k : Nat} (hF : jx_Fx d b0 Z D kA X p R s m args meth c) (hd : decode X.2.1 pc = .ok (.new k, n)) (h : jx_k n 3 (ja_nw X k pc lv st w) = some q) (hq : jx_To p l e R s m args below meth c Qf b0 D kA X t q) : jx_Go p l e R s m args below meth c Qf b0 D kA X t pc lv st w := by
  obtain ⟨rfl, h⟩ := jx_k_some h
  obtain ⟨hx, hb, hml, hown, hts, -, hK, -⟩ := hF
  obtain ⟨ci, fs, hn, rfl⟩ := ja_nw_some h
  obtain ⟨hcl, T, N, ty, hc, ⟨hin, hty, -⟩, hinst, hini, hl, hfs⟩ := jt_new_ok hn
  refine jx_lifn hq (fun ls H locs cells slots hlv hz hc1 hs1 kk => ?_)
  have hKn := hK.1.1 ci _ hc
  rw [hl] at hs1 kk
  refine W.newcK hx hb hown (hts _ hcl) (hts _ hinst) (hts _ hini) rfl hd hc1 hs1 hKn.2.1 rfl fun H1 kC hkC e1 z1 o1 => ?_
  have := kk H1 ⟨_, hc, (u_born ty hts hin hKn hkC e1 hty).to hfs⟩ z1 o1
  rw [← hz] at this
  exact this
end JC
