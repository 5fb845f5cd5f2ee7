/-! rewriting rows of jx_run, one a kind of instruction; part 40 (by gen.py) applies them at each place of the code -/
theorem jd_at {c : ByteArray} {L : List (Nat × Instr × Nat)} (h : ∀ e ∈ L, decode c e.1 = .ok (e.2.1, e.2.2)) (i : Nat) {p n : Nat} {j : Instr} (hi : L[i]? = some (p, j, n)) : decode c p = .ok (j, n) := h (p, j, n) (List.mem_of_getElem? hi)
section JR
variable {Z : jx_Sc} {X : jx_X} {call : jx_C} {pc n : Nat} {lv : jx_L} {st : List jx_V} {w : jx_W} {i : Instr}
theorem jr_nx (hd : decode X.2.1 pc = .ok (i, n)) : jx_nxt Z X call (pc, lv, st, w) = jx_I Z X call i n pc lv st w := by
  simp only [jx_nxt, hd]
theorem jr_go {s' : jx_S} (hd : decode X.2.1 pc = .ok (i, n)) (h : jx_I Z X call i n pc lv st w = some (.inl s')) : jx_run Z X call (pc, lv, st, w) = jx_run Z X call s' := jx_run_in ((jr_nx hd).trans h)
theorem jr_end {t : jx_T} (hd : decode X.2.1 pc = .ok (i, n)) (h : jx_I Z X call i n pc lv st w = some (.inr t)) : jx_run Z X call (pc, lv, st, w) = some t := jx_run_out ((jr_nx hd).trans h)
theorem jr_no (hd : decode X.2.1 pc = .ok (i, n)) (h : jx_I Z X call i n pc lv st w = none) : jx_run Z X call (pc, lv, st, w) = none := jx_run_no ((jr_nx hd).trans h)
theorem jr_ic {c : Int} {v : Int32} (hd : decode X.2.1 pc = .ok (.iconst c, 1)) (hv : Int32.ofInt c = v) : jx_run Z X call (pc, lv, st, w) = jx_run Z X call (pc + 1, lv, .inl v :: st, w) := by
  subst hv; exact jr_go hd rfl
theorem jr_bi {c : Int} {v : Int32} (hd : decode X.2.1 pc = .ok (.bipush c, 2)) (hv : (Int8.ofInt c).toInt32 = v) : jx_run Z X call (pc, lv, st, w) = jx_run Z X call (pc + 2, lv, .inl v :: st, w) := by
  subst hv; exact jr_go hd rfl
theorem jr_si {c : Int} {v : Int32} (hd : decode X.2.1 pc = .ok (.sipush c, 3)) (hv : (Int16.ofInt c).toInt32 = v) : jx_run Z X call (pc, lv, st, w) = jx_run Z X call (pc + 3, lv, .inl v :: st, w) := by
  subst hv; exact jr_go hd rfl
theorem jr_lc {k : Nat} {v : Int32} (hd : decode X.2.1 pc = .ok (.ldc k, 2)) (hv : jt_cst X.1 k = some v) : jx_run Z X call (pc, lv, st, w) = jx_run Z X call (pc + 2, lv, .inl v :: st, w) :=
  jr_go hd (show ja_lc X k pc lv st w = _ by unfold ja_lc; rw [hv]; rfl)
theorem jr_b0 {x y : Int32} (g : Int32 → Int32 → Int32) (hd : decode X.2.1 pc = .ok (i, 1)) (hi : jx_I Z X call i 1 pc lv (.inl y :: .inl x :: st) w = ja_b0 g pc lv (.inl y :: .inl x :: st) w) : jx_run Z X call (pc, lv, .inl y :: .inl x :: st, w) = if y = 0 then none else jx_run Z X call (pc + 1, lv, .inl (g x y) :: st, w) := by
  by_cases e : y = 0
  · rw [if_pos e]; exact jr_no hd (hi.trans (if_pos e))
  · rw [if_neg e]; exact jr_go hd (hi.trans (if_neg e))
theorem jr_ii {c : Int} {k : Nat} {v x : Int32} (hd : decode X.2.1 pc = .ok (.iinc k c, 3)) (hl : lv[k]? = some (some (.inl x))) (hk : k < X.2.2.1) (hv : Int32.ofInt c = v) : jx_run Z X call (pc, lv, st, w) = jx_run Z X call (pc + 3, lv.set k (some (.inl (x + v))), st, w) := by
  subst hv
  exact jr_go hd (show ja_ii X.2.2.1 k c pc lv st w = _ by unfold ja_ii; rw [hl]; exact if_pos hk)
theorem jr_nl {r : Option Nat} {off : Int} {t : Nat} (hd : decode X.2.1 pc = .ok (.ifnull off, 3)) (ht : jx_tg pc off = some t) : jx_run Z X call (pc, lv, .inr r :: st, w) = if r = none then jx_run Z X call (t, lv, st, w) else jx_run Z X call (pc + 3, lv, st, w) := by
  have h : jx_I Z X call (.ifnull off) 3 pc lv (.inr r :: st) w = some (.inl (if r.isNone = true then t else pc + 3, lv, st, w)) := by
    show jx_br r.isNone pc off lv st w = _
    unfold jx_br; rw [ht]; rfl
  rw [jr_go hd h]
  cases r <;> simp
theorem jr_nn {r : Option Nat} {off : Int} {t : Nat} (hd : decode X.2.1 pc = .ok (.ifnonnull off, 3)) (ht : jx_tg pc off = some t) : jx_run Z X call (pc, lv, .inr r :: st, w) = if r = none then jx_run Z X call (pc + 3, lv, st, w) else jx_run Z X call (t, lv, st, w) := by
  have h : jx_I Z X call (.ifnonnull off) 3 pc lv (.inr r :: st) w = some (.inl (if r.isSome = true then t else pc + 3, lv, st, w)) := by
    show jx_br r.isSome pc off lv st w = _
    unfold jx_br; rw [ht]; rfl
  rw [jr_go hd h]
  cases r <;> simp
theorem jr_if {c : Jvm.ClassFile.Cond} {off : Int} {t : Nat} {x : Int32} {P : Prop} {dP : Decidable P} (hd : decode X.2.1 pc = .ok (.ifCond c off, 3)) (ht : jx_tg pc off = some t) (hb : jx_cb c x 0 = true ↔ P) : jx_run Z X call (pc, lv, .inl x :: st, w) = @ite _ P dP (jx_run Z X call (t, lv, st, w)) (jx_run Z X call (pc + 3, lv, st, w)) := by
  have h : jx_I Z X call (.ifCond c off) 3 pc lv (.inl x :: st) w = some (.inl (if jx_cb c x 0 = true then t else pc + 3, lv, st, w)) := by
    show jx_br (jx_cb c x 0) pc off lv st w = _
    unfold jx_br; rw [ht]; rfl
  rw [jr_go hd h]
  by_cases hp : P
  · rw [if_pos hp, if_pos (hb.mpr hp)]
  · rw [if_neg hp, if_neg (fun q => hp (hb.mp q))]
theorem jr_cm {c : Jvm.ClassFile.Cond} {off : Int} {t : Nat} {x y : Int32} {P : Prop} {dP : Decidable P} (hd : decode X.2.1 pc = .ok (.if_icmp c off, 3)) (ht : jx_tg pc off = some t) (hb : jx_cb c x y = true ↔ P) : jx_run Z X call (pc, lv, .inl y :: .inl x :: st, w) = @ite _ P dP (jx_run Z X call (t, lv, st, w)) (jx_run Z X call (pc + 3, lv, st, w)) := by
  have h : jx_I Z X call (.if_icmp c off) 3 pc lv (.inl y :: .inl x :: st) w = some (.inl (if jx_cb c x y = true then t else pc + 3, lv, st, w)) := by
    show jx_br (jx_cb c x y) pc off lv st w = _
    unfold jx_br; rw [ht]; rfl
  rw [jr_go hd h]
  by_cases hp : P
  · rw [if_pos hp, if_pos (hb.mpr hp)]
  · rw [if_neg hp, if_neg (fun q => hp (hb.mp q))]
theorem jr_gt {off : Int} {t : Nat} (hd : decode X.2.1 pc = .ok (.goto off, 3)) (ht : jx_tg pc off = some t) : jx_run Z X call (pc, lv, st, w) = jx_run Z X call (t, lv, st, w) :=
  jr_go hd (show jx_br true pc off lv st w = _ by unfold jx_br; rw [ht]; rfl)
theorem jr_sw {d lo hi : Int} {offs : Array Int} {x : Int32} {t : Nat} (hd : decode X.2.1 pc = .ok (.tableswitch d lo hi offs, n)) (h : x.toInt < lo ∨ hi < x.toInt) (ht : jx_tg pc d = some t) : jx_run Z X call (pc, lv, .inl x :: st, w) = jx_run Z X call (t, lv, st, w) :=
  jr_go hd (show ja_ts d lo hi offs pc lv (.inl x :: st) w = _ by unfold ja_ts; dsimp only; rw [if_pos h]; unfold jx_br; rw [ht]; rfl)
theorem jr_sk {d lo hi : Int} {offs : Array Int} {x : Int32} {t : Nat} {off : Int} (hd : decode X.2.1 pc = .ok (.tableswitch d lo hi offs, n)) (h : ¬ (x.toInt < lo ∨ hi < x.toInt)) (ho : offs[(x.toInt - lo).toNat]? = some off) (ht : jx_tg pc off = some t) : jx_run Z X call (pc, lv, .inl x :: st, w) = jx_run Z X call (t, lv, st, w) :=
  jr_go hd (show ja_ts d lo hi offs pc lv (.inl x :: st) w = _ by unfold ja_ts; dsimp only; rw [if_neg h, ho]; show jx_br true pc off lv st w = _; unfold jx_br; rw [ht]; rfl)
theorem jr_gf {k a ci f tk pm : Nat} (hd : decode X.2.1 pc = .ok (.getfield k, 3)) (hf : jt_fld X.1 k = some (ci, f, tk, pm)) : jx_run Z X call (pc, lv, .inr (some a) :: st, w) = (jx_gF w a ci f).bind fun v => jx_run Z X call (pc + 3, lv, v :: st, w) := by
  have h : jx_I Z X call (.getfield k) 3 pc lv (.inr (some a) :: st) w = (match jx_gF w a ci f with | some v => jx_go (pc + 3) lv (v :: st) w | none => none) := by
    show ja_gf X k pc lv (.inr (some a) :: st) w = _
    unfold ja_gf; rw [hf]; rfl
  cases hv : jx_gF w a ci f with
  | none => rw [hv] at h; exact jr_no hd h
  | some v => rw [hv] at h; exact jr_go hd h
theorem jr_pf {k a ci f tk pm : Nat} {v : jx_V} (hd : decode X.2.1 pc = .ok (.putfield k, 3)) (hf : jt_fld X.1 k = some (ci, f, tk, pm)) (hp : pm = 0 ∨ (pm = 1 ∧ X.2.2.2.2 = true)) (hk : jx_fk tk v = true) : jx_run Z X call (pc, lv, v :: .inr (some a) :: st, w) = (jx_sF w a ci f v).bind fun w => jx_run Z X call (pc + 3, lv, st, w) := by
  have h : jx_I Z X call (.putfield k) 3 pc lv (v :: .inr (some a) :: st) w = (match jx_sF w a ci f v with | some w => jx_go (pc + 3) lv st w | none => none) := by
    show ja_pf X k pc lv (v :: .inr (some a) :: st) w = _
    unfold ja_pf; rw [hf]; exact if_pos ⟨hk, hp⟩
  cases hv : jx_sF w a ci f v with
  | none => rw [hv] at h; exact jr_no hd h
  | some v => rw [hv] at h; exact jr_go hd h
theorem jr_pf1 {k a ci f pm : Nat} {x : Int32} (hd : decode X.2.1 pc = .ok (.putfield k, 3)) (hf : jt_fld X.1 k = some (ci, f, 1, pm)) (hp : pm = 0 ∨ (pm = 1 ∧ X.2.2.2.2 = true)) : jx_run Z X call (pc, lv, .inl x :: .inr (some a) :: st, w) = if x = 0 ∨ x = 1 then (jx_sF w a ci f (.inl x)).bind fun w => jx_run Z X call (pc + 3, lv, st, w) else none := by
  by_cases e : x = 0 ∨ x = 1
  · rw [if_pos e]; exact jr_pf hd hf hp (by unfold jx_fk; dsimp only; rw [decide_eq_true e]; rfl)
  · rw [if_neg e]
    refine jr_no hd (show ja_pf X k pc lv (.inl x :: .inr (some a) :: st) w = _ from ?_)
    unfold ja_pf; rw [hf]; exact if_neg (fun q => e (by have := q.1; unfold jx_fk at this; simpa using this))
theorem jr_al {a : Nat} {j : Int32} (t : Nat) (hd : decode X.2.1 pc = .ok (i, 1)) (hi : jx_I Z X call i 1 pc lv (.inl j :: .inr (some a) :: st) w = ja_al Z t pc lv (.inl j :: .inr (some a) :: st) w) : jx_run Z X call (pc, lv, .inl j :: .inr (some a) :: st, w) = (jx_gI Z t w a j).bind fun x => jx_run Z X call (pc + 1, lv, .inl x :: st, w) := by
  have h : jx_I Z X call i 1 pc lv (.inl j :: .inr (some a) :: st) w = (match jx_gI Z t w a j with | some x => jx_go (pc + 1) lv (.inl x :: st) w | none => none) := hi
  cases hv : jx_gI Z t w a j with
  | none => rw [hv] at h; exact jr_no hd h
  | some v => rw [hv] at h; exact jr_go hd h
theorem jr_is {a : Nat} {j x : Int32} (hd : decode X.2.1 pc = .ok (.iastore, 1)) : jx_run Z X call (pc, lv, .inl x :: .inl j :: .inr (some a) :: st, w) = (jx_sI 0 w a j x).bind fun w => jx_run Z X call (pc + 1, lv, st, w) := by
  have h : jx_I Z X call .iastore 1 pc lv (.inl x :: .inl j :: .inr (some a) :: st) w = (match jx_sI 0 w a j x with | some w => jx_go (pc + 1) lv st w | none => none) := by
    show ja_as 0 pc lv (.inl x :: .inl j :: .inr (some a) :: st) w = _
    unfold ja_as
    exact if_pos (Or.inl rfl)
  cases hv : jx_sI 0 w a j x with
  | none => rw [hv] at h; exact jr_no hd h
  | some v => rw [hv] at h; exact jr_go hd h
theorem jr_bs {a : Nat} {j x : Int32} (hd : decode X.2.1 pc = .ok (.bastore, 1)) : jx_run Z X call (pc, lv, .inl x :: .inl j :: .inr (some a) :: st, w) = if x = 0 ∨ x = 1 then (jx_sI 1 w a j x).bind fun w => jx_run Z X call (pc + 1, lv, st, w) else none := by
  by_cases e : x = 0 ∨ x = 1
  · rw [if_pos e]
    have h : jx_I Z X call .bastore 1 pc lv (.inl x :: .inl j :: .inr (some a) :: st) w = (match jx_sI 1 w a j x with | some w => jx_go (pc + 1) lv st w | none => none) := if_pos (Or.inr e)
    cases hv : jx_sI 1 w a j x with
    | none => rw [hv] at h; exact jr_no hd h
    | some v => rw [hv] at h; exact jr_go hd h
  · rw [if_neg e]
    exact jr_no hd (if_neg (fun q => q.elim (fun z => absurd z (by decide)) e))
theorem jr_rl {a : Nat} {j : Int32} (hd : decode X.2.1 pc = .ok (.aaload, 1)) : jx_run Z X call (pc, lv, .inl j :: .inr (some a) :: st, w) = (jx_gA w a j).bind fun r => jx_run Z X call (pc + 1, lv, .inr r :: st, w) := by
  have h : jx_I Z X call .aaload 1 pc lv (.inl j :: .inr (some a) :: st) w = (match jx_gA w a j with | some r => jx_go (pc + 1) lv (.inr r :: st) w | none => none) := rfl
  cases hv : jx_gA w a j with
  | none => rw [hv] at h; exact jr_no hd h
  | some v => rw [hv] at h; exact jr_go hd h
theorem jr_rs {a : Nat} {j : Int32} {r : Option Nat} (hd : decode X.2.1 pc = .ok (.aastore, 1)) : jx_run Z X call (pc, lv, .inr r :: .inl j :: .inr (some a) :: st, w) = (jx_sA w a j r).bind fun w => jx_run Z X call (pc + 1, lv, st, w) := by
  have h : jx_I Z X call .aastore 1 pc lv (.inr r :: .inl j :: .inr (some a) :: st) w = (match jx_sA w a j r with | some w => jx_go (pc + 1) lv st w | none => none) := rfl
  cases hv : jx_sA w a j r with
  | none => rw [hv] at h; exact jr_no hd h
  | some v => rw [hv] at h; exact jr_go hd h
theorem jr_al_ {a : Nat} (hd : decode X.2.1 pc = .ok (.arraylength, 1)) : jx_run Z X call (pc, lv, .inr (some a) :: st, w) = (jx_gL Z w a).bind fun k => jx_run Z X call (pc + 1, lv, .inl (Int32.ofNat k) :: st, w) := by
  have h : jx_I Z X call .arraylength 1 pc lv (.inr (some a) :: st) w = (match jx_gL Z w a with | some k => jx_go (pc + 1) lv (.inl (Int32.ofNat k) :: st) w | none => none) := rfl
  cases hv : jx_gL Z w a with
  | none => rw [hv] at h; exact jr_no hd h
  | some v => rw [hv] at h; exact jr_go hd h
theorem jr_na {ty : ArrayType} {t : Nat} {x : Int32} (hd : decode X.2.1 pc = .ok (.newarray ty, 2)) (ht : jt_na ty = some t) : jx_run Z X call (pc, lv, .inl x :: st, w) = if x < 0 ∨ 65536 < x.toNatClampNeg then none else jx_run Z X call (pc + 2, lv, .inr (some w.2.1) :: st, jx_nw w (.inl (t, x.toNatClampNeg, .inl (fun _ => 0))) x.toNatClampNeg) := by
  have h : jx_I Z X call (.newarray ty) 2 pc lv (.inl x :: st) w = if x < 0 ∨ 65536 < x.toNatClampNeg then none else jx_go (pc + 2) lv (.inr (some w.2.1) :: st) (jx_nw w (.inl (t, x.toNatClampNeg, .inl (fun _ => 0))) x.toNatClampNeg) := by
    show ja_na ty pc lv (.inl x :: st) w = _
    unfold ja_na; rw [ht]
  by_cases e : x < 0 ∨ 65536 < x.toNatClampNeg
  · rw [if_pos e] at h ⊢; exact jr_no hd h
  · rw [if_neg e] at h ⊢; exact jr_go hd h
theorem jr_ra {k t : Nat} {x : Int32} (hd : decode X.2.1 pc = .ok (.anewarray k, 3)) (ht : jt_arr X.1 k = some t) : jx_run Z X call (pc, lv, .inl x :: st, w) = if x < 0 ∨ 65536 < x.toNatClampNeg then none else jx_run Z X call (pc + 3, lv, .inr (some w.2.1) :: st, jx_nw w (.inl (t, x.toNatClampNeg, .inr (fun _ => none))) x.toNatClampNeg) := by
  have h : jx_I Z X call (.anewarray k) 3 pc lv (.inl x :: st) w = if x < 0 ∨ 65536 < x.toNatClampNeg then none else jx_go (pc + 3) lv (.inr (some w.2.1) :: st) (jx_nw w (.inl (t, x.toNatClampNeg, .inr (fun _ => none))) x.toNatClampNeg) := by
    show ja_ra X k pc lv (.inl x :: st) w = _
    unfold ja_ra; rw [ht]
  by_cases e : x < 0 ∨ 65536 < x.toNatClampNeg
  · rw [if_pos e] at h ⊢; exact jr_no hd h
  · rw [if_neg e] at h ⊢; exact jr_go hd h
theorem jr_nw {k ci : Nat} {fs : List jx_V} (hd : decode X.2.1 pc = .ok (.new k, 3)) (hn : jt_new X.1 k = some (ci, fs)) : jx_run Z X call (pc, lv, st, w) = jx_run Z X call (pc + 3, lv, .inr (some w.2.1) :: st, jx_nw w (.inr (ci, fs)) fs.length) :=
  jr_go hd (show ja_nw X k pc lv st w = _ by unfold ja_nw; rw [hn]; rfl)
theorem jr_cl {how mid np : Nat} (hd : decode X.2.1 pc = .ok (i, 3)) (hi : jx_I Z X call i 3 pc lv st w = jx_cl call (how, mid, np) pc lv st w) (h1 : np ≤ st.length) (h2 : (st.drop np).length ≤ jx_bd how) : jx_run Z X call (pc, lv, st, w) = (call mid (st.take np).reverse w).bind fun t => jx_run Z X call (pc + 3, lv, t.1.toList ++ st.drop np, t.2) := by
  have h : jx_I Z X call i 3 pc lv st w = (match call mid (st.take np).reverse w with | some t => jx_go (pc + 3) lv (t.1.toList ++ st.drop np) t.2 | none => none) := hi.trans (if_pos ⟨h1, h2⟩)
  cases hv : call mid (st.take np).reverse w with
  | none => rw [hv] at h; exact jr_no hd h
  | some v => rw [hv] at h; exact jr_go hd h
theorem jr_cs {k how mid np : Nat} (hd : decode X.2.1 pc = .ok (.invokestatic k, 3)) (hm : jt_ms X.1 k = some (.inl (how, mid, np))) (h1 : np ≤ st.length) (h2 : (st.drop np).length ≤ jx_bd how) : jx_run Z X call (pc, lv, st, w) = (call mid (st.take np).reverse w).bind fun t => jx_run Z X call (pc + 3, lv, t.1.toList ++ st.drop np, t.2) :=
  jr_cl hd (show ja_is call X k pc lv st w = _ by unfold ja_is; rw [hm]) h1 h2
theorem jr_mx {k : Nat} {x y : Int32} (hd : decode X.2.1 pc = .ok (.invokestatic k, 3)) (hm : jt_ms X.1 k = some (.inr true)) (h2 : st.length ≤ 8) : jx_run Z X call (pc, lv, .inl y :: .inl x :: st, w) = jx_run Z X call (pc + 3, lv, .inl (if x < y then y else x) :: st, w) :=
  jr_go hd (show ja_is call X k pc lv (.inl y :: .inl x :: st) w = _ by unfold ja_is; rw [hm]; dsimp only; rw [if_pos h2, if_pos rfl]; rfl)
theorem jr_mn {k : Nat} {x y : Int32} (hd : decode X.2.1 pc = .ok (.invokestatic k, 3)) (hm : jt_ms X.1 k = some (.inr false)) (h2 : st.length ≤ 8) : jx_run Z X call (pc, lv, .inl y :: .inl x :: st, w) = jx_run Z X call (pc + 3, lv, .inl (if y < x then y else x) :: st, w) :=
  jr_go hd (show ja_is call X k pc lv (.inl y :: .inl x :: st) w = _ by unfold ja_is; rw [hm]; dsimp only; rw [if_pos h2, if_neg (by decide)]; rfl)
theorem jr_cv {k mid np ci a : Nat} (hd : decode X.2.1 pc = .ok (.invokevirtual k, 3)) (hm : jt_mv X.1 k = some ((2, mid, np), ci)) (hr : st[np - 1]? = some (.inr (some a))) (h1 : np ≤ st.length) (h2 : (st.drop np).length ≤ 8) : jx_run Z X call (pc, lv, st, w) = if jx_is w a ci = true then (call mid (st.take np).reverse w).bind fun t => jx_run Z X call (pc + 3, lv, t.1.toList ++ st.drop np, t.2) else none := by
  have h : jx_I Z X call (.invokevirtual k) 3 pc lv st w = if jx_is w a ci = true then jx_cl call (2, mid, np) pc lv st w else none := by
    show ja_iv call X k pc lv st w = _
    unfold ja_iv; rw [hm]; dsimp only; unfold jx_rv; dsimp only; rw [hr]
  by_cases e : jx_is w a ci = true
  · rw [if_pos e] at h ⊢; exact jr_cl hd h h1 h2
  · rw [if_neg e] at h ⊢; exact jr_no hd h
theorem jr_cn {k how mid np a : Nat} (hd : decode X.2.1 pc = .ok (.invokespecial k, 3)) (hm : jt_mi X.1 k = some (some (how, mid, np))) (hr : st[np - 1]? = some (.inr (some a))) (h1 : np ≤ st.length) (h2 : (st.drop np).length ≤ jx_bd how) : jx_run Z X call (pc, lv, st, w) = (call mid (st.take np).reverse w).bind fun t => jx_run Z X call (pc + 3, lv, t.1.toList ++ st.drop np, t.2) :=
  jr_cl hd (show ja_in call X k pc lv st w = _ by unfold ja_in; rw [hm]; dsimp only; unfold jx_rv; dsimp only; rw [hr]) h1 h2
theorem jr_oi {k a : Nat} (hd : decode X.2.1 pc = .ok (.invokespecial k, 3)) (hm : jt_mi X.1 k = some none) (h2 : st.length ≤ 8) : jx_run Z X call (pc, lv, .inr (some a) :: st, w) = jx_run Z X call (pc + 3, lv, st, w) :=
  jr_go hd (show ja_in call X k pc lv (.inr (some a) :: st) w = _ by unfold ja_in; rw [hm]; exact if_pos h2)
theorem jr_ir {x : Int32} (hd : decode X.2.1 pc = .ok (.ireturn, 1)) (hr : X.2.2.2.1 = some .int) : jx_run Z X call (pc, lv, [.inl x], w) = some (some (.inl x), w) :=
  jr_end hd (show ja_ir X [.inl x] w = _ by unfold ja_ir; dsimp only; rw [hr])
theorem jr_zr {x : Int32} (hd : decode X.2.1 pc = .ok (.ireturn, 1)) (hr : X.2.2.2.1 = some .boolean) : jx_run Z X call (pc, lv, [.inl x], w) = if x = 0 ∨ x = 1 then some (some (.inl x), w) else none := by
  have h : jx_I Z X call .ireturn 1 pc lv [.inl x] w = if x = 0 ∨ x = 1 then some (.inr (some (.inl x), w)) else none := by
    show ja_ir X [.inl x] w = _
    unfold ja_ir; dsimp only; rw [hr]
  by_cases e : x = 0 ∨ x = 1
  · rw [if_pos e] at h ⊢; exact jr_end hd h
  · rw [if_neg e] at h ⊢; exact jr_no hd h
theorem jr_ar {C : String} {r : Option Nat} (hd : decode X.2.1 pc = .ok (.areturn, 1)) (hr : X.2.2.2.1 = some (.object C)) : jx_run Z X call (pc, lv, [.inr r], w) = some (some (.inr r), w) :=
  jr_end hd (show ja_ar X [.inr r] w = _ by unfold ja_ar; dsimp only; rw [hr])
theorem jr_vr (hd : decode X.2.1 pc = .ok (.return_, 1)) (hr : X.2.2.2.1 = none) : jx_run Z X call (pc, lv, [], w) = some (none, w) :=
  jr_end hd (show ja_vr X [] w = _ by unfold ja_vr; dsimp only; rw [hr])
end JR
theorem jx_m_eq {Z : jx_Sc} {d k n : Nat} {as : List jx_V} {w : jx_W} {y : MethodName} {X : jx_X} (hM : jt_M k = some (y, X, n)) (hn : as.length = n) : jx_m Z (d + 1) k as w = jx_run Z X (jx_m Z d) (0, as.map some ++ List.replicate (X.2.2.1 - as.length) none, [], w) := by
  simp only [jx_m, hM]
  exact if_pos hn
