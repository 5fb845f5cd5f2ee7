/-! what an arm's answer says, and the step rows that are uniform (by gen_sound.py) -/
theorem jx_k_some {α : Type} {n k : Nat} {o : Option α} {q : α} (h : jx_k n k o = some q) : n = k ∧ o = some q := by
  unfold jx_k at h
  split at h
  · exact ⟨by assumption, h⟩
  · cases h
theorem jx_go_some {pc : Nat} {lv : jx_L} {st : List jx_V} {w : jx_W} {q : jx_S ⊕ jx_T} (h : jx_go pc lv st w = some q) : q = .inl (pc, lv, st, w) := (Option.some.inj h).symm
theorem jx_tg_some {pc t : Nat} {off : Int} (h : jx_tg pc off = some t) : (pc : Int) + off = (t : Int) := by
  unfold jx_tg at h
  split at h
  · cases h; omega
  · cases h
theorem jx_br_some {b : Bool} {pc : Nat} {off : Int} {lv : jx_L} {st : List jx_V} {w : jx_W} {q : jx_S ⊕ jx_T} (h : jx_br b pc off lv st w = some q) : ∃ t : Nat, (pc : Int) + off = (t : Int) ∧ q = .inl (if b = true then t else pc + 3, lv, st, w) := by
  unfold jx_br at h
  split at h
  · rename_i t ht
    exact ⟨t, jx_tg_some ht, jx_go_some h⟩
  · cases h
theorem ja_li_some {i pc n : Nat} {lv : jx_L} {st : List jx_V} {w : jx_W} {q : jx_S ⊕ jx_T} (h : ja_li i pc n lv st w = some q) : ∃ x, lv[i]? = some (some (.inl x)) ∧ q = .inl (pc + n, lv, .inl x :: st, w) := by
  unfold ja_li at h
  split at h
  · exact ⟨_, by assumption, jx_go_some h⟩
  · cases h
theorem ja_la_some {i pc n : Nat} {lv : jx_L} {st : List jx_V} {w : jx_W} {q : jx_S ⊕ jx_T} (h : ja_la i pc n lv st w = some q) : ∃ r, lv[i]? = some (some (.inr r)) ∧ q = .inl (pc + n, lv, .inr r :: st, w) := by
  unfold ja_la at h
  split at h
  · exact ⟨_, by assumption, jx_go_some h⟩
  · cases h
theorem ja_si_some {nL i pc n : Nat} {lv : jx_L} {st : List jx_V} {w : jx_W} {q : jx_S ⊕ jx_T} (h : ja_si nL i pc n lv st w = some q) : ∃ x st0, st = .inl x :: st0 ∧ i < nL ∧ q = .inl (pc + n, lv.set i (some (.inl x)), st0, w) := by
  unfold ja_si at h
  split at h
  · split at h
    · exact ⟨_, _, rfl, by assumption, jx_go_some h⟩
    · cases h
  · cases h
theorem ja_sa_some {nL i pc n : Nat} {lv : jx_L} {st : List jx_V} {w : jx_W} {q : jx_S ⊕ jx_T} (h : ja_sa nL i pc n lv st w = some q) : ∃ r st0, st = .inr r :: st0 ∧ i < nL ∧ q = .inl (pc + n, lv.set i (some (.inr r)), st0, w) := by
  unfold ja_sa at h
  split at h
  · split at h
    · exact ⟨_, _, rfl, by assumption, jx_go_some h⟩
    · cases h
  · cases h
theorem ja_ii_some {nL k : Nat} {c : Int} {pc : Nat} {lv : jx_L} {st : List jx_V} {w : jx_W} {q : jx_S ⊕ jx_T} (h : ja_ii nL k c pc lv st w = some q) : ∃ x, lv[k]? = some (some (.inl x)) ∧ k < nL ∧ q = .inl (pc + 3, lv.set k (some (.inl (x + Int32.ofInt c))), st, w) := by
  unfold ja_ii at h
  split at h
  · split at h
    · exact ⟨_, by assumption, by assumption, jx_go_some h⟩
    · cases h
  · cases h
theorem ja_b2_some {g : Int32 → Int32 → Int32} {pc : Nat} {lv : jx_L} {st : List jx_V} {w : jx_W} {q : jx_S ⊕ jx_T} (h : ja_b2 g pc lv st w = some q) : ∃ x y st0, st = .inl y :: .inl x :: st0 ∧ q = .inl (pc + 1, lv, .inl (g x y) :: st0, w) := by
  unfold ja_b2 at h
  split at h
  · exact ⟨_, _, _, rfl, jx_go_some h⟩
  · cases h
theorem ja_b0_some {g : Int32 → Int32 → Int32} {pc : Nat} {lv : jx_L} {st : List jx_V} {w : jx_W} {q : jx_S ⊕ jx_T} (h : ja_b0 g pc lv st w = some q) : ∃ x y st0, st = .inl y :: .inl x :: st0 ∧ ¬ y = 0 ∧ q = .inl (pc + 1, lv, .inl (g x y) :: st0, w) := by
  unfold ja_b0 at h
  split at h
  · split at h
    · cases h
    · exact ⟨_, _, _, rfl, by assumption, jx_go_some h⟩
  · cases h
theorem ja_neg_some {pc : Nat} {lv : jx_L} {st : List jx_V} {w : jx_W} {q : jx_S ⊕ jx_T} (h : ja_neg pc lv st w = some q) : ∃ x st0, st = .inl x :: st0 ∧ q = .inl (pc + 1, lv, .inl (-x) :: st0, w) := by
  unfold ja_neg at h
  split at h
  · exact ⟨_, _, rfl, jx_go_some h⟩
  · cases h
theorem ja_dup_some {pc : Nat} {lv : jx_L} {st : List jx_V} {w : jx_W} {q : jx_S ⊕ jx_T} (h : ja_dup pc lv st w = some q) : ∃ v st0, st = v :: st0 ∧ q = .inl (pc + 1, lv, v :: v :: st0, w) := by
  unfold ja_dup at h
  split at h
  · exact ⟨_, _, rfl, jx_go_some h⟩
  · cases h
theorem ja_dup2_some {pc : Nat} {lv : jx_L} {st : List jx_V} {w : jx_W} {q : jx_S ⊕ jx_T} (h : ja_dup2 pc lv st w = some q) : ∃ v u st0, st = v :: u :: st0 ∧ q = .inl (pc + 1, lv, v :: u :: v :: u :: st0, w) := by
  unfold ja_dup2 at h
  split at h
  · exact ⟨_, _, _, rfl, jx_go_some h⟩
  · cases h
theorem ja_pop_some {pc : Nat} {lv : jx_L} {st : List jx_V} {w : jx_W} {q : jx_S ⊕ jx_T} (h : ja_pop pc lv st w = some q) : ∃ v st0, st = v :: st0 ∧ q = .inl (pc + 1, lv, st0, w) := by
  unfold ja_pop at h
  split at h
  · exact ⟨_, _, rfl, jx_go_some h⟩
  · cases h
theorem ja_if_some {c : Jvm.ClassFile.Cond} {off : Int} {pc : Nat} {lv : jx_L} {st : List jx_V} {w : jx_W} {q : jx_S ⊕ jx_T} (h : ja_if c off pc lv st w = some q) : ∃ x st0, st = .inl x :: st0 ∧ ∃ t : Nat, (pc : Int) + off = (t : Int) ∧ q = .inl (if jx_cb c x 0 = true then t else pc + 3, lv, st0, w) := by
  unfold ja_if at h
  split at h
  · exact ⟨_, _, rfl, jx_br_some h⟩
  · cases h
theorem ja_ic_some {c : Jvm.ClassFile.Cond} {off : Int} {pc : Nat} {lv : jx_L} {st : List jx_V} {w : jx_W} {q : jx_S ⊕ jx_T} (h : ja_ic c off pc lv st w = some q) : ∃ x y st0, st = .inl y :: .inl x :: st0 ∧ ∃ t : Nat, (pc : Int) + off = (t : Int) ∧ q = .inl (if jx_cb c x y = true then t else pc + 3, lv, st0, w) := by
  unfold ja_ic at h
  split at h
  · exact ⟨_, _, _, rfl, jx_br_some h⟩
  · cases h
theorem ja_nl_some {off : Int} {pc : Nat} {lv : jx_L} {st : List jx_V} {w : jx_W} {q : jx_S ⊕ jx_T} (h : ja_nl off pc lv st w = some q) : ∃ r st0, st = .inr r :: st0 ∧ ∃ t : Nat, (pc : Int) + off = (t : Int) ∧ q = .inl (if r.isNone = true then t else pc + 3, lv, st0, w) := by
  unfold ja_nl at h
  split at h
  · exact ⟨_, _, rfl, jx_br_some h⟩
  · cases h
theorem ja_nn_some {off : Int} {pc : Nat} {lv : jx_L} {st : List jx_V} {w : jx_W} {q : jx_S ⊕ jx_T} (h : ja_nn off pc lv st w = some q) : ∃ r st0, st = .inr r :: st0 ∧ ∃ t : Nat, (pc : Int) + off = (t : Int) ∧ q = .inl (if r.isSome = true then t else pc + 3, lv, st0, w) := by
  unfold ja_nn at h
  split at h
  · exact ⟨_, _, rfl, jx_br_some h⟩
  · cases h
theorem ja_lc_some {X : jx_X} {k : Nat} {pc : Nat} {lv : jx_L} {st : List jx_V} {w : jx_W} {q : jx_S ⊕ jx_T} (h : ja_lc X k pc lv st w = some q) : ∃ v, jt_cst X.1 k = some v ∧ q = .inl (pc + 2, lv, .inl v :: st, w) := by
  unfold ja_lc at h
  split at h
  · exact ⟨_, by assumption, jx_go_some h⟩
  · cases h
theorem ja_ts_some {dd lo hi : Int} {offs : Array Int} {pc : Nat} {lv : jx_L} {st : List jx_V} {w : jx_W} {q : jx_S ⊕ jx_T} (h : ja_ts dd lo hi offs pc lv st w = some q) : ∃ x st0, st = .inl x :: st0 ∧ ∃ off : Int, (((x.toInt < lo ∨ hi < x.toInt) ∧ off = dd) ∨ (¬ x.toInt < lo ∧ ¬ hi < x.toInt ∧ offs[(x.toInt - lo).toNat]? = some off)) ∧ ∃ t : Nat, (pc : Int) + off = (t : Int) ∧ q = .inl (t, lv, st0, w) := by
  unfold ja_ts at h
  split at h
  · rename_i x st0
    split at h
    · rename_i hx
      obtain ⟨t, h1, h2⟩ := jx_br_some h
      exact ⟨_, _, rfl, dd, Or.inl ⟨hx, rfl⟩, t, h1, h2⟩
    · rename_i hx
      split at h
      · rename_i off ho
        obtain ⟨t, h1, h2⟩ := jx_br_some h
        exact ⟨_, _, rfl, off, Or.inr ⟨fun g => hx (Or.inl g), fun g => hx (Or.inr g), ho⟩, t, h1, h2⟩
      · cases h
  · cases h
section JB
variable {p : Program} {l : Launch} {e : Env} {R : Room} {s : State} {m : MethodId} {args : Array Value} {below : List Frame} {meth : Method} {c : Code} {Qf : State → Prop}
variable {d b0 : Nat} {Z : jx_Sc} {D : va_G} {kA : Nat → ClassId} {X : jx_X} {t : jx_T} {pc n : Nat} {lv : jx_L} {st : List jx_V} {w : jx_W} {q : jx_S ⊕ jx_T}
theorem js_iadd (hF : jx_Fx d b0 Z D kA X p R s m args meth c) (hd : decode X.2.1 pc = .ok (.iadd, n)) (h : jx_k n 1 (ja_b2 (fun x y => x + y) pc lv st w) = some q) (hq : jx_To p l e R s m args below meth c Qf b0 D kA X t q) : jx_Go p l e R s m args below meth c Qf b0 D kA X t pc lv st w := by
  obtain ⟨rfl, h⟩ := jx_k_some h
  obtain ⟨x, y, st0, rfl, rfl⟩ := ja_b2_some h
  exact jx_lift hq (fun ls H locs cells slots hl _ _ _ _ k => lv_iadd hF.1 hF.2.1 hd k)
theorem js_isub (hF : jx_Fx d b0 Z D kA X p R s m args meth c) (hd : decode X.2.1 pc = .ok (.isub, n)) (h : jx_k n 1 (ja_b2 (fun x y => x - y) pc lv st w) = some q) (hq : jx_To p l e R s m args below meth c Qf b0 D kA X t q) : jx_Go p l e R s m args below meth c Qf b0 D kA X t pc lv st w := by
  obtain ⟨rfl, h⟩ := jx_k_some h
  obtain ⟨x, y, st0, rfl, rfl⟩ := ja_b2_some h
  exact jx_lift hq (fun ls H locs cells slots hl _ _ _ _ k => lv_isub hF.1 hF.2.1 hd k)
theorem js_imul (hF : jx_Fx d b0 Z D kA X p R s m args meth c) (hd : decode X.2.1 pc = .ok (.imul, n)) (h : jx_k n 1 (ja_b2 (fun x y => x * y) pc lv st w) = some q) (hq : jx_To p l e R s m args below meth c Qf b0 D kA X t q) : jx_Go p l e R s m args below meth c Qf b0 D kA X t pc lv st w := by
  obtain ⟨rfl, h⟩ := jx_k_some h
  obtain ⟨x, y, st0, rfl, rfl⟩ := ja_b2_some h
  exact jx_lift hq (fun ls H locs cells slots hl _ _ _ _ k => lv_imul hF.1 hF.2.1 hd k)
theorem js_iand (hF : jx_Fx d b0 Z D kA X p R s m args meth c) (hd : decode X.2.1 pc = .ok (.iand, n)) (h : jx_k n 1 (ja_b2 (fun x y => x &&& y) pc lv st w) = some q) (hq : jx_To p l e R s m args below meth c Qf b0 D kA X t q) : jx_Go p l e R s m args below meth c Qf b0 D kA X t pc lv st w := by
  obtain ⟨rfl, h⟩ := jx_k_some h
  obtain ⟨x, y, st0, rfl, rfl⟩ := ja_b2_some h
  exact jx_lift hq (fun ls H locs cells slots hl _ _ _ _ k => lv_iand hF.1 hF.2.1 hd k)
theorem js_ior (hF : jx_Fx d b0 Z D kA X p R s m args meth c) (hd : decode X.2.1 pc = .ok (.ior, n)) (h : jx_k n 1 (ja_b2 (fun x y => x ||| y) pc lv st w) = some q) (hq : jx_To p l e R s m args below meth c Qf b0 D kA X t q) : jx_Go p l e R s m args below meth c Qf b0 D kA X t pc lv st w := by
  obtain ⟨rfl, h⟩ := jx_k_some h
  obtain ⟨x, y, st0, rfl, rfl⟩ := ja_b2_some h
  exact jx_lift hq (fun ls H locs cells slots hl _ _ _ _ k => lv_ior hF.1 hF.2.1 hd k)
theorem js_ixor (hF : jx_Fx d b0 Z D kA X p R s m args meth c) (hd : decode X.2.1 pc = .ok (.ixor, n)) (h : jx_k n 1 (ja_b2 (fun x y => x ^^^ y) pc lv st w) = some q) (hq : jx_To p l e R s m args below meth c Qf b0 D kA X t q) : jx_Go p l e R s m args below meth c Qf b0 D kA X t pc lv st w := by
  obtain ⟨rfl, h⟩ := jx_k_some h
  obtain ⟨x, y, st0, rfl, rfl⟩ := ja_b2_some h
  exact jx_lift hq (fun ls H locs cells slots hl _ _ _ _ k => lv_ixor hF.1 hF.2.1 hd k)
theorem js_ishl (hF : jx_Fx d b0 Z D kA X p R s m args meth c) (hd : decode X.2.1 pc = .ok (.ishl, n)) (h : jx_k n 1 (ja_b2 (fun x y => x <<< (y &&& 31)) pc lv st w) = some q) (hq : jx_To p l e R s m args below meth c Qf b0 D kA X t q) : jx_Go p l e R s m args below meth c Qf b0 D kA X t pc lv st w := by
  obtain ⟨rfl, h⟩ := jx_k_some h
  obtain ⟨x, y, st0, rfl, rfl⟩ := ja_b2_some h
  exact jx_lift hq (fun ls H locs cells slots hl _ _ _ _ k => lv_ishl hF.1 hF.2.1 hd k)
theorem js_ishr (hF : jx_Fx d b0 Z D kA X p R s m args meth c) (hd : decode X.2.1 pc = .ok (.ishr, n)) (h : jx_k n 1 (ja_b2 (fun x y => x >>> (y &&& 31)) pc lv st w) = some q) (hq : jx_To p l e R s m args below meth c Qf b0 D kA X t q) : jx_Go p l e R s m args below meth c Qf b0 D kA X t pc lv st w := by
  obtain ⟨rfl, h⟩ := jx_k_some h
  obtain ⟨x, y, st0, rfl, rfl⟩ := ja_b2_some h
  exact jx_lift hq (fun ls H locs cells slots hl _ _ _ _ k => lv_ishr hF.1 hF.2.1 hd k)
theorem js_iushr (hF : jx_Fx d b0 Z D kA X p R s m args meth c) (hd : decode X.2.1 pc = .ok (.iushr, n)) (h : jx_k n 1 (ja_b2 (fun x y => (x.toUInt32 >>> (y.toUInt32 &&& Int32.toUInt32 31)).toInt32) pc lv st w) = some q) (hq : jx_To p l e R s m args below meth c Qf b0 D kA X t q) : jx_Go p l e R s m args below meth c Qf b0 D kA X t pc lv st w := by
  obtain ⟨rfl, h⟩ := jx_k_some h
  obtain ⟨x, y, st0, rfl, rfl⟩ := ja_b2_some h
  exact jx_lift hq (fun ls H locs cells slots hl _ _ _ _ k => lv_iushr hF.1 hF.2.1 hd rfl k)
theorem js_idiv (hF : jx_Fx d b0 Z D kA X p R s m args meth c) (hd : decode X.2.1 pc = .ok (.idiv, n)) (h : jx_k n 1 (ja_b0 (fun x y => x / y) pc lv st w) = some q) (hq : jx_To p l e R s m args below meth c Qf b0 D kA X t q) : jx_Go p l e R s m args below meth c Qf b0 D kA X t pc lv st w := by
  obtain ⟨rfl, h⟩ := jx_k_some h
  obtain ⟨x, y, st0, rfl, h0, rfl⟩ := ja_b0_some h
  exact jx_lift hq (fun ls H locs cells slots hl _ _ _ _ k => lv_idiv hF.1 hF.2.1 hd h0 k)
theorem js_irem (hF : jx_Fx d b0 Z D kA X p R s m args meth c) (hd : decode X.2.1 pc = .ok (.irem, n)) (h : jx_k n 1 (ja_b0 (fun x y => x - x / y * y) pc lv st w) = some q) (hq : jx_To p l e R s m args below meth c Qf b0 D kA X t q) : jx_Go p l e R s m args below meth c Qf b0 D kA X t pc lv st w := by
  obtain ⟨rfl, h⟩ := jx_k_some h
  obtain ⟨x, y, st0, rfl, h0, rfl⟩ := ja_b0_some h
  exact jx_lift hq (fun ls H locs cells slots hl _ _ _ _ k => lv_irem hF.1 hF.2.1 hd h0 k)
theorem js_iconst {i : Int} (hF : jx_Fx d b0 Z D kA X p R s m args meth c) (hd : decode X.2.1 pc = .ok (.iconst i, n)) (h : jx_k n 1 (jx_go (pc + 1) lv (.inl (Int32.ofInt i) :: st) w) = some q) (hq : jx_To p l e R s m args below meth c Qf b0 D kA X t q) : jx_Go p l e R s m args below meth c Qf b0 D kA X t pc lv st w := by
  obtain ⟨rfl, h⟩ := jx_k_some h
  cases jx_go_some h
  exact jx_lift hq (fun ls H locs cells slots hl _ _ _ _ k => lv_iconst hF.1 hF.2.1 hd rfl k)
theorem js_bipush {i : Int} (hF : jx_Fx d b0 Z D kA X p R s m args meth c) (hd : decode X.2.1 pc = .ok (.bipush i, n)) (h : jx_k n 2 (jx_go (pc + 2) lv (.inl ((Int8.ofInt i).toInt32) :: st) w) = some q) (hq : jx_To p l e R s m args below meth c Qf b0 D kA X t q) : jx_Go p l e R s m args below meth c Qf b0 D kA X t pc lv st w := by
  obtain ⟨rfl, h⟩ := jx_k_some h
  cases jx_go_some h
  exact jx_lift hq (fun ls H locs cells slots hl _ _ _ _ k => lv_bipush hF.1 hF.2.1 hd rfl k)
theorem js_sipush {i : Int} (hF : jx_Fx d b0 Z D kA X p R s m args meth c) (hd : decode X.2.1 pc = .ok (.sipush i, n)) (h : jx_k n 3 (jx_go (pc + 3) lv (.inl ((Int16.ofInt i).toInt32) :: st) w) = some q) (hq : jx_To p l e R s m args below meth c Qf b0 D kA X t q) : jx_Go p l e R s m args below meth c Qf b0 D kA X t pc lv st w := by
  obtain ⟨rfl, h⟩ := jx_k_some h
  cases jx_go_some h
  exact jx_lift hq (fun ls H locs cells slots hl _ _ _ _ k => lv_sipush hF.1 hF.2.1 hd rfl k)
theorem js_aconst_null (hF : jx_Fx d b0 Z D kA X p R s m args meth c) (hd : decode X.2.1 pc = .ok (.aconst_null, n)) (h : jx_k n 1 (jx_go (pc + 1) lv (.inr none :: st) w) = some q) (hq : jx_To p l e R s m args below meth c Qf b0 D kA X t q) : jx_Go p l e R s m args below meth c Qf b0 D kA X t pc lv st w := by
  obtain ⟨rfl, h⟩ := jx_k_some h
  cases jx_go_some h
  exact jx_lift hq (fun ls H locs cells slots hl _ _ _ _ k => lv_null hF.1 hF.2.1 hd k)
theorem js_iload_n {i : Fin 4} (hF : jx_Fx d b0 Z D kA X p R s m args meth c) (hd : decode X.2.1 pc = .ok (.iload_n i, n)) (h : jx_k n 1 (ja_li i.val pc 1 lv st w) = some q) (hq : jx_To p l e R s m args below meth c Qf b0 D kA X t q) : jx_Go p l e R s m args below meth c Qf b0 D kA X t pc lv st w := by
  obtain ⟨rfl, h⟩ := jx_k_some h
  obtain ⟨x, hx, rfl⟩ := ja_li_some h
  exact jx_lift hq (fun ls H locs cells slots hl _ _ _ _ k => lv_iload_n hF.1 hF.2.1 hd rfl (jx_at hl hx) k)
theorem js_iload {i : Nat} (hF : jx_Fx d b0 Z D kA X p R s m args meth c) (hd : decode X.2.1 pc = .ok (.iload i, n)) (h : jx_k n 2 (ja_li i pc 2 lv st w) = some q) (hq : jx_To p l e R s m args below meth c Qf b0 D kA X t q) : jx_Go p l e R s m args below meth c Qf b0 D kA X t pc lv st w := by
  obtain ⟨rfl, h⟩ := jx_k_some h
  obtain ⟨x, hx, rfl⟩ := ja_li_some h
  exact jx_lift hq (fun ls H locs cells slots hl _ _ _ _ k => lv_iload hF.1 hF.2.1 hd (jx_at hl hx) k)
theorem js_aload_n {i : Fin 4} (hF : jx_Fx d b0 Z D kA X p R s m args meth c) (hd : decode X.2.1 pc = .ok (.aload_n i, n)) (h : jx_k n 1 (ja_la i.val pc 1 lv st w) = some q) (hq : jx_To p l e R s m args below meth c Qf b0 D kA X t q) : jx_Go p l e R s m args below meth c Qf b0 D kA X t pc lv st w := by
  obtain ⟨rfl, h⟩ := jx_k_some h
  obtain ⟨r, hx, rfl⟩ := ja_la_some h
  cases r with
  | none => exact jx_lift hq (fun ls H locs cells slots hl _ _ _ _ k => lv_aload_nN hF.1 hF.2.1 hd rfl (jx_at hl hx) k)
  | some a => exact jx_lift hq (fun ls H locs cells slots hl _ _ _ _ k => lv_aload_n hF.1 hF.2.1 hd rfl (jx_at hl hx) k)
theorem js_aload {i : Nat} (hF : jx_Fx d b0 Z D kA X p R s m args meth c) (hd : decode X.2.1 pc = .ok (.aload i, n)) (h : jx_k n 2 (ja_la i pc 2 lv st w) = some q) (hq : jx_To p l e R s m args below meth c Qf b0 D kA X t q) : jx_Go p l e R s m args below meth c Qf b0 D kA X t pc lv st w := by
  obtain ⟨rfl, h⟩ := jx_k_some h
  obtain ⟨r, hx, rfl⟩ := ja_la_some h
  cases r with
  | none => exact jx_lift hq (fun ls H locs cells slots hl _ _ _ _ k => lv_aloadN hF.1 hF.2.1 hd (jx_at hl hx) k)
  | some a => exact jx_lift hq (fun ls H locs cells slots hl _ _ _ _ k => lv_aload hF.1 hF.2.1 hd (jx_at hl hx) k)
theorem js_istore_n {i : Fin 4} (hF : jx_Fx d b0 Z D kA X p R s m args meth c) (hd : decode X.2.1 pc = .ok (.istore_n i, n)) (h : jx_k n 1 (ja_si X.2.2.1 i.val pc 1 lv st w) = some q) (hq : jx_To p l e R s m args below meth c Qf b0 D kA X t q) : jx_Go p l e R s m args below meth c Qf b0 D kA X t pc lv st w := by
  obtain ⟨rfl, h⟩ := jx_k_some h
  obtain ⟨x, st0, rfl, hi, rfl⟩ := ja_si_some h
  exact jx_lifl hq (fun ls H locs cells slots hl k => lv_istore_n hF.1 hF.2.1 hd rfl hl hi rfl k)
theorem js_istore {i : Nat} (hF : jx_Fx d b0 Z D kA X p R s m args meth c) (hd : decode X.2.1 pc = .ok (.istore i, n)) (h : jx_k n 2 (ja_si X.2.2.1 i pc 2 lv st w) = some q) (hq : jx_To p l e R s m args below meth c Qf b0 D kA X t q) : jx_Go p l e R s m args below meth c Qf b0 D kA X t pc lv st w := by
  obtain ⟨rfl, h⟩ := jx_k_some h
  obtain ⟨x, st0, rfl, hi, rfl⟩ := ja_si_some h
  exact jx_lifl hq (fun ls H locs cells slots hl k => lv_istore hF.1 hF.2.1 hd hl hi rfl k)
theorem js_astore_n {i : Fin 4} (hF : jx_Fx d b0 Z D kA X p R s m args meth c) (hd : decode X.2.1 pc = .ok (.astore_n i, n)) (h : jx_k n 1 (ja_sa X.2.2.1 i.val pc 1 lv st w) = some q) (hq : jx_To p l e R s m args below meth c Qf b0 D kA X t q) : jx_Go p l e R s m args below meth c Qf b0 D kA X t pc lv st w := by
  obtain ⟨rfl, h⟩ := jx_k_some h
  obtain ⟨r, st0, rfl, hi, rfl⟩ := ja_sa_some h
  cases r with
  | none => exact jx_lifl hq (fun ls H locs cells slots hl k => lv_astore_nN hF.1 hF.2.1 hd rfl hl hi rfl k)
  | some a => exact jx_lifl hq (fun ls H locs cells slots hl k => lv_astore_n hF.1 hF.2.1 hd rfl hl hi rfl k)
theorem js_astore {i : Nat} (hF : jx_Fx d b0 Z D kA X p R s m args meth c) (hd : decode X.2.1 pc = .ok (.astore i, n)) (h : jx_k n 2 (ja_sa X.2.2.1 i pc 2 lv st w) = some q) (hq : jx_To p l e R s m args below meth c Qf b0 D kA X t q) : jx_Go p l e R s m args below meth c Qf b0 D kA X t pc lv st w := by
  obtain ⟨rfl, h⟩ := jx_k_some h
  obtain ⟨r, st0, rfl, hi, rfl⟩ := ja_sa_some h
  cases r with
  | none => exact jx_lifl hq (fun ls H locs cells slots hl k => lv_astoreN hF.1 hF.2.1 hd hl hi rfl k)
  | some a => exact jx_lifl hq (fun ls H locs cells slots hl k => lv_astore hF.1 hF.2.1 hd hl hi rfl k)
theorem js_iinc {i : Nat} {x : Int} (hF : jx_Fx d b0 Z D kA X p R s m args meth c) (hd : decode X.2.1 pc = .ok (.iinc i x, n)) (h : jx_k n 3 (ja_ii X.2.2.1 i x pc lv st w) = some q) (hq : jx_To p l e R s m args below meth c Qf b0 D kA X t q) : jx_Go p l e R s m args below meth c Qf b0 D kA X t pc lv st w := by
  obtain ⟨rfl, h⟩ := jx_k_some h
  obtain ⟨v, hx, hi, rfl⟩ := ja_ii_some h
  obtain ⟨k0, hk0⟩ := List.getElem?_of_mem (jx_ps_in lv 0 i _ hx)
  rw [Nat.zero_add] at hk0
  exact jx_lifl hq (fun ls H locs cells slots hl k => lv_iinc hF.1 hF.2.1 hd hl hk0 rfl hi rfl k)
theorem js_ineg (hF : jx_Fx d b0 Z D kA X p R s m args meth c) (hd : decode X.2.1 pc = .ok (.ineg, n)) (h : jx_k n 1 (ja_neg pc lv st w) = some q) (hq : jx_To p l e R s m args below meth c Qf b0 D kA X t q) : jx_Go p l e R s m args below meth c Qf b0 D kA X t pc lv st w := by
  obtain ⟨rfl, h⟩ := jx_k_some h
  obtain ⟨x, st0, rfl, rfl⟩ := ja_neg_some h
  exact jx_lift hq (fun ls H locs cells slots hl _ _ _ _ k => lv_ineg hF.1 hF.2.1 hd k)
theorem js_dup (hF : jx_Fx d b0 Z D kA X p R s m args meth c) (hd : decode X.2.1 pc = .ok (.dup, n)) (h : jx_k n 1 (ja_dup pc lv st w) = some q) (hq : jx_To p l e R s m args below meth c Qf b0 D kA X t q) : jx_Go p l e R s m args below meth c Qf b0 D kA X t pc lv st w := by
  obtain ⟨rfl, h⟩ := jx_k_some h
  obtain ⟨v, st0, rfl, rfl⟩ := ja_dup_some h
  exact jx_lift hq (fun ls H locs cells slots hl _ _ _ _ k => lv_dup hF.1 hF.2.1 hd (jx_cat _) k)
theorem js_dup2 (hF : jx_Fx d b0 Z D kA X p R s m args meth c) (hd : decode X.2.1 pc = .ok (.dup2, n)) (h : jx_k n 1 (ja_dup2 pc lv st w) = some q) (hq : jx_To p l e R s m args below meth c Qf b0 D kA X t q) : jx_Go p l e R s m args below meth c Qf b0 D kA X t pc lv st w := by
  obtain ⟨rfl, h⟩ := jx_k_some h
  obtain ⟨v, u, st0, rfl, rfl⟩ := ja_dup2_some h
  exact jx_lift hq (fun ls H locs cells slots hl _ _ _ _ k => lv_dup2_11 hF.1 hF.2.1 hd (jx_cat _) (jx_cat _) k)
theorem js_pop (hF : jx_Fx d b0 Z D kA X p R s m args meth c) (hd : decode X.2.1 pc = .ok (.pop, n)) (h : jx_k n 1 (ja_pop pc lv st w) = some q) (hq : jx_To p l e R s m args below meth c Qf b0 D kA X t q) : jx_Go p l e R s m args below meth c Qf b0 D kA X t pc lv st w := by
  obtain ⟨rfl, h⟩ := jx_k_some h
  obtain ⟨v, st0, rfl, rfl⟩ := ja_pop_some h
  exact jx_lift hq (fun ls H locs cells slots hl _ _ _ _ k => lv_pop hF.1 hF.2.1 hd (jx_cat _) k)
theorem js_if_eq {off : Int} (hF : jx_Fx d b0 Z D kA X p R s m args meth c) (hd : decode X.2.1 pc = .ok (.ifCond .eq off, n)) (h : jx_k n 3 (ja_if .eq off pc lv st w) = some q) (hq : jx_To p l e R s m args below meth c Qf b0 D kA X t q) : jx_Go p l e R s m args below meth c Qf b0 D kA X t pc lv st w := by
  obtain ⟨rfl, h⟩ := jx_k_some h
  obtain ⟨x, st0, rfl, tg, ht, rfl⟩ := ja_if_some h
  exact jx_two hq (fun ls H locs cells slots kt kf => lv_if_eq hF.1 hF.2.1 hd ht (fun hc => kt (decide_eq_true hc)) (fun hc => kf (fun q => hc (of_decide_eq_true q))))
theorem js_icmp_eq {off : Int} (hF : jx_Fx d b0 Z D kA X p R s m args meth c) (hd : decode X.2.1 pc = .ok (.if_icmp .eq off, n)) (h : jx_k n 3 (ja_ic .eq off pc lv st w) = some q) (hq : jx_To p l e R s m args below meth c Qf b0 D kA X t q) : jx_Go p l e R s m args below meth c Qf b0 D kA X t pc lv st w := by
  obtain ⟨rfl, h⟩ := jx_k_some h
  obtain ⟨x, y, st0, rfl, tg, ht, rfl⟩ := ja_ic_some h
  exact jx_two hq (fun ls H locs cells slots kt kf => lv_icmp_eq hF.1 hF.2.1 hd ht (fun hc => kt (decide_eq_true hc)) (fun hc => kf (fun q => hc (of_decide_eq_true q))))
theorem js_if_ne {off : Int} (hF : jx_Fx d b0 Z D kA X p R s m args meth c) (hd : decode X.2.1 pc = .ok (.ifCond .ne off, n)) (h : jx_k n 3 (ja_if .ne off pc lv st w) = some q) (hq : jx_To p l e R s m args below meth c Qf b0 D kA X t q) : jx_Go p l e R s m args below meth c Qf b0 D kA X t pc lv st w := by
  obtain ⟨rfl, h⟩ := jx_k_some h
  obtain ⟨x, st0, rfl, tg, ht, rfl⟩ := ja_if_some h
  exact jx_two hq (fun ls H locs cells slots kt kf => lv_if_ne hF.1 hF.2.1 hd ht (fun hc => kt (decide_eq_true hc)) (fun hc => kf (fun q => (of_decide_eq_true q) hc)))
theorem js_icmp_ne {off : Int} (hF : jx_Fx d b0 Z D kA X p R s m args meth c) (hd : decode X.2.1 pc = .ok (.if_icmp .ne off, n)) (h : jx_k n 3 (ja_ic .ne off pc lv st w) = some q) (hq : jx_To p l e R s m args below meth c Qf b0 D kA X t q) : jx_Go p l e R s m args below meth c Qf b0 D kA X t pc lv st w := by
  obtain ⟨rfl, h⟩ := jx_k_some h
  obtain ⟨x, y, st0, rfl, tg, ht, rfl⟩ := ja_ic_some h
  exact jx_two hq (fun ls H locs cells slots kt kf => lv_icmp_ne hF.1 hF.2.1 hd ht (fun hc => kt (decide_eq_true hc)) (fun hc => kf (fun q => (of_decide_eq_true q) hc)))
theorem js_if_lt {off : Int} (hF : jx_Fx d b0 Z D kA X p R s m args meth c) (hd : decode X.2.1 pc = .ok (.ifCond .lt off, n)) (h : jx_k n 3 (ja_if .lt off pc lv st w) = some q) (hq : jx_To p l e R s m args below meth c Qf b0 D kA X t q) : jx_Go p l e R s m args below meth c Qf b0 D kA X t pc lv st w := by
  obtain ⟨rfl, h⟩ := jx_k_some h
  obtain ⟨x, st0, rfl, tg, ht, rfl⟩ := ja_if_some h
  exact jx_two hq (fun ls H locs cells slots kt kf => lv_if_lt hF.1 hF.2.1 hd ht (fun hc => kt (decide_eq_true hc)) (fun hc => kf (fun q => hc (of_decide_eq_true q))))
theorem js_icmp_lt {off : Int} (hF : jx_Fx d b0 Z D kA X p R s m args meth c) (hd : decode X.2.1 pc = .ok (.if_icmp .lt off, n)) (h : jx_k n 3 (ja_ic .lt off pc lv st w) = some q) (hq : jx_To p l e R s m args below meth c Qf b0 D kA X t q) : jx_Go p l e R s m args below meth c Qf b0 D kA X t pc lv st w := by
  obtain ⟨rfl, h⟩ := jx_k_some h
  obtain ⟨x, y, st0, rfl, tg, ht, rfl⟩ := ja_ic_some h
  exact jx_two hq (fun ls H locs cells slots kt kf => lv_icmp_lt hF.1 hF.2.1 hd ht (fun hc => kt (decide_eq_true hc)) (fun hc => kf (fun q => hc (of_decide_eq_true q))))
theorem js_if_ge {off : Int} (hF : jx_Fx d b0 Z D kA X p R s m args meth c) (hd : decode X.2.1 pc = .ok (.ifCond .ge off, n)) (h : jx_k n 3 (ja_if .ge off pc lv st w) = some q) (hq : jx_To p l e R s m args below meth c Qf b0 D kA X t q) : jx_Go p l e R s m args below meth c Qf b0 D kA X t pc lv st w := by
  obtain ⟨rfl, h⟩ := jx_k_some h
  obtain ⟨x, st0, rfl, tg, ht, rfl⟩ := ja_if_some h
  exact jx_two hq (fun ls H locs cells slots kt kf => lv_if_ge hF.1 hF.2.1 hd ht (fun hc => kt (decide_eq_true hc)) (fun hc => kf (fun q => hc (of_decide_eq_true q))))
theorem js_icmp_ge {off : Int} (hF : jx_Fx d b0 Z D kA X p R s m args meth c) (hd : decode X.2.1 pc = .ok (.if_icmp .ge off, n)) (h : jx_k n 3 (ja_ic .ge off pc lv st w) = some q) (hq : jx_To p l e R s m args below meth c Qf b0 D kA X t q) : jx_Go p l e R s m args below meth c Qf b0 D kA X t pc lv st w := by
  obtain ⟨rfl, h⟩ := jx_k_some h
  obtain ⟨x, y, st0, rfl, tg, ht, rfl⟩ := ja_ic_some h
  exact jx_two hq (fun ls H locs cells slots kt kf => lv_icmp_ge hF.1 hF.2.1 hd ht (fun hc => kt (decide_eq_true hc)) (fun hc => kf (fun q => hc (of_decide_eq_true q))))
theorem js_if_gt {off : Int} (hF : jx_Fx d b0 Z D kA X p R s m args meth c) (hd : decode X.2.1 pc = .ok (.ifCond .gt off, n)) (h : jx_k n 3 (ja_if .gt off pc lv st w) = some q) (hq : jx_To p l e R s m args below meth c Qf b0 D kA X t q) : jx_Go p l e R s m args below meth c Qf b0 D kA X t pc lv st w := by
  obtain ⟨rfl, h⟩ := jx_k_some h
  obtain ⟨x, st0, rfl, tg, ht, rfl⟩ := ja_if_some h
  exact jx_two hq (fun ls H locs cells slots kt kf => lv_if_gt hF.1 hF.2.1 hd ht (fun hc => kt (decide_eq_true hc)) (fun hc => kf (fun q => hc (of_decide_eq_true q))))
theorem js_icmp_gt {off : Int} (hF : jx_Fx d b0 Z D kA X p R s m args meth c) (hd : decode X.2.1 pc = .ok (.if_icmp .gt off, n)) (h : jx_k n 3 (ja_ic .gt off pc lv st w) = some q) (hq : jx_To p l e R s m args below meth c Qf b0 D kA X t q) : jx_Go p l e R s m args below meth c Qf b0 D kA X t pc lv st w := by
  obtain ⟨rfl, h⟩ := jx_k_some h
  obtain ⟨x, y, st0, rfl, tg, ht, rfl⟩ := ja_ic_some h
  exact jx_two hq (fun ls H locs cells slots kt kf => lv_icmp_gt hF.1 hF.2.1 hd ht (fun hc => kt (decide_eq_true hc)) (fun hc => kf (fun q => hc (of_decide_eq_true q))))
theorem js_if_le {off : Int} (hF : jx_Fx d b0 Z D kA X p R s m args meth c) (hd : decode X.2.1 pc = .ok (.ifCond .le off, n)) (h : jx_k n 3 (ja_if .le off pc lv st w) = some q) (hq : jx_To p l e R s m args below meth c Qf b0 D kA X t q) : jx_Go p l e R s m args below meth c Qf b0 D kA X t pc lv st w := by
  obtain ⟨rfl, h⟩ := jx_k_some h
  obtain ⟨x, st0, rfl, tg, ht, rfl⟩ := ja_if_some h
  exact jx_two hq (fun ls H locs cells slots kt kf => lv_if_le hF.1 hF.2.1 hd ht (fun hc => kt (decide_eq_true hc)) (fun hc => kf (fun q => hc (of_decide_eq_true q))))
theorem js_icmp_le {off : Int} (hF : jx_Fx d b0 Z D kA X p R s m args meth c) (hd : decode X.2.1 pc = .ok (.if_icmp .le off, n)) (h : jx_k n 3 (ja_ic .le off pc lv st w) = some q) (hq : jx_To p l e R s m args below meth c Qf b0 D kA X t q) : jx_Go p l e R s m args below meth c Qf b0 D kA X t pc lv st w := by
  obtain ⟨rfl, h⟩ := jx_k_some h
  obtain ⟨x, y, st0, rfl, tg, ht, rfl⟩ := ja_ic_some h
  exact jx_two hq (fun ls H locs cells slots kt kf => lv_icmp_le hF.1 hF.2.1 hd ht (fun hc => kt (decide_eq_true hc)) (fun hc => kf (fun q => hc (of_decide_eq_true q))))
theorem js_ifnull {off : Int} (hF : jx_Fx d b0 Z D kA X p R s m args meth c) (hd : decode X.2.1 pc = .ok (.ifnull off, n)) (h : jx_k n 3 (ja_nl off pc lv st w) = some q) (hq : jx_To p l e R s m args below meth c Qf b0 D kA X t q) : jx_Go p l e R s m args below meth c Qf b0 D kA X t pc lv st w := by
  obtain ⟨rfl, h⟩ := jx_k_some h
  obtain ⟨r, st0, rfl, tg, ht, rfl⟩ := ja_nl_some h
  cases r with
  | none => exact jx_two hq (fun ls H locs cells slots kt kf => lv_ifnullN hF.1 hF.2.1 hd ht (kt rfl))
  | some a => exact jx_two hq (fun ls H locs cells slots kt kf => lv_ifnull hF.1 hF.2.1 hd (kf (by simp)))
theorem js_ifnonnull {off : Int} (hF : jx_Fx d b0 Z D kA X p R s m args meth c) (hd : decode X.2.1 pc = .ok (.ifnonnull off, n)) (h : jx_k n 3 (ja_nn off pc lv st w) = some q) (hq : jx_To p l e R s m args below meth c Qf b0 D kA X t q) : jx_Go p l e R s m args below meth c Qf b0 D kA X t pc lv st w := by
  obtain ⟨rfl, h⟩ := jx_k_some h
  obtain ⟨r, st0, rfl, tg, ht, rfl⟩ := ja_nn_some h
  cases r with
  | none => exact jx_two hq (fun ls H locs cells slots kt kf => lv_ifnonnullN hF.1 hF.2.1 hd (kf (by simp)))
  | some a => exact jx_two hq (fun ls H locs cells slots kt kf => lv_ifnonnull hF.1 hF.2.1 hd ht (kt rfl))
theorem js_goto {off : Int} (hF : jx_Fx d b0 Z D kA X p R s m args meth c) (hd : decode X.2.1 pc = .ok (.goto off, n)) (h : jx_k n 3 (jx_br true pc off lv st w) = some q) (hq : jx_To p l e R s m args below meth c Qf b0 D kA X t q) : jx_Go p l e R s m args below meth c Qf b0 D kA X t pc lv st w := by
  obtain ⟨rfl, h⟩ := jx_k_some h
  obtain ⟨tg, ht, rfl⟩ := jx_br_some h
  exact jx_two hq (fun ls H locs cells slots kt kf => lv_goto hF.1 hF.2.1 hd ht (kt rfl))
theorem js_tableswitch {dd lo hi : Int} {offs : Array Int} (hF : jx_Fx d b0 Z D kA X p R s m args meth c) (hd : decode X.2.1 pc = .ok (.tableswitch dd lo hi offs, n)) (h : ja_ts dd lo hi offs pc lv st w = some q) (hq : jx_To p l e R s m args below meth c Qf b0 D kA X t q) : jx_Go p l e R s m args below meth c Qf b0 D kA X t pc lv st w := by
  obtain ⟨x, st0, rfl, off, ho, tg, ht, rfl⟩ := ja_ts_some h
  rcases ho with ⟨ho, rfl⟩ | ⟨h1, h2, h3⟩
  · exact jx_lift hq (fun ls H locs cells slots hl _ _ _ _ k => lv_tableOut hF.1 hF.2.1 hd ho ht k)
  · exact jx_lift hq (fun ls H locs cells slots hl _ _ _ _ k => lv_tableIn hF.1 hF.2.1 hd h1 h2 h3 ht k)
theorem js_ldc {k : Nat} (hF : jx_Fx d b0 Z D kA X p R s m args meth c) (hd : decode X.2.1 pc = .ok (.ldc k, n)) (h : jx_k n 2 (ja_lc X k pc lv st w) = some q) (hq : jx_To p l e R s m args below meth c Qf b0 D kA X t q) : jx_Go p l e R s m args below meth c Qf b0 D kA X t pc lv st w := by
  obtain ⟨rfl, h⟩ := jx_k_some h
  obtain ⟨v, hv, rfl⟩ := ja_lc_some h
  exact jx_lift hq (fun ls H locs cells slots hl _ _ _ _ kk => lv_ldc hF.1 hF.2.1 hF.2.2.2.1 (hF.2.2.2.2.1 _ (jt_cst_ok hv)) hd kk)
end JB
