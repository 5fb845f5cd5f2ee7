/-! The interpreter is sound: what jx_m answers, the machine does (Met), for every method of the tables. Here: locals, heaps, and how a step is lifted. -/
theorem jx_cat (v : jx_V) : (jx_v v).category = 1 := by
  rcases v with x | (_ | a) <;> rfl
theorem jx_sum : ∀ st : List jx_V, ((st.map jx_v).map fun v => v.category).sum = st.length
  | [] => rfl
  | v :: st => by
    have h := jx_sum st
    have h1 := jx_cat v
    simp only [List.map_cons, List.sum_cons, List.length_cons]
    rw [h, h1]
    omega
/-- the locals that are known -/
def jx_ps : Nat → jx_L → List (Nat × Value)
  | _, [] => []
  | i, none :: l => jx_ps (i + 1) l
  | i, some v :: l => (i, jx_v v) :: jx_ps (i + 1) l
theorem jx_ps_in : ∀ (l : jx_L) (i k : Nat) (v : jx_V), l[k]? = some (some v) → (i + k, jx_v v) ∈ jx_ps i l
  | [], i, k, v, h => by simp at h
  | none :: l, i, 0, v, h => by simp at h
  | some u :: l, i, 0, v, h => by
    simp only [List.getElem?_cons_zero, Option.some.injEq] at h
    subst h
    exact List.mem_cons_self
  | none :: l, i, k + 1, v, h => by
    rw [List.getElem?_cons_succ] at h
    have := jx_ps_in l (i + 1) k v h
    rw [show i + (k + 1) = i + 1 + k by omega]
    exact this
  | some u :: l, i, k + 1, v, h => by
    rw [List.getElem?_cons_succ] at h
    have := jx_ps_in l (i + 1) k v h
    rw [show i + (k + 1) = i + 1 + k by omega]
    exact List.mem_cons_of_mem _ this
theorem jx_ps_of : ∀ (l : jx_L) (i : Nat) (q : Nat × Value), q ∈ jx_ps i l → ∃ k v, l[k]? = some (some v) ∧ q = (i + k, jx_v v)
  | [], i, q, h => by simp [jx_ps] at h
  | none :: l, i, q, h => by
    obtain ⟨k, v, h1, h2⟩ := jx_ps_of l (i + 1) q h
    exact ⟨k + 1, v, by rw [List.getElem?_cons_succ]; exact h1, by rw [h2, show i + 1 + k = i + (k + 1) by omega]⟩
  | some u :: l, i, q, h => by
    rcases List.mem_cons.mp h with h | h
    · exact ⟨0, u, rfl, h⟩
    · obtain ⟨k, v, h1, h2⟩ := jx_ps_of l (i + 1) q h
      exact ⟨k + 1, v, by rw [List.getElem?_cons_succ]; exact h1, by rw [h2, show i + 1 + k = i + (k + 1) by omega]⟩
theorem jx_at {ls : Array Slot} {nL k : Nat} {lv : jx_L} {v : jx_V} (h : lv_has ls nL (jx_ps 0 lv)) (hk : lv[k]? = some (some v)) : ls[k]? = some (.val (jx_v v)) := by
  have := h.2.2 _ (jx_ps_in lv 0 k v hk)
  simpa using this
theorem jx_set {ls : Array Slot} {nL i : Nat} {lv : jx_L} {v : jx_V} (h : lv_has ls nL ((i, jx_v v) :: (jx_ps 0 lv).filter (fun q => !(q.1 == i) && !(q.1 + 1 == i && q.2.category == 2)))) : lv_has ls nL (jx_ps 0 (lv.set i (some v))) := by
  refine ⟨h.1, h.2.1, fun q hq => ?_⟩
  obtain ⟨k, u, hk, rfl⟩ := jx_ps_of _ _ _ hq
  by_cases e : k = i
  · subst e
    have hu : u = v := by
      rw [List.getElem?_set] at hk
      simp only [if_true] at hk
      split at hk
      · cases hk; rfl
      · cases hk
    subst hu
    rw [Nat.zero_add]
    exact h.2.2 _ List.mem_cons_self
  · rw [List.getElem?_set_ne (Ne.symm e)] at hk
    refine h.2.2 _ (List.mem_cons_of_mem _ (List.mem_filter.mpr ⟨jx_ps_in lv 0 k u hk, ?_⟩))
    simp [e, jx_cat]
theorem jx_ps_none : ∀ (k i : Nat), jx_ps i (List.replicate k none) = []
  | 0, i => rfl
  | k + 1, i => by rw [List.replicate_succ]; exact jx_ps_none k (i + 1)
theorem jx_ps_args : ∀ (as : List jx_V) (k i : Nat), jx_ps i (as.map some ++ List.replicate k none) = lv_args i (as.map jx_v)
  | [], k, i => jx_ps_none k i
  | v :: as, k, i => by
    have h := jx_ps_args as k (i + 1)
    show (i, jx_v v) :: jx_ps (i + 1) (as.map some ++ List.replicate k none) = (i, jx_v v) :: lv_args (if (jx_v v).category = 2 then i + 2 else i + 1) (as.map jx_v)
    rw [h, jx_cat, if_neg (by decide)]
theorem jx_sl : ∀ as : List jx_V, (lg_sl (as.map jx_v)).length = as.length
  | [] => rfl
  | v :: as => by
    have h := jx_sl as
    unfold lg_sl at h ⊢
    rw [List.map_cons, List.flatMap_cons, List.length_append, h, jx_cat, if_neg (by decide)]
    simp only [List.length_cons, List.length_nil]
    omega
/-! what the heap holds -/
def jx_R (b0 : Nat) (D : va_G) (kA : Nat → ClassId) (w : jx_W) (H : Heap) : Prop := H.size = w.2.1 ∧ b0 ≤ w.2.1 ∧ ∀ (a : Nat) (c : jx_E), w.1 a = some c → b0 ≤ a ∧ va_at D jt_Cl (a, jx_e kA c) H
theorem jx_R.lt {b0 : Nat} {D : va_G} {kA : Nat → ClassId} {w : jx_W} {H : Heap} (h : jx_R b0 D kA w H) {a : Nat} {c : jx_E} (ha : w.1 a = some c) : a < H.size := (h.2.2 a c ha).2.lt
theorem jx_R.one {b0 : Nat} {D : va_G} {kA : Nat → ClassId} {w : jx_W} {H : Heap} (h : jx_R b0 D kA w H) {a : Nat} {c : jx_E} (ha : w.1 a = some c) : va_P D jt_Cl [(a, jx_e kA c)] H := by
  intro k q hk
  cases k with
  | zero => cases hk; exact (h.2.2 a c ha).2
  | succ k => simp at hk
theorem jx_R.set {b0 : Nat} {D : va_G} {kA : Nat → ClassId} {w : jx_W} {H H1 : Heap} (h : jx_R b0 D kA w H) {a : Nat} {c c' : jx_E} (ha : w.1 a = some c) (h1 : va_at D jt_Cl (a, jx_e kA c') H1) (hz : H1.size = H.size) (ho : ∀ q : Nat, q ≠ a → H1[q]? = H[q]?) : jx_R b0 D kA (va_up w.1 a (some c'), w.2) H1 := by
  refine ⟨hz.trans h.1, h.2.1, fun q x hq => ?_⟩
  by_cases e : q = a
  · subst e
    have hx : some c' = some x := by rw [← hq]; exact (va_up_self _ _ _).symm
    cases hx
    exact ⟨(h.2.2 _ _ ha).1, h1⟩
  · have hq : w.1 q = some x := by rw [← hq]; exact (va_up_ne _ _ e).symm
    exact ⟨(h.2.2 _ _ hq).1, (h.2.2 _ _ hq).2.kept (ho q e)⟩
theorem jx_R.push {b0 : Nat} {D : va_G} {kA : Nat → ClassId} {w : jx_W} {H H1 : Heap} (h : jx_R b0 D kA w H) {c : jx_E} {k : Nat} (h1 : va_at D jt_Cl (H.size, jx_e kA c) H1) (hz : H1.size = H.size + 1) (ho : ∀ q : Nat, q < H.size → H1[q]? = H[q]?) : jx_R b0 D kA (jx_nw w c k) H1 := by
  refine ⟨by rw [hz, h.1]; rfl, Nat.le_succ_of_le h.2.1, fun q x hq => ?_⟩
  have hn := h.1
  by_cases e : q = w.2.1
  · subst e
    have hx : some c = some x := by rw [← hq]; exact (va_up_self _ _ _).symm
    cases hx
    exact ⟨h.2.1, by rw [← hn]; exact h1⟩
  · have hq : w.1 q = some x := by rw [← hq]; exact (va_up_ne _ _ e).symm
    exact ⟨(h.2.2 _ _ hq).1, (h.2.2 _ _ hq).2.kept (ho q (h.lt hq))⟩
theorem jx_Sp {b0 : Nat} {H0 H H1 : Heap} {locs : List Loc} (h : va_S (fun q => b0 ≤ q) H0 H locs) (z : H1.size = H.size + 1) (o : ∀ q : Nat, q < H.size → H1[q]? = H[q]?) : va_S (fun q => b0 ≤ q) H0 H1 locs :=
  ⟨Nat.le_trans h.1 (by omega), fun x h1 h2 => (o x (Nat.lt_of_lt_of_le h1 h.1)).trans (h.2.1 x h1 h2), h.2.2⟩
/-! what the tables are -/
def jx_K (D : va_G) (kA : Nat → ClassId) (U : State) : Prop := va_K D jt_Cl (jt_tys kA) U ∧ (∀ c ∈ jt_nw, va_Nw c U) ∧ ∀ C ∈ jt_ao, va_AO C U
theorem jx_K.moved {D : va_G} {kA : Nat → ClassId} {s U : State} (hW : s.WarmedH U.vm) (h : jx_K D kA s) : jx_K D kA U := by
  refine ⟨h.1.moved hW.alike, fun c hc => ?_, fun C hC => (h.2.2 C hC).moved hW.alike⟩
  obtain ⟨a, i, x, hh, rfl⟩ := jt_nw_sh c hc
  exact va_Nw.warmM hW (h.2.1 _ hc)
def jx_B (b0 : Nat) (Z : jx_Sc) (D : va_G) (kA : Nat → ClassId) (w : jx_W) (U : State) : Prop := jx_R b0 D kA w U.heap ∧ jx_K D kA U ∧ va_X Z.1 Z.2.1 Z.2.2 U U.heap
theorem jx_blind {b0 : Nat} {Z : jx_Sc} {D : va_G} {kA : Nat → ClassId} {w : jx_W} {av : List Value} : FrameBlind (va_Pc av (jx_B b0 Z D kA w)) := by
  intro a U g mk h
  obtain ⟨h1, h2, ⟨h3, h4, h5⟩, h6⟩ := h
  exact ⟨h1, h2, ⟨h3.moved (Vm.Alike.refl U.vm), fun c hc => va_Nw.same (u := U) (U := U.calling g mk a) (jt_nw_on c hc) rfl (h4 c hc), fun C hC => (h5 C hC).moved (Vm.Alike.refl U.vm)⟩, h6.moved (Vm.Alike.refl U.vm)⟩
def jx_Q (b0 : Nat) (D : va_G) (kA : Nat → ClassId) (t : jx_T) : Array Value → State → Outcome → State → Prop := fun _ st o u => o = .returned (t.1.map jx_v) ∧ jx_R b0 D kA t.2 u.heap ∧ va_F (fun a => b0 ≤ a) st u
def jx_Fx (d b0 : Nat) (Z : jx_Sc) (D : va_G) (kA : Nat → ClassId) (X : jx_X) (p : Program) (R : Room) (s : State) (m : MethodId) (args : Array Value) (meth : Method) (c : Code) : Prop :=
  p.tables.exec = Jvm.exec ∧ c.code = X.2.1 ∧ c.maxLocals = X.2.2.1 ∧ s.vm.findClass (jt_cn X.1) = some m.cls ∧ (∀ w ∈ jt_G, w.before args s = true) ∧ (X.2.2.2.2 = true → meth.name = "<init>") ∧ jx_K D kA s ∧ d + 1 ≤ R.frames ∧ 38 * (d + 1) ≤ R.locals ∧ b0 ≤ s.heap.size ∧ va_X Z.1 Z.2.1 Z.2.2 s s.heap ∧ Z.1 < b0
/-- from the state the machine comes to the answer t -/
def jx_Go (p : Program) (l : Launch) (e : Env) (R : Room) (s : State) (m : MethodId) (args : Array Value) (below : List Frame) (meth : Method) (c : Code) (Qf : State → Prop) (b0 : Nat) (D : va_G) (kA : Nat → ClassId) (X : jx_X) (t : jx_T) (pc : Nat) (lv : jx_L) (st : List jx_V) (w : jx_W) : Prop :=
  w.2.1 ≤ t.2.2.1 ∧ w.2.2 ≤ t.2.2.2 ∧ ∀ (ls : Array Slot) (H : Heap) (locs : List Loc) (cells slots : Nat), lv_has ls X.2.2.1 (jx_ps 0 lv) → jx_R b0 D kA w H → va_S (fun a => b0 ≤ a) s.heap H locs → cells + (t.2.2.1 - w.2.1) = R.cells → slots + (t.2.2.2 - w.2.2) = R.slots →
    W p l e R s m args below meth c H locs cells slots Qf (F0 m pc ls (st.map jx_v))
def jx_To (p : Program) (l : Launch) (e : Env) (R : Room) (s : State) (m : MethodId) (args : Array Value) (below : List Frame) (meth : Method) (c : Code) (Qf : State → Prop) (b0 : Nat) (D : va_G) (kA : Nat → ClassId) (X : jx_X) (t : jx_T) (q : jx_S ⊕ jx_T) : Prop := match q with
  | .inl q => jx_Go p l e R s m args below meth c Qf b0 D kA X t q.1 q.2.1 q.2.2.1 q.2.2.2
  | .inr _ => False
section JS
variable {p : Program} {l : Launch} {e : Env} {R : Room} {s : State} {m : MethodId} {args : Array Value} {below : List Frame} {meth : Method} {c : Code} {Qf : State → Prop}
variable {d b0 : Nat} {Z : jx_Sc} {D : va_G} {kA : Nat → ClassId} {X : jx_X} {t : jx_T} {pc n : Nat} {lv : jx_L} {st : List jx_V} {w : jx_W} {q : jx_S ⊕ jx_T}
/-- a row that leaves locals and world -/
theorem jx_lift {pc' : Nat} {st' : List jx_V} (hG : jx_To p l e R s m args below meth c Qf b0 D kA X t (.inl (pc', lv, st', w)))
    (hrow : ∀ (ls : Array Slot) (H : Heap) (locs : List Loc) (cells slots : Nat), lv_has ls X.2.2.1 (jx_ps 0 lv) → jx_R b0 D kA w H → va_S (fun a => b0 ≤ a) s.heap H locs → cells ≤ R.cells → slots ≤ R.slots → W p l e R s m args below meth c H locs cells slots Qf (F0 m pc' ls (st'.map jx_v)) → W p l e R s m args below meth c H locs cells slots Qf (F0 m pc ls (st.map jx_v))) :
    jx_Go p l e R s m args below meth c Qf b0 D kA X t pc lv st w :=
  ⟨hG.1, hG.2.1, fun ls H locs cells slots hl hR hS hc hs => hrow ls H locs cells slots hl hR hS (Nat.le.intro hc) (Nat.le.intro hs) (hG.2.2 ls H locs cells slots hl hR hS hc hs)⟩
/-- a row that stores a local -/
theorem jx_lifl {pc' i : Nat} {st' : List jx_V} {v : jx_V} (hG : jx_To p l e R s m args below meth c Qf b0 D kA X t (.inl (pc', lv.set i (some v), st', w)))
    (hrow : ∀ (ls : Array Slot) (H : Heap) (locs : List Loc) (cells slots : Nat), lv_has ls X.2.2.1 (jx_ps 0 lv) → (∀ ls' : Array Slot, lv_has ls' X.2.2.1 ((i, jx_v v) :: (jx_ps 0 lv).filter (fun q => !(q.1 == i) && !(q.1 + 1 == i && q.2.category == 2))) → W p l e R s m args below meth c H locs cells slots Qf (F0 m pc' ls' (st'.map jx_v))) → W p l e R s m args below meth c H locs cells slots Qf (F0 m pc ls (st.map jx_v))) :
    jx_Go p l e R s m args below meth c Qf b0 D kA X t pc lv st w :=
  ⟨hG.1, hG.2.1, fun ls H locs cells slots hl hR hS hc hs => hrow ls H locs cells slots hl (fun ls' h' => hG.2.2 ls' H locs cells slots (jx_set h') hR hS hc hs)⟩
/-- a row that writes a cell -/
theorem jx_lifw {pc' a : Nat} {st' : List jx_V} {c0 c' : jx_E} (hG : jx_To p l e R s m args below meth c Qf b0 D kA X t (.inl (pc', lv, st', (va_up w.1 a (some c'), w.2)))) (ha : w.1 a = some c0)
    (hrow : ∀ (ls : Array Slot) (H : Heap) (locs : List Loc) (cells slots : Nat), lv_has ls X.2.2.1 (jx_ps 0 lv) → jx_R b0 D kA w H → (∀ (H1 : Heap) (k : Nat), va_at D jt_Cl (a, jx_e kA c') H1 → H1.size = H.size → (∀ q : Nat, q ≠ a → H1[q]? = H[q]?) → W p l e R s m args below meth c H1 (locs ++ [⟨a, k⟩]) cells slots Qf (F0 m pc' ls (st'.map jx_v))) → W p l e R s m args below meth c H locs cells slots Qf (F0 m pc ls (st.map jx_v))) :
    jx_Go p l e R s m args below meth c Qf b0 D kA X t pc lv st w :=
  ⟨hG.1, hG.2.1, fun ls H locs cells slots hl hR hS hc hs => hrow ls H locs cells slots hl hR (fun H1 k h1 hz ho => hG.2.2 ls H1 _ cells slots hl (hR.set ha h1 hz ho) (va_S.put hS hz ho (hR.2.2 _ _ ha).1) hc hs)⟩
/-- a row that makes a cell -/
theorem jx_lifn {pc' k : Nat} {st' : List jx_V} {c' : jx_E} (hG : jx_To p l e R s m args below meth c Qf b0 D kA X t (.inl (pc', lv, st', jx_nw w c' k)))
    (hrow : ∀ (ls : Array Slot) (H : Heap) (locs : List Loc) (cells slots : Nat), lv_has ls X.2.2.1 (jx_ps 0 lv) → H.size = w.2.1 → cells + 1 ≤ R.cells → slots + k ≤ R.slots → (∀ H1 : Heap, va_at D jt_Cl (H.size, jx_e kA c') H1 → H1.size = H.size + 1 → (∀ q : Nat, q < H.size → H1[q]? = H[q]?) → W p l e R s m args below meth c H1 locs (cells + 1) (slots + k) Qf (F0 m pc' ls (st'.map jx_v))) → W p l e R s m args below meth c H locs cells slots Qf (F0 m pc ls (st.map jx_v))) :
    jx_Go p l e R s m args below meth c Qf b0 D kA X t pc lv st w := by
  have h1 : w.2.1 + 1 ≤ t.2.2.1 := hG.1
  have h2 : w.2.2 + k ≤ t.2.2.2 := hG.2.1
  refine ⟨by omega, by omega, fun ls H locs cells slots hl hR hS hc hs => hrow ls H locs cells slots hl hR.1 (by omega) (by omega) (fun H1 g1 gz go => hG.2.2 ls H1 locs (cells + 1) (slots + k) hl (hR.push g1 gz go) (jx_Sp hS gz go) ?_ ?_)⟩
  · show cells + 1 + (t.2.2.1 - (w.2.1 + 1)) = R.cells
    omega
  · show slots + k + (t.2.2.2 - (w.2.2 + k)) = R.slots
    omega
theorem jx_two {b : Bool} {tg : Nat} {st' : List jx_V} (hq : jx_To p l e R s m args below meth c Qf b0 D kA X t (.inl (if b = true then tg else pc + 3, lv, st', w)))
    (hrow : ∀ (ls : Array Slot) (H : Heap) (locs : List Loc) (cells slots : Nat), (b = true → W p l e R s m args below meth c H locs cells slots Qf (F0 m tg ls (st'.map jx_v))) → (¬ b = true → W p l e R s m args below meth c H locs cells slots Qf (F0 m (pc + 3) ls (st'.map jx_v))) → W p l e R s m args below meth c H locs cells slots Qf (F0 m pc ls (st.map jx_v))) :
    jx_Go p l e R s m args below meth c Qf b0 D kA X t pc lv st w := by
  refine ⟨hq.1, hq.2.1, fun ls H locs cells slots hl hR hS hc hs => hrow ls H locs cells slots (fun hb => ?_) (fun hb => ?_)⟩
  · have := hq.2.2 ls H locs cells slots hl hR hS hc hs
    dsimp only at this
    rwa [if_pos hb] at this
  · have := hq.2.2 ls H locs cells slots hl hR hS hc hs
    dsimp only at this
    rwa [if_neg hb] at this
end JS
