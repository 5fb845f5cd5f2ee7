/-! worlds in one form: cells by roles (kind, number), contents by two functions (kind, number, place): ints and references -/
abbrev jy_K : Type := (Nat → Option (Nat × Nat)) × (Nat → Nat → Nat) × Nat × Nat
abbrev jy_I : Type := Nat → Nat → Nat → Int32
abbrev jy_R : Type := Nat → Nat → Nat → Option Nat
def jy_fs (f : jy_I) (g : jy_R) (k i : Nat) : Nat → List Bool → List jx_V
  | _, [] => []
  | j, b :: l => (if b = true then .inr (g k i j) else .inl (f k i j)) :: jy_fs f g k i (j + 1) l
def jy_c (f : jy_I) (g : jy_R) (k i : Nat) : jx_E := match jy_sh k with
  | .inl (t, n, false) => .inl (t, n, .inl (f k i))
  | .inl (t, n, true) => .inl (t, n, .inr (g k i))
  | .inr (ci, l) => .inr (ci, jy_fs f g k i 0 l)
def jy_w (K : jy_K) (f : jy_I) (g : jy_R) : jx_W := (fun a => (K.1 a).map fun r => jy_c f g r.1 r.2, K.2.2)
def jy_lv (K : jy_K) (k i : Nat) : Prop := K.1 (K.2.1 k i) = some (k, i)
def jy_ok (K : jy_K) : Prop := ∀ (a : Nat) (r : Nat × Nat), K.1 a = some r → a = K.2.1 r.1 r.2 ∧ a < K.2.2.1
def jy_up {α : Type} (f : Nat → Nat → Nat → α) (k i j : Nat) (v : α) : Nat → Nat → Nat → α := fun k' i' j' => if k' = k ∧ i' = i ∧ j' = j then v else f k' i' j'
theorem jy_up_self {α : Type} (f : Nat → Nat → Nat → α) (k i j : Nat) (v : α) : jy_up f k i j v k i j = v := if_pos ⟨rfl, rfl, rfl⟩
theorem jy_up_k {α : Type} {f : Nat → Nat → Nat → α} {k i j k' i' j' : Nat} {v : α} (h : ¬ k' = k) : jy_up f k i j v k' i' j' = f k' i' j' := if_neg (fun q => h q.1)
theorem jy_up_i {α : Type} {f : Nat → Nat → Nat → α} {k i j k' i' j' : Nat} {v : α} (h : ¬ i' = i) : jy_up f k i j v k' i' j' = f k' i' j' := if_neg (fun q => h q.2.1)
theorem jy_up_j {α : Type} {f : Nat → Nat → Nat → α} {k i j k' i' j' : Nat} {v : α} (h : ¬ j' = j) : jy_up f k i j v k' i' j' = f k' i' j' := if_neg (fun q => h q.2.2)
theorem jy_up_at {α : Type} {f : Nat → Nat → Nat → α} {k i j j' : Nat} {v : α} : jy_up f k i j v k i j' = if j' = j then v else f k i j' := by
  unfold jy_up
  by_cases h : j' = j <;> simp [h]
theorem jy_up_row {α : Type} {f : Nat → Nat → Nat → α} {k i j : Nat} {v : α} : jy_up f k i j v k i = va_up (f k i) j v := by
  funext q
  rw [jy_up_at]
  rfl
theorem jy_up_or {α : Type} {f : Nat → Nat → Nat → α} {k i j k' i' : Nat} {v : α} (h : ¬ (k' = k ∧ i' = i)) : jy_up f k i j v k' i' = f k' i' := by
  funext q
  exact if_neg (fun z => h ⟨z.1, z.2.1⟩)
theorem jy_fs_at {f : jy_I} {g : jy_R} {k i : Nat} : ∀ (l : List Bool) (s j : Nat) (b : Bool), l[j]? = some b → (jy_fs f g k i s l)[j]? = some (if b = true then .inr (g k i (s + j)) else .inl (f k i (s + j)))
  | [], s, j, b, h => by simp at h
  | c :: l, s, 0, b, h => by
    simp only [List.getElem?_cons_zero, Option.some.injEq] at h
    subst h
    rfl
  | c :: l, s, j + 1, b, h => by
    rw [List.getElem?_cons_succ] at h
    have := jy_fs_at (f := f) (g := g) (k := k) (i := i) l (s + 1) j b h
    rw [show s + (j + 1) = s + 1 + j by omega]
    exact this
theorem jy_fs_len {f : jy_I} {g : jy_R} {k i : Nat} : ∀ (l : List Bool) (s : Nat), (jy_fs f g k i s l).length = l.length
  | [], s => rfl
  | c :: l, s => by simp only [jy_fs, List.length_cons, jy_fs_len l]
theorem jy_fs_seti {f : jy_I} {g : jy_R} {k i : Nat} {x : Int32} : ∀ (l : List Bool) (s j : Nat), l[j]? = some false → (jy_fs f g k i s l).set j (.inl x) = jy_fs (jy_up f k i (s + j) x) g k i s l
  | [], s, j, h => by simp at h
  | c :: l, s, 0, h => by
    simp only [List.getElem?_cons_zero, Option.some.injEq] at h
    subst h
    have e : ∀ (l : List Bool) (q : Nat), s < q → jy_fs (jy_up f k i s x) g k i q l = jy_fs f g k i q l := by
      intro l
      induction l with
      | nil => intro q _; rfl
      | cons b l ih =>
        intro q hq
        simp only [jy_fs]
        rw [ih (q + 1) (by omega), jy_up_j (by omega)]
    simp only [jy_fs, List.set_cons_zero, Nat.add_zero]
    rw [e l (s + 1) (by omega), jy_up_self]
    simp
  | c :: l, s, j + 1, h => by
    rw [List.getElem?_cons_succ] at h
    have := jy_fs_seti (f := f) (g := g) (k := k) (i := i) (x := x) l (s + 1) j h
    simp only [jy_fs, List.set_cons_succ]
    rw [this, show s + (j + 1) = s + 1 + j by omega, jy_up_j (j' := s) (by omega)]
theorem jy_fs_setr {f : jy_I} {g : jy_R} {k i : Nat} {x : Option Nat} : ∀ (l : List Bool) (s j : Nat), l[j]? = some true → (jy_fs f g k i s l).set j (.inr x) = jy_fs f (jy_up g k i (s + j) x) k i s l
  | [], s, j, h => by simp at h
  | c :: l, s, 0, h => by
    simp only [List.getElem?_cons_zero, Option.some.injEq] at h
    subst h
    have e : ∀ (l : List Bool) (q : Nat), s < q → jy_fs f (jy_up g k i s x) k i q l = jy_fs f g k i q l := by
      intro l
      induction l with
      | nil => intro q _; rfl
      | cons b l ih =>
        intro q hq
        simp only [jy_fs]
        rw [ih (q + 1) (by omega), jy_up_j (by omega)]
    simp only [jy_fs, List.set_cons_zero, Nat.add_zero]
    rw [e l (s + 1) (by omega), jy_up_self]
    simp
  | c :: l, s, j + 1, h => by
    rw [List.getElem?_cons_succ] at h
    have := jy_fs_setr (f := f) (g := g) (k := k) (i := i) (x := x) l (s + 1) j h
    simp only [jy_fs, List.set_cons_succ]
    rw [this, show s + (j + 1) = s + 1 + j by omega, jy_up_j (j' := s) (by omega)]
theorem jy_fs_up {f f' : jy_I} {g g' : jy_R} {k i : Nat} (hf : f k i = f' k i) (hg : g k i = g' k i) : ∀ (l : List Bool) (s : Nat), jy_fs f g k i s l = jy_fs f' g' k i s l
  | [], s => rfl
  | c :: l, s => by simp only [jy_fs]; rw [jy_fs_up hf hg l (s + 1), hf, hg]
theorem jy_c_up {f f' : jy_I} {g g' : jy_R} {k i : Nat} (hf : f k i = f' k i) (hg : g k i = g' k i) : jy_c f g k i = jy_c f' g' k i := by
  unfold jy_c
  split
  · rw [hf]
  · rw [hg]
  · rw [jy_fs_up hf hg]
theorem jy_at {K : jy_K} {f : jy_I} {g : jy_R} {k i : Nat} (h : jy_lv K k i) : (jy_w K f g).1 (K.2.1 k i) = some (jy_c f g k i) := by
  show (K.1 (K.2.1 k i)).map _ = _
  rw [h]
  rfl
/-- a cell is written: the world of the new contents -/
theorem jy_set {K : jy_K} {f f' : jy_I} {g g' : jy_R} {k i : Nat} (ho : jy_ok K) (h : jy_lv K k i) (hf : ∀ k' i', ¬ (k' = k ∧ i' = i) → f' k' i' = f k' i' ∧ g' k' i' = g k' i') {c : jx_E} (hc : jy_c f' g' k i = c) : (va_up (jy_w K f g).1 (K.2.1 k i) (some c), (jy_w K f g).2) = jy_w K f' g' := by
  refine Prod.ext ?_ rfl
  funext a
  show va_up (jy_w K f g).1 (K.2.1 k i) (some c) a = (K.1 a).map fun r => jy_c f' g' r.1 r.2
  by_cases e : a = K.2.1 k i
  · subst e
    rw [va_up_self, h, ← hc]
    rfl
  · rw [va_up_ne _ _ e]
    show (K.1 a).map (fun r => jy_c f g r.1 r.2) = _
    cases hr : K.1 a with
    | none => rfl
    | some r =>
      have h1 := (ho a r hr).1
      have h2 := hf r.1 r.2 (fun z => e (by rw [h1, z.1, z.2]))
      exact congrArg some (jy_c_up h2.1 h2.2).symm
theorem jy_gI {Z : jx_Sc} {K : jy_K} {f : jy_I} {g : jy_R} {k i t n : Nat} {j : Int32} (h : jy_lv K k i) (hs : jy_sh k = .inl (t, n, false)) : jx_gI Z t (jy_w K f g) (K.2.1 k i) j = if j < 0 ∨ n ≤ j.toNatClampNeg then none else some (f k i j.toNatClampNeg) := by
  unfold jx_gI
  rw [jy_at h]
  unfold jy_c
  rw [hs]
  dsimp only
  by_cases e : j < 0 ∨ n ≤ j.toNatClampNeg <;> simp [e]
theorem jy_sI {K : jy_K} {f : jy_I} {g : jy_R} {k i t n : Nat} {j x : Int32} (ho : jy_ok K) (h : jy_lv K k i) (hs : jy_sh k = .inl (t, n, false)) : jx_sI t (jy_w K f g) (K.2.1 k i) j x = if j < 0 ∨ n ≤ j.toNatClampNeg then none else some (jy_w K (jy_up f k i j.toNatClampNeg x) g) := by
  unfold jx_sI
  rw [jy_at h]
  have hc : jy_c (jy_up f k i j.toNatClampNeg x) g k i = .inl (t, n, .inl (va_up (f k i) j.toNatClampNeg x)) := by
    unfold jy_c
    rw [hs]
    dsimp only
    rw [jy_up_row]
  rw [← jy_set (f := f) (g := g) ho h (fun k' i' hn => ⟨jy_up_or hn, rfl⟩) hc]
  unfold jy_c
  rw [hs]
  dsimp only
  by_cases e : j < 0 ∨ n ≤ j.toNatClampNeg <;> simp [e]
theorem jy_gA {K : jy_K} {f : jy_I} {g : jy_R} {k i t n : Nat} {j : Int32} (h : jy_lv K k i) (hs : jy_sh k = .inl (t, n, true)) (ht : (jt_el t).isSome = true) : jx_gA (jy_w K f g) (K.2.1 k i) j = if j < 0 ∨ n ≤ j.toNatClampNeg then none else some (g k i j.toNatClampNeg) := by
  unfold jx_gA
  rw [jy_at h]
  unfold jy_c
  rw [hs]
  dsimp only
  by_cases e : j < 0 ∨ n ≤ j.toNatClampNeg <;> simp [e, ht]
theorem jy_sA {K : jy_K} {f : jy_I} {g : jy_R} {k i t n : Nat} {j : Int32} {r : Option Nat} (ho : jy_ok K) (h : jy_lv K k i) (hs : jy_sh k = .inl (t, n, true)) (hr : jx_ok (jy_w K f g) t r = true) : jx_sA (jy_w K f g) (K.2.1 k i) j r = if j < 0 ∨ n ≤ j.toNatClampNeg then none else some (jy_w K f (jy_up g k i j.toNatClampNeg r)) := by
  unfold jx_sA
  rw [jy_at h]
  have hc : jy_c f (jy_up g k i j.toNatClampNeg r) k i = .inl (t, n, .inr (va_up (g k i) j.toNatClampNeg r)) := by
    unfold jy_c
    rw [hs]
    dsimp only
    rw [jy_up_row]
  rw [← jy_set (f := f) (g := g) ho h (fun k' i' hn => ⟨rfl, jy_up_or hn⟩) hc]
  unfold jy_c
  rw [hs]
  dsimp only
  by_cases e : j < 0 ∨ n ≤ j.toNatClampNeg <;> simp [e, hr]
theorem jy_is {K : jy_K} {f : jy_I} {g : jy_R} {k i ci : Nat} {l : List Bool} (h : jy_lv K k i) (hs : jy_sh k = .inr (ci, l)) : jx_is (jy_w K f g) (K.2.1 k i) ci = true := by
  unfold jx_is
  rw [jy_at h]
  unfold jy_c
  rw [hs]
  simp
theorem jy_oks {K : jy_K} {f : jy_I} {g : jy_R} {k i ci t : Nat} {l : List Bool} (h : jy_lv K k i) (hs : jy_sh k = .inr (ci, l)) (ht : jt_el t = some ci) : jx_ok (jy_w K f g) t (some (K.2.1 k i)) = true := by
  unfold jx_ok
  dsimp only
  rw [jy_at h]
  unfold jy_c
  rw [hs]
  simp [ht]
theorem jy_gFi {K : jy_K} {f : jy_I} {g : jy_R} {k i ci q : Nat} {l : List Bool} (h : jy_lv K k i) (hs : jy_sh k = .inr (ci, l)) (hq : l[q]? = some false) : jx_gF (jy_w K f g) (K.2.1 k i) ci q = some (.inl (f k i q)) := by
  unfold jx_gF
  rw [jy_at h]
  unfold jy_c
  rw [hs]
  dsimp only
  rw [if_pos rfl, jy_fs_at l 0 q false hq, Nat.zero_add]
  rfl
theorem jy_gFr {K : jy_K} {f : jy_I} {g : jy_R} {k i ci q : Nat} {l : List Bool} (h : jy_lv K k i) (hs : jy_sh k = .inr (ci, l)) (hq : l[q]? = some true) : jx_gF (jy_w K f g) (K.2.1 k i) ci q = some (.inr (g k i q)) := by
  unfold jx_gF
  rw [jy_at h]
  unfold jy_c
  rw [hs]
  dsimp only
  rw [if_pos rfl, jy_fs_at l 0 q true hq, Nat.zero_add]
  rfl
theorem jy_sFi {K : jy_K} {f : jy_I} {g : jy_R} {k i ci q : Nat} {l : List Bool} {x : Int32} (ho : jy_ok K) (h : jy_lv K k i) (hs : jy_sh k = .inr (ci, l)) (hq : l[q]? = some false) : jx_sF (jy_w K f g) (K.2.1 k i) ci q (.inl x) = some (jy_w K (jy_up f k i q x) g) := by
  have hc : jy_c (jy_up f k i q x) g k i = .inr (ci, (jy_fs f g k i 0 l).set q (.inl x)) := by
    unfold jy_c
    rw [hs]
    dsimp only
    rw [jy_fs_seti l 0 q hq, Nat.zero_add]
  unfold jx_sF
  rw [jy_at h, ← jy_set (f := f) (g := g) ho h (fun k' i' hn => ⟨jy_up_or hn, rfl⟩) hc]
  unfold jy_c
  rw [hs]
  dsimp only
  rw [if_pos ⟨rfl, by rw [jy_fs_len]; exact (List.getElem?_eq_some_iff.mp hq).1⟩]
theorem jy_sFr {K : jy_K} {f : jy_I} {g : jy_R} {k i ci q : Nat} {l : List Bool} {x : Option Nat} (ho : jy_ok K) (h : jy_lv K k i) (hs : jy_sh k = .inr (ci, l)) (hq : l[q]? = some true) : jx_sF (jy_w K f g) (K.2.1 k i) ci q (.inr x) = some (jy_w K f (jy_up g k i q x)) := by
  have hc : jy_c f (jy_up g k i q x) k i = .inr (ci, (jy_fs f g k i 0 l).set q (.inr x)) := by
    unfold jy_c
    rw [hs]
    dsimp only
    rw [jy_fs_setr l 0 q hq, Nat.zero_add]
  unfold jx_sF
  rw [jy_at h, ← jy_set (f := f) (g := g) ho h (fun k' i' hn => ⟨rfl, jy_up_or hn⟩) hc]
  unfold jy_c
  rw [hs]
  dsimp only
  rw [if_pos ⟨rfl, by rw [jy_fs_len]; exact (List.getElem?_eq_some_iff.mp hq).1⟩]
theorem jy_gL {Z : jx_Sc} {K : jy_K} {f : jy_I} {g : jy_R} {k i t n : Nat} {b : Bool} (h : jy_lv K k i) (hs : jy_sh k = .inl (t, n, b)) (ht : t < jt_nk) : jx_gL Z (jy_w K f g) (K.2.1 k i) = some n := by
  unfold jx_gL
  rw [jy_at h]
  unfold jy_c
  rw [hs]
  cases b <;> exact if_pos ht
/-- the script -/
theorem jy_gS {Z : jx_Sc} {K : jy_K} {f : jy_I} {g : jy_R} {j : Int32} (h : K.1 Z.1 = none) : jx_gI Z 0 (jy_w K f g) Z.1 j = if j < 0 ∨ Z.2.1 ≤ j.toNatClampNeg then none else some (Z.2.2 j.toNatClampNeg) := by
  unfold jx_gI
  rw [show (jy_w K f g).1 Z.1 = none by show (K.1 Z.1).map _ = none; rw [h]; rfl]
  dsimp only
  by_cases e : j < 0 ∨ Z.2.1 ≤ j.toNatClampNeg <;> simp [e]
theorem jy_gSL {Z : jx_Sc} {K : jy_K} {f : jy_I} {g : jy_R} (h : K.1 Z.1 = none) : jx_gL Z (jy_w K f g) Z.1 = some Z.2.1 := by
  unfold jx_gL
  rw [show (jy_w K f g).1 Z.1 = none by show (K.1 Z.1).map _ = none; rw [h]; rfl]
  exact if_pos rfl
/-- a new cell -/
def jy_nk (K : jy_K) (k i n : Nat) : jy_K := (va_up K.1 K.2.2.1 (some (k, i)), fun k' i' => if k' = k ∧ i' = i then K.2.2.1 else K.2.1 k' i', K.2.2.1 + 1, K.2.2.2 + n)
def jy_z {α : Type} (f : Nat → Nat → Nat → α) (k i : Nat) (v : α) : Nat → Nat → Nat → α := fun k' i' j => if k' = k ∧ i' = i then v else f k' i' j
def jy_no (K : jy_K) (k i : Nat) : Prop := ∀ a, ¬ K.1 a = some (k, i)
theorem jy_nk_ok {K : jy_K} {k i n : Nat} (ho : jy_ok K) (hn : jy_no K k i) : jy_ok (jy_nk K k i n) := by
  intro a r hr
  by_cases e : a = K.2.2.1
  · subst e
    have hr : some (k, i) = some r := by rw [← hr]; exact (va_up_self _ _ _).symm
    cases hr
    exact ⟨(if_pos ⟨rfl, rfl⟩).symm, Nat.lt_succ_self _⟩
  · have hr : K.1 a = some r := by rw [← hr]; exact (va_up_ne _ _ e).symm
    have h1 := ho a r hr
    refine ⟨h1.1.trans (if_neg (fun z => hn a ?_)).symm, Nat.lt_succ_of_lt h1.2⟩
    rw [hr]
    exact congrArg some (Prod.ext z.1 z.2)
theorem jy_nk_lv {K : jy_K} {k i n : Nat} : jy_lv (jy_nk K k i n) k i := by
  show va_up K.1 K.2.2.1 (some (k, i)) (if k = k ∧ i = i then K.2.2.1 else K.2.1 k i) = some (k, i)
  rw [if_pos ⟨rfl, rfl⟩, va_up_self]
theorem jy_nk_at {K : jy_K} {k i n : Nat} : (jy_nk K k i n).2.1 k i = K.2.2.1 := if_pos ⟨rfl, rfl⟩
theorem jy_nk_ne {K : jy_K} {k i n k' i' : Nat} (h : ¬ (k' = k ∧ i' = i)) : (jy_nk K k i n).2.1 k' i' = K.2.1 k' i' := if_neg h
theorem jy_nk_l2 {K : jy_K} {k i n k' i' : Nat} (ho : jy_ok K) (hn : jy_no K k i) (h : jy_lv K k' i') : jy_lv (jy_nk K k i n) k' i' := by
  have hne : ¬ (k' = k ∧ i' = i) := fun z => hn _ (by unfold jy_lv at h; rw [h, z.1, z.2])
  unfold jy_lv
  rw [jy_nk_ne hne]
  show va_up K.1 K.2.2.1 (some (k, i)) (K.2.1 k' i') = _
  rw [va_up_ne _ _ (Nat.ne_of_lt (ho _ _ h).2)]
  exact h
theorem jy_nk_no {K : jy_K} {k i n k' i' : Nat} (hne : ¬ (k' = k ∧ i' = i)) (hn : jy_no K k' i') : jy_no (jy_nk K k i n) k' i' := by
  intro a h
  by_cases e : a = K.2.2.1
  · subst e
    have h : some (k, i) = some (k', i') := by rw [← h]; exact (va_up_self _ _ _).symm
    cases h
    exact hne ⟨rfl, rfl⟩
  · exact hn a (by rw [← h]; exact (va_up_ne _ _ e).symm)
theorem jy_new {K : jy_K} {f f' : jy_I} {g g' : jy_R} {k i n : Nat} {c : jx_E} (hn : jy_no K k i) (hf : ∀ k' i', ¬ (k' = k ∧ i' = i) → f' k' i' = f k' i' ∧ g' k' i' = g k' i') (hc : jy_c f' g' k i = c) : jx_nw (jy_w K f g) c n = jy_w (jy_nk K k i n) f' g' := by
  refine Prod.ext ?_ rfl
  funext a
  show va_up (jy_w K f g).1 K.2.2.1 (some c) a = (va_up K.1 K.2.2.1 (some (k, i)) a).map fun r => jy_c f' g' r.1 r.2
  by_cases e : a = K.2.2.1
  · subst e
    rw [va_up_self, va_up_self, ← hc]
    rfl
  · rw [va_up_ne _ _ e, va_up_ne _ _ e]
    show (K.1 a).map (fun r => jy_c f g r.1 r.2) = _
    cases hr : K.1 a with
    | none => rfl
    | some r =>
      have h2 := hf r.1 r.2 (fun z => hn a (by rw [hr]; exact congrArg some (Prod.ext z.1 z.2)))
      exact congrArg some (jy_c_up h2.1 h2.2).symm
