/-! the constructors of both sides -/
def jc_per (x : Int32) : Int32 := if 4 ≤ x then (if x ≤ 64 then x else 64) else 4
def jc_f (f : jy_I) (o k : Nat) (seed per : Int32) : jy_I := jy_row (jy_up (jy_up f o 0 0 seed) o 0 1 per) k 0 (fun j => if j < 4 then 100 else f k 0 j)
theorem jc_row {F : jy_I} {k i : Nat} (hi : i < 4) : jy_row (jy_up F k 0 i 100) k 0 (fun j => if i + 1 ≤ j ∧ j < 4 then 100 else jy_up F k 0 i 100 k 0 j) = jy_row F k 0 (fun j => if i ≤ j ∧ j < 4 then 100 else F k 0 j) := by
  funext k' i' j'
  unfold jy_row jy_up
  by_cases e : k' = k ∧ i' = 0
  · obtain ⟨rfl, rfl⟩ := e
    simp only [and_self, ↓reduceIte, true_and]
    by_cases a : j' = i
    · subst a
      rw [if_neg (by omega), if_pos rfl, if_pos ⟨by omega, hi⟩]
    · rw [if_neg a]
      by_cases b : i + 1 ≤ j' ∧ j' < 4
      · rw [if_pos b, if_pos (by omega)]
      · rw [if_neg b, if_neg (by omega)]
  · rw [if_neg e, if_neg e]
    rw [if_neg (fun z => e ⟨z.1, z.2.1⟩)]
theorem jc_row4 {F : jy_I} {k : Nat} : jy_row F k 0 (fun j => if 4 ≤ j ∧ j < 4 then 100 else F k 0 j) = F := by
  funext k' i' j'
  unfold jy_row
  by_cases e : k' = k ∧ i' = 0
  · rw [if_pos e, if_neg (by omega), e.1, e.2]
  · rw [if_neg e]
section NW
variable {Z : jx_Sc} {call : jx_C} {d : Nat} {K : jy_K} {g : jy_R} {f : jy_I} {l1 l2 : Option jx_V}
theorem ci_loop (ho : jy_ok K) (h0 : jy_lv K 0 0) (h1 : jy_lv K 1 0) (hg : g 0 0 2 = some (K.2.1 1 0)) : ∀ (m i : Nat) (F : jy_I), 4 - i = m → i ≤ 4 → jx_run Z jX_CC_init call (76, [some (.inr (some (K.2.1 0 0))), l1, l2, some (.inl (nI i))], [], jy_w K F g) = some (none, jy_w K (jy_row F 1 0 (fun j => if i ≤ j ∧ j < 4 then 100 else F 1 0 j)) g) := by
  intro m
  induction m with
  | zero =>
    intro i F hm hi
    have e : i = 4 := by omega
    subst e
    have q : (4 : Int32) ≤ nI 4 := by decide
    rw [jc_row4, x_CC_init_76]
    simp only [x_CC_init_77, x_CC_init_78, x_CC_init_81, x_CC_init_82, x_CC_init_85, x_CC_init_86, x_CC_init_88, x_CC_init_89, x_CC_init_92, x_CC_init_95, q, ↓reduceIte]
  | succ m ih =>
    intro i F hm hi
    have q : ¬ (4 : Int32) ≤ nI i := nI_ge (b := 4) (by omega) (by omega)
    have I := ih (i + 1) (jy_up F 1 0 i 100) (by omega) (by omega)
    rw [jc_row (by omega)] at I
    have gf := jy_gFr (f := F) (g := g) (q := 2) h0 rfl rfl
    rw [hg] at gf
    have st := jy_sI (f := F) (g := g) (j := nI i) (x := 100) ho h1 rfl
    rw [if_neg (nI_in (c := i) (N := 4) (by omega) (by decide)), nI_clamp (by omega)] at st
    rw [x_CC_init_76]
    simp only [x_CC_init_77, x_CC_init_78, x_CC_init_81, x_CC_init_82, x_CC_init_85, x_CC_init_86, x_CC_init_88, x_CC_init_89, x_CC_init_92, x_CC_init_95, q, gf, st, jz_inc, Option.bind_some, Option.toList_some, Option.toList_none, List.cons_append, List.nil_append, ↓reduceIte]
    exact I
theorem ri_loop (ho : jy_ok K) (h0 : jy_lv K 20 0) (h1 : jy_lv K 23 0) (hg : g 20 0 3 = some (K.2.1 23 0)) : ∀ (m i : Nat) (F : jy_I), 4 - i = m → i ≤ 4 → jx_run Z jX_RM_init call (244, [some (.inr (some (K.2.1 20 0))), l1, l2, some (.inl (nI i))], [], jy_w K F g) = some (none, jy_w K (jy_row F 23 0 (fun j => if i ≤ j ∧ j < 4 then 100 else F 23 0 j)) g) := by
  intro m
  induction m with
  | zero =>
    intro i F hm hi
    have e : i = 4 := by omega
    subst e
    have q : (4 : Int32) ≤ nI 4 := by decide
    rw [jc_row4, x_RM_init_244]
    simp only [x_RM_init_245, x_RM_init_246, x_RM_init_249, x_RM_init_250, x_RM_init_253, x_RM_init_254, x_RM_init_256, x_RM_init_257, x_RM_init_260, x_RM_init_263, q, ↓reduceIte]
  | succ m ih =>
    intro i F hm hi
    have q : ¬ (4 : Int32) ≤ nI i := nI_ge (b := 4) (by omega) (by omega)
    have I := ih (i + 1) (jy_up F 23 0 i 100) (by omega) (by omega)
    rw [jc_row (by omega)] at I
    have gf := jy_gFr (f := F) (g := g) (q := 3) h0 rfl rfl
    rw [hg] at gf
    have st := jy_sI (f := F) (g := g) (j := nI i) (x := 100) ho h1 rfl
    rw [if_neg (nI_in (c := i) (N := 4) (by omega) (by decide)), nI_clamp (by omega)] at st
    rw [x_RM_init_244]
    simp only [x_RM_init_245, x_RM_init_246, x_RM_init_249, x_RM_init_250, x_RM_init_253, x_RM_init_254, x_RM_init_256, x_RM_init_257, x_RM_init_260, x_RM_init_263, q, gf, st, jz_inc, Option.bind_some, Option.toList_some, Option.toList_none, List.cons_append, List.nil_append, ↓reduceIte]
    exact I
theorem jc_min {x : Int32} : (if 4 < (if x < 64 then x else 64) then (if x < 64 then x else 64) else 4) = jc_per x := by
  unfold jc_per
  by_cases a : x < 64
  · have a' : x ≤ 64 := Int32.le_of_lt a
    rw [if_pos a, if_pos a']
    by_cases b : 4 < x
    · rw [if_pos b, if_pos (Int32.le_of_lt b)]
    · rw [if_neg b]
      by_cases c : 4 ≤ x
      · rw [if_pos c]
        exact Int32.le_antisymm c (Int32.not_lt.mp b)
      · rw [if_neg c]
  · rw [if_neg a, if_pos (by decide)]
    have b : 64 ≤ x := Int32.not_lt.mp a
    have c : 4 ≤ x := Int32.le_trans (by decide) b
    rw [if_pos c]
    by_cases e : x ≤ 64
    · rw [if_pos e]
      exact Int32.le_antisymm b e
    · rw [if_neg e]
theorem jc_f_eq {o k : Nat} {seed per : Int32} (h : ¬ k = o) : jy_row (jy_up (jy_up f o 0 0 seed) o 0 1 per) k 0 (fun j => if 0 ≤ j ∧ j < 4 then 100 else jy_up (jy_up f o 0 0 seed) o 0 1 per k 0 j) = jc_f f o k seed per := by
  unfold jc_f
  congr 1
  funext j
  rw [jy_up_k h, jy_up_k h]
  by_cases e : j < 4
  · rw [if_pos ⟨by omega, e⟩, if_pos e]
  · rw [if_neg (fun z => e z.2), if_neg e]
theorem cc_init (ho : jy_ok K) (hl : jy_lv K 0 0) (hn : ∀ k, 0 < k → k < 7 → jy_no K k 0) (zf : ∀ k, f k 0 = fun _ => 0) (zg : ∀ k, g k 0 = fun _ => none) {seed per : Int32} : ∃ (K' : jy_K) (g' : jy_R), jx_m Z (d + 1) 0 [.inr (some (K.2.1 0 0)), .inl seed, .inl per] (jy_w K f g) = some (none, jy_w K' (jc_f f 0 1 seed (jc_per per)) g') ∧ jc_Q 0 K K' g g' [(9, 6), (8, 5), (6, 4), (4, 3), (3, 2), (2, 1)] 6 85 := by
  obtain ⟨K', g', e, Q⟩ := ci_all (Z := Z) (call := jx_m Z d) (f := f) (l1 := some (.inl seed)) (l2 := some (.inl per)) (l3 := none) ho hl hn (zf 1) (zf 2) (zg 3) (zg 4) (zg 5) (zg 6)
  refine ⟨K', g', ?_, Q⟩
  have L1 := Q.2.2.2.1 (2, 1) (by decide)
  have lp := ci_loop (Z := Z) (call := jx_m Z d) (l1 := some (.inl seed)) (l2 := some (.inl per)) Q.1 Q.2.2.1 L1.1 L1.2 4 0 (jy_up (jy_up f 0 0 0 seed) 0 0 1 (jc_per per)) rfl (by omega)
  rw [jc_f_eq (by omega)] at lp
  have s0 := jy_sFi (f := f) (g := g') (q := 0) (x := seed) Q.1 Q.2.2.1 rfl rfl
  have s1 := jy_sFi (f := jy_up f 0 0 0 seed) (g := g') (q := 1) (x := jc_per per) Q.1 Q.2.2.1 rfl rfl
  rw [e_CC_init, x_CC_init_0, x_CC_init_1, e]
  simp only [x_CC_init_55, x_CC_init_56, x_CC_init_57, x_CC_init_60, x_CC_init_61, x_CC_init_62, x_CC_init_64, x_CC_init_65, x_CC_init_68, x_CC_init_71, x_CC_init_74, x_CC_init_75, s0, s1, jc_min, Option.bind_some, Option.toList_some, Option.toList_none, List.cons_append, List.nil_append]
  exact lp
theorem rm_init (ho : jy_ok K) (hl : jy_lv K 20 0) (hn : ∀ k, 20 < k → k < 50 → jy_no K k 0) (zf : ∀ k, 20 ≤ k → f k 0 = fun _ => 0) {seed per : Int32} : ∃ (K' : jy_K) (g' : jy_R), jx_m Z (d + 1) 66 [.inr (some (K.2.1 20 0)), .inl seed, .inl per] (jy_w K f g) = some (none, jy_w K' (jc_f f 20 23 seed (jc_per per)) g') ∧ jc_Q 20 K K' g g' [(29, 49), (28, 48), (27, 47), (26, 46), (25, 45), (24, 44), (23, 43), (22, 42), (21, 41), (20, 40), (19, 39), (18, 38), (17, 37), (16, 36), (15, 35), (14, 34), (13, 33), (12, 32), (11, 31), (10, 30), (9, 29), (7, 27), (6, 26), (5, 25), (3, 23)] 25 2005 := by
  obtain ⟨K', g', e, Q⟩ := ri_all (Z := Z) (call := jx_m Z d) (f := f) (g := g) (l1 := some (.inl seed)) (l2 := some (.inl per)) (l3 := none) ho hl hn (zf 23 (by omega)) (zf 25 (by omega)) (zf 26 (by omega)) (zf 27 (by omega)) (zf 29 (by omega)) (zf 30 (by omega)) (zf 31 (by omega)) (zf 32 (by omega)) (zf 33 (by omega)) (zf 34 (by omega)) (zf 35 (by omega)) (zf 36 (by omega)) (zf 37 (by omega)) (zf 38 (by omega)) (zf 39 (by omega)) (zf 40 (by omega)) (zf 41 (by omega)) (zf 42 (by omega)) (zf 43 (by omega)) (zf 44 (by omega)) (zf 45 (by omega)) (zf 46 (by omega)) (zf 47 (by omega)) (zf 48 (by omega)) (zf 49 (by omega))
  refine ⟨K', g', ?_, Q⟩
  have L1 := Q.2.2.2.1 (3, 23) (by decide)
  have lp := ri_loop (Z := Z) (call := jx_m Z d) (l1 := some (.inl seed)) (l2 := some (.inl per)) Q.1 Q.2.2.1 L1.1 L1.2 4 0 (jy_up (jy_up f 20 0 0 seed) 20 0 1 (jc_per per)) rfl (by omega)
  rw [jc_f_eq (by omega)] at lp
  have s0 := jy_sFi (f := f) (g := g') (q := 0) (x := seed) Q.1 Q.2.2.1 rfl rfl
  have s1 := jy_sFi (f := jy_up f 20 0 0 seed) (g := g') (q := 1) (x := jc_per per) Q.1 Q.2.2.1 rfl rfl
  rw [e_RM_init, x_RM_init_0, x_RM_init_1, e]
  have c : jx_run Z jX_RM_init (jx_m Z d) (217, [some (.inr (some (K'.2.1 20 0))), some (.inl seed), some (.inl per), none], [], jy_w K' (jy_up f 20 0 0 seed) g') = jx_run Z jX_RM_init (jx_m Z d) (239, [some (.inr (some (K'.2.1 20 0))), some (.inl seed), some (.inl per), none], [.inl (jc_per per), .inr (some (K'.2.1 20 0))], jy_w K' (jy_up f 20 0 0 seed) g') := by
    unfold jc_per
    by_cases a : 4 ≤ per
    · by_cases b : per ≤ 64
      · simp only [x_RM_init_217, x_RM_init_218, x_RM_init_219, x_RM_init_220, x_RM_init_223, x_RM_init_224, x_RM_init_227, x_RM_init_228, x_RM_init_230, x_RM_init_233, x_RM_init_235, x_RM_init_238, a, b, ↓reduceIte]
      · simp only [x_RM_init_217, x_RM_init_218, x_RM_init_219, x_RM_init_220, x_RM_init_223, x_RM_init_224, x_RM_init_227, x_RM_init_228, x_RM_init_230, x_RM_init_233, x_RM_init_235, x_RM_init_238, a, b, ↓reduceIte]
    · simp only [x_RM_init_217, x_RM_init_218, x_RM_init_219, x_RM_init_220, x_RM_init_223, x_RM_init_224, x_RM_init_227, x_RM_init_228, x_RM_init_230, x_RM_init_233, x_RM_init_235, x_RM_init_238, a, ↓reduceIte]
  simp only [x_RM_init_212, x_RM_init_213, x_RM_init_214, s0, Option.bind_some, Option.toList_some, Option.toList_none, List.cons_append, List.nil_append]
  rw [c]
  simp only [x_RM_init_239, x_RM_init_242, x_RM_init_243, s1, Option.bind_some, Option.toList_some, Option.toList_none, List.cons_append, List.nil_append]
  exact lp
end NW
