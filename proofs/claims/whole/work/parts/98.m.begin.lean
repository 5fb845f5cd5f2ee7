/-! the law's beginning -/
def jb_K (a : Nat) : jy_K := (fun _ => none, fun _ _ => 0, a, 0)
def jb_f : jy_I := fun _ _ _ => 0
def jb_g : jy_R := fun _ _ _ => none
section BG
variable {Z : jx_Sc} {K : jy_K} {g : jy_R} {f : jy_I}
def jb_c (Z : jx_Sc) (i : Nat) : Int32 := if i < Z.2.1 then Z.2.2 i else 0
theorem jb_cell (hZ : K.1 Z.1 = none) (hL : Z.2.1 ≤ 3586) {i : Nat} (hi : i < 10) : jx_m Z 8 65 [.inr (some Z.1), .inl (nI i)] (jy_w K f g) = some (some (.inl (jb_c Z i)), jy_w K f g) := by
  rw [show 8 = 7 + 1 from rfl, e_Lw_cell]
  unfold jb_c
  by_cases h : i < Z.2.1
  · have q : ¬ Int32.ofNat Z.2.1 ≤ nI i := nI_ge h (by omega)
    have p := jl_rd (f := f) (g := g) hZ hL h
    simp only [x_Lw_cell_0, x_Lw_cell_1, x_Lw_cell_2, x_Lw_cell_3, x_Lw_cell_6, x_Lw_cell_7, x_Lw_cell_8, x_Lw_cell_9, x_Lw_cell_12, x_Lw_cell_13, jy_gSL hZ, q, p, h, Option.bind_some, Option.toList_some, Option.toList_none, List.cons_append, List.nil_append, ↓reduceIte]
  · have q : Int32.ofNat Z.2.1 ≤ nI i := nI_le (a := Z.2.1) (b := i) (by omega) (by omega)
    simp only [x_Lw_cell_0, x_Lw_cell_1, x_Lw_cell_2, x_Lw_cell_3, x_Lw_cell_6, x_Lw_cell_7, x_Lw_cell_8, x_Lw_cell_9, x_Lw_cell_12, x_Lw_cell_13, jy_gSL hZ, q, h, Option.bind_some, Option.toList_some, Option.toList_none, List.cons_append, List.nil_append, ↓reduceIte]
theorem jb_new0 {a : Nat} : jx_nw (jy_w (jb_K a) jb_f jb_g) (.inr (0, [.inl 0, .inl 0, .inr none, .inr none, .inr none, .inl 0, .inr none, .inl 0, .inr none, .inr none, .inl 0])) 11 = jy_w (jy_nk (jb_K a) 0 0 11) jb_f jb_g := jy_new (fun x h => by cases h) (fun _ _ _ => ⟨rfl, rfl⟩) rfl
theorem jb_new20 (hn : jy_no K 20 0) (hf : f 20 0 = fun _ => 0) (hg : g 20 0 = fun _ => none) : jx_nw (jy_w K f g) (.inr (5, [.inl 0, .inl 0, .inl 0, .inr none, .inl 0, .inr none, .inr none, .inr none, .inl 0, .inr none, .inr none, .inr none, .inr none, .inr none, .inr none, .inr none, .inr none, .inr none, .inr none, .inr none, .inr none, .inr none, .inr none, .inr none, .inr none, .inr none, .inr none, .inr none, .inr none, .inr none])) 30 = jy_w (jy_nk K 20 0 30) f g := jy_new hn (fun _ _ _ => ⟨rfl, rfl⟩) (by
  unfold jy_c
  simp only [jy_sh, jy_fs, hf, hg, ↓reduceIte, Bool.false_eq_true])
end BG
def jb_F (s p : Int32) : jy_I := jc_f (jc_f jb_f 0 1 s p) 20 23 s p
theorem jb_F0 {s p : Int32} {k i j : Nat} (h : ¬ (k = 0 ∧ i = 0 ∧ j = 0)) (h1 : ¬ (k = 0 ∧ i = 0 ∧ j = 1)) (h2 : ¬ (k = 1 ∧ i = 0)) (h3 : ¬ (k = 20 ∧ i = 0 ∧ j = 0)) (h4 : ¬ (k = 20 ∧ i = 0 ∧ j = 1)) (h5 : ¬ (k = 23 ∧ i = 0)) : jb_F s p k i j = 0 := by
  unfold jb_F jc_f
  simp only [jy_row, if_neg h5, if_neg h2, jy_up, if_neg h3, if_neg h4, if_neg h, if_neg h1]
  rfl
theorem jb_begin {Z : jx_Sc} {a : Nat} (hL : Z.2.1 ≤ 3586) (ha : Z.1 < a) : ∃ (K : jy_K) (g : jy_R) (f : jy_I), jx_run Z jX_Lw_law (jx_m Z 8) (0, [some (.inr (some Z.1)), none, none, none], [], (fun _ => none, a, 0)) = jx_run Z jX_Lw_law (jx_m Z 8) (38, jl_S K 2 Z.1, [], jy_w K f g) ∧ jI K g f f 0 0 ∧ jl_R K g ∧ K.1 Z.1 = none ∧ Z.1 < K.2.2.1 ∧ K.2.2.1 = a + 33 ∧ K.2.2.2 = 2131 := by
  have okA : jy_ok (jy_nk (jb_K a) 0 0 11) := jy_nk_ok (fun x r h => by cases h) (fun x h => by cases h)
  have lvA : jy_lv (jy_nk (jb_K a) 0 0 11) 0 0 := jy_nk_lv
  have noA : ∀ k i, ¬ (k = 0 ∧ i = 0) → jy_no (jy_nk (jb_K a) 0 0 11) k i := fun k i h => jy_nk_no h (fun x q => by cases q)
  have ZA : (jy_nk (jb_K a) 0 0 11).1 Z.1 = none := va_up_ne _ _ (show ¬ Z.1 = a by omega)
  obtain ⟨K1, g1, r1, Q1⟩ := cc_init (Z := Z) (d := 7) (f := jb_f) (g := jb_g) okA lvA (fun k h1 h2 => noA k 0 (by omega)) (fun k => rfl) (fun k => rfl) (seed := jb_c Z 0) (per := jb_c Z 1)
  have no1 : ∀ k i, 7 ≤ k → jy_no K1 k i := fun k i hk => Q1.2.2.2.2.1 k i (noA k i (by omega)) (fun q hq z => by
    have := (show ∀ q ∈ [(9, 6), (8, 5), (6, 4), (4, 3), (3, 2), (2, 1)], q.2 < 7 by decide) q hq
    omega)
  have Z1 : K1.1 Z.1 = none := (Q1.2.2.2.2.2.2.2.2.2 Z.1 (show Z.1 < a + 1 by omega)).trans ZA
  have f20 : ∀ k, 20 ≤ k → jc_f jb_f 0 1 (jb_c Z 0) (jc_per (jb_c Z 1)) k 0 = fun _ => 0 := fun k hk => by
    funext j
    unfold jc_f
    rw [jy_row_k3 (by omega), jy_up_k (by omega), jy_up_k (by omega)]
    rfl
  have nw := jb_new20 (no1 20 0 (by omega)) (f20 20 (by omega)) (g := g1) (by rw [Q1.2.2.2.2.2.1 20 (by omega)]; rfl)
  have okB := jy_nk_ok (n := 30) Q1.1 (no1 20 0 (by omega))
  have lvB : jy_lv (jy_nk K1 20 0 30) 20 0 := jy_nk_lv
  have noB : ∀ k i, 7 ≤ k → ¬ k = 20 → jy_no (jy_nk K1 20 0 30) k i := fun k i h h' => jy_nk_no (fun z => h' z.1) (no1 k i h)
  obtain ⟨K2, g2, r2, Q2⟩ := rm_init (Z := Z) (d := 7) (f := jc_f jb_f 0 1 (jb_c Z 0) (jc_per (jb_c Z 1))) (g := g1) okB lvB (fun k h1 h2 => noB k 0 (by omega) (by omega)) f20 (seed := jb_c Z 0) (per := jb_c Z 1)
  have ZB : (jy_nk K1 20 0 30).1 Z.1 = none := (va_up_ne _ _ (by have := Q1.2.2.2.2.2.2.1; have e : (jy_nk (jb_K a) 0 0 11).2.2.1 = a + 1 := rfl; omega)).trans Z1
  have n1 : K1.2.2.1 = a + 1 + 6 := Q1.2.2.2.2.2.2.1
  have m1 : K1.2.2.2 = 0 + 11 + 85 := Q1.2.2.2.2.2.2.2.1
  have n2 : K2.2.2.1 = K1.2.2.1 + 1 + 25 := Q2.2.2.2.2.2.2.1
  have m2 : K2.2.2.2 = K1.2.2.2 + 30 + 2005 := Q2.2.2.2.2.2.2.2.1
  have x2 : jy_x K1 K2 := (jy_nk_x Q1.1 (no1 20 0 (by omega))).tr Q2.2.1
  have Z2 : K2.1 Z.1 = none := (Q2.2.2.2.2.2.2.2.2.2 Z.1 (show Z.1 < K1.2.2.1 + 1 by omega)).trans ZB
  have gk : ∀ k, ¬ k = 20 → g2 k = g1 k := Q2.2.2.2.2.2.1
  have a0 : K2.2.1 0 0 = a := (x2.2.1 0 0 Q1.2.2.1).2.trans Q1.2.2.2.2.2.2.2.2.1
  have a20 : K2.2.1 20 0 = K1.2.2.1 := Q2.2.2.2.2.2.2.2.2.1.trans jy_nk_at
  have no2 : ∀ k i, 7 ≤ k → k < 20 → jy_no K2 k i := fun k i h h' => Q2.2.2.2.2.1 k i (noB k i h (by omega)) (fun q hq z => by
    have := (show ∀ q ∈ ([(29, 49), (28, 48), (27, 47), (26, 46), (25, 45), (24, 44), (23, 43), (22, 42), (21, 41), (20, 40), (19, 39), (18, 38), (17, 37), (16, 36), (15, 35), (14, 34), (13, 33), (12, 32), (11, 31), (10, 30), (9, 29), (7, 27), (6, 26), (5, 25), (3, 23)] : List (Nat × Nat)), 20 < q.2 by decide) q hq
    omega)
  have old : ∀ q ∈ [(9, 6), (8, 5), (6, 4), (4, 3), (3, 2), (2, 1)], jy_lv K2 q.2 0 ∧ g2 0 0 q.1 = some (K2.2.1 q.2 0) := fun q hq => by
    have w := Q1.2.2.2.1 q hq
    have y := x2.2.1 q.2 0 w.1
    rw [gk 0 (by omega), y.2]
    exact ⟨y.1, w.2⟩
  have gn : ∀ k, ¬ k = 20 → ¬ k = 0 → g2 k = jb_g k := fun k h h' => (gk k h).trans (Q1.2.2.2.2.2.1 k h')
  refine ⟨K2, g2, jb_F (jb_c Z 0) (jc_per (jb_c Z 1)), ?_, ?_, ?_, Z2, by omega, by omega, by omega⟩
  · have e0 : ((fun _ => none, a, 0) : jx_W) = jy_w (jb_K a) jb_f jb_g := rfl
    have w0 : (jy_w (jb_K a) jb_f jb_g).2.1 = a := rfl
    have w1 : ∀ f g, (jy_w K1 f g).2.1 = K1.2.2.1 := fun _ _ => rfl
    have c0 : jx_m Z 8 65 [.inr (some Z.1), .inl 0] (jy_w (jy_nk (jb_K a) 0 0 11) jb_f jb_g) = _ := jb_cell (i := 0) ZA hL (by omega)
    have c1 : jx_m Z 8 65 [.inr (some Z.1), .inl 1] (jy_w (jy_nk (jb_K a) 0 0 11) jb_f jb_g) = _ := jb_cell (i := 1) ZA hL (by omega)
    have d0 : jx_m Z 8 65 [.inr (some Z.1), .inl 0] (jy_w (jy_nk K1 20 0 30) (jc_f jb_f 0 1 (jb_c Z 0) (jc_per (jb_c Z 1))) g1) = _ := jb_cell (i := 0) ZB hL (by omega)
    have d1 : jx_m Z 8 65 [.inr (some Z.1), .inl 1] (jy_w (jy_nk K1 20 0 30) (jc_f jb_f 0 1 (jb_c Z 0) (jc_per (jb_c Z 1))) g1) = _ := jb_cell (i := 1) ZB hL (by omega)
    have r1 : jx_m Z 8 0 [.inr (some a), .inl (jb_c Z 0), .inl (jb_c Z 1)] _ = _ := r1
    have r2 : jx_m Z 8 66 [.inr (some ((jy_nk K1 20 0 30).2.1 20 0)), .inl (jb_c Z 0), .inl (jb_c Z 1)] _ = _ := r2
    rw [jy_nk_at] at r2
    rw [e0]
    unfold jl_S jb_F
    rw [a0, a20]
    simp only [x_Lw_law_0, x_Lw_law_3, x_Lw_law_4, x_Lw_law_5, x_Lw_law_6, x_Lw_law_9, x_Lw_law_10, x_Lw_law_11, x_Lw_law_14, x_Lw_law_17, x_Lw_law_18, x_Lw_law_21, x_Lw_law_22, x_Lw_law_23, x_Lw_law_24, x_Lw_law_27, x_Lw_law_28, x_Lw_law_29, x_Lw_law_32, x_Lw_law_35, x_Lw_law_36, x_Lw_law_37, jb_new0, w0, w1, c0, c1, d0, d1, r1, nw, r2, Option.bind_some, Option.toList_some, Option.toList_none, List.cons_append, List.nil_append]
    rfl
  · have F0 := fun (k i j : Nat) => jb_F0 (s := jb_c Z 0) (p := jc_per (jb_c Z 1)) (k := k) (i := i) (j := j)
    refine ⟨⟨Q2.1, ⟨⟨(x2.2.1 0 0 Q1.2.2.1).1, (old (2, 1) (by decide)).1, (old (3, 2) (by decide)).1, (old (4, 3) (by decide)).1, (old (6, 4) (by decide)).1, (old (8, 5) (by decide)).1, (old (9, 6) (by decide)).1⟩, (old (2, 1) (by decide)).2, (old (3, 2) (by decide)).2, (old (4, 3) (by decide)).2, (old (6, 4) (by decide)).2, (old (8, 5) (by decide)).2, (old (9, 6) (by decide)).2⟩, fun c h => by omega, fun b h h' => by omega, fun b c h h' => by omega, fun c hc => ?_, fun x y h => absurd h (no2 13 y (by omega) (by omega) x)⟩, ⟨fun c _ => ⟨no2 7 c (by omega) (by omega), no2 8 c (by omega) (by omega), no2 9 c (by omega) (by omega)⟩, fun b _ => ⟨no2 10 b (by omega) (by omega), no2 11 b (by omega) (by omega), no2 12 b (by omega) (by omega)⟩⟩, ⟨F0 0 0 5 (by omega) (by omega) (by omega) (by omega) (by omega) (by omega), F0 0 0 7 (by omega) (by omega) (by omega) (by omega) (by omega) (by omega), by omega, by omega⟩, ⟨F0 20 0 4 (by omega) (by omega) (by omega) (by omega) (by omega) (by omega), F0 20 0 8 (by omega) (by omega) (by omega) (by omega) (by omega) (by omega), by omega, by omega⟩, ?_, ?_, ?_, ?_, ?_, ?_, ?_, ?_, ?_, ?_, ?_, ?_, ?_⟩
    · rw [gn 5 (by omega) (by omega), gn 6 (by omega) (by omega)]
      have e : ∀ k, jl_e K2 (jb_g k 0 c) := by
        intro k a h
        cases h
      exact ⟨e 5, e 6⟩
    · unfold jp_1 jb_F jc_f
      simp only [jy_up_k, jy_up_2, jy_row_k3, jy_row_2, Nat.reduceEqDiff, not_false_eq_true, ↓reduceIte, true_and, and_true, and_false, false_and, reduceCtorEq]
      rfl
    · intro u hu
      unfold jb_F jc_f
      simp only [jy_up_k, jy_up_2, jy_row_k3, jy_row_2, Nat.reduceEqDiff, not_false_eq_true, ↓reduceIte, true_and, and_true, and_false, false_and, reduceCtorEq, hu]
    · refine ⟨fun k hk => ?_, fun u c hu _ _ => F0 _ _ _ (by omega) (by omega) (by omega) (by omega) (by omega) (by omega)⟩
      rw [F0 2 0 k (by omega) (by omega) (by omega) (by omega) (by omega) (by omega), F0 27 0 k (by omega) (by omega) (by omega) (by omega) (by omega) (by omega)]
      exact ⟨rfl, 0, by omega, rfl⟩
    · exact ⟨fun c h => by omega, fun c _ _ => ⟨F0 _ _ _ (by omega) (by omega) (by omega) (by omega) (by omega) (by omega), F0 _ _ _ (by omega) (by omega) (by omega) (by omega) (by omega) (by omega), F0 _ _ _ (by omega) (by omega) (by omega) (by omega) (by omega) (by omega)⟩⟩
    · exact fun c h => by omega
    · exact fun c h => by omega
    · exact fun c h b h1 h2 z => absurd (F0 47 0 _ (by omega) (by omega) (by omega) (by omega) (by omega) (by omega)) z
    · exact fun b h h' => by omega
    · exact ⟨fun b c h h' => by omega, fun b c _ _ _ => ⟨F0 _ _ _ (by omega) (by omega) (by omega) (by omega) (by omega) (by omega), F0 _ _ _ (by omega) (by omega) (by omega) (by omega) (by omega) (by omega), F0 _ _ _ (by omega) (by omega) (by omega) (by omega) (by omega) (by omega)⟩, fun b c h h' => by omega⟩
    · exact fun b h h' => by omega
    · intro c hc
      rw [gn 5 (by omega) (by omega), gn 6 (by omega) (by omega)]
      exact ⟨F0 36 0 _ (by omega) (by omega) (by omega) (by omega) (by omega) (by omega), F0 36 0 _ (by omega) (by omega) (by omega) (by omega) (by omega) (by omega)⟩
    · exact fun c h => by omega
    · exact fun b c _ _ _ => F0 _ _ _ (by omega) (by omega) (by omega) (by omega) (by omega) (by omega)
  · refine ⟨Q2.1, Q2.2.2.1, fun j hj => ?_⟩
    have : ∀ j ∈ ([3, 5, 6, 7, 9, 10, 11, 12, 13, 14, 15, 16, 17, 18, 19, 20, 21, 22, 23, 24, 25, 26, 27, 28, 29] : List Nat), (j, 20 + j) ∈ ([(29, 49), (28, 48), (27, 47), (26, 46), (25, 45), (24, 44), (23, 43), (22, 42), (21, 41), (20, 40), (19, 39), (18, 38), (17, 37), (16, 36), (15, 35), (14, 34), (13, 33), (12, 32), (11, 31), (10, 30), (9, 29), (7, 27), (6, 26), (5, 25), (3, 23)] : List (Nat × Nat)) := by decide
    exact Q2.2.2.2.1 (j, 20 + j) (this j hj)
