/-! the constructors: new arrays put into fields (text by gen_init.py) -/
def jc_Q (o : Nat) (K0 K : jy_K) (g0 g : jy_R) (S : List (Nat × Nat)) (c m : Nat) : Prop := jy_ok K ∧ jy_x K0 K ∧ jy_lv K o 0 ∧ (∀ q ∈ S, jy_lv K q.2 0 ∧ g o 0 q.1 = some (K.2.1 q.2 0)) ∧ (∀ k i, jy_no K0 k i → (∀ q ∈ S, ¬ (k = q.2 ∧ i = 0)) → jy_no K k i) ∧ (∀ k, ¬ k = o → g k = g0 k) ∧ K.2.2.1 = K0.2.2.1 + c ∧ K.2.2.2 = K0.2.2.2 + m ∧ K.2.1 o 0 = K0.2.1 o 0 ∧ ∀ a, a < K0.2.2.1 → K.1 a = K0.1 a
section IN
variable {Z : jx_Sc} {call : jx_C} {K0 K : jy_K} {g0 g : jy_R} {f : jy_I} {S : List (Nat × Nat)} {c m o : Nat} {l1 l2 l3 : Option jx_V}
theorem jc_Q0 (ho : jy_ok K) (hl : jy_lv K o 0) : jc_Q o K K g g [] 0 0 := ⟨ho, jy_x.rf ho, hl, (fun q h => absurd h (List.not_mem_nil)), fun k i h _ => h, fun _ _ => rfl, rfl, rfl, rfl, fun _ _ => rfl⟩
theorem jc_no {k : Nat} (h : jc_Q o K0 K g0 g S c m) (hn : jy_no K0 k 0) {j : Nat} (hS : ∀ q ∈ S, ¬ q.2 = k ∧ ¬ q.1 = j) : jy_no K k 0 := h.2.2.2.2.1 k 0 hn (fun q hq z => (hS q hq).1 z.1.symm)
theorem jc_nx {j k N : Nat} (h : jc_Q o K0 K g0 g S c m) (hn : jy_no K0 k 0) (hS : ∀ q ∈ S, ¬ q.2 = k ∧ ¬ q.1 = j) (hko : ¬ o = k) : (jy_nk K k 0 N).2.1 o 0 = K.2.1 o 0 ∧ jc_Q o K0 (jy_nk K k 0 N) g0 (jy_up g o 0 j (some K.2.2.1)) ((j, k) :: S) (c + 1) (m + N) := by
  have hk := jc_no h hn hS
  obtain ⟨h1, h2, h3, h4, h5, h6, h7, h8, h9, h10⟩ := h
  have e : (jy_nk K k 0 N).2.1 o 0 = K.2.1 o 0 := jy_nk_ne (fun z => hko z.1)
  refine ⟨e, jy_nk_ok h1 hk, h2.tr (jy_nk_x h1 hk), jy_nk_l2 h1 hk h3, fun q hq => ?_, fun k' i' z1 z2 => ?_, fun k' z => ?_, ?_, ?_, e.trans h9, fun a ha => ?_⟩
  · rcases List.mem_cons.mp hq with rfl | hq
    · exact ⟨jy_nk_lv, by rw [jy_up_self, jy_nk_at]⟩
    · have w := h4 q hq
      have w' := hS q hq
      refine ⟨jy_nk_l2 h1 hk w.1, ?_⟩
      rw [jy_up_j w'.2, jy_nk_ne (fun z => w'.1 z.1)]
      exact w.2
  · refine jy_nk_no (fun z => z2 (j, k) (List.mem_cons_self ..) ⟨z.1, z.2⟩) (h5 k' i' z1 (fun q hq => z2 q (List.mem_cons_of_mem _ hq)))
  · rw [← h6 k' z]
    funext i' j'
    exact jy_up_k z
  · show K.2.2.1 + 1 = _
    omega
  · show K.2.2.2 + N = _
    omega
  · show va_up K.1 K.2.2.1 (some (k, 0)) a = _
    rw [va_up_ne _ _ (by omega)]
    exact h10 a ha
theorem jc_ni {k t N : Nat} (hk : jy_no K k 0) (hs : jy_sh k = .inl (t, N, false)) (hz : f k 0 = fun _ => 0) : jx_nw (jy_w K f g) (.inl (t, N, .inl (fun _ => 0))) N = jy_w (jy_nk K k 0 N) f g := jy_new hk (fun _ _ _ => ⟨rfl, rfl⟩) (by
  unfold jy_c
  rw [hs]
  dsimp only
  rw [hz])
theorem jc_nr {k t N : Nat} (hk : jy_no K k 0) (hs : jy_sh k = .inl (t, N, true)) (hz : g k 0 = fun _ => none) : jx_nw (jy_w K f g) (.inl (t, N, .inr (fun _ => none))) N = jy_w (jy_nk K k 0 N) f g := jy_new hk (fun _ _ _ => ⟨rfl, rfl⟩) (by
  unfold jy_c
  rw [hs]
  dsimp only
  rw [hz])
theorem jc_4 : (4 : Int32).toNatClampNeg = 4 := rfl
theorem jc_8 : (8 : Int32).toNatClampNeg = 8 := rfl
theorem jc_16 : (16 : Int32).toNatClampNeg = 16 := rfl
theorem jc_25 : (25 : Int32).toNatClampNeg = 25 := rfl
theorem jc_32 : (32 : Int32).toNatClampNeg = 32 := rfl
theorem jc_200 : (200 : Int32).toNatClampNeg = 200 := rfl
theorem ci_4 (h : jc_Q 0 K0 K g0 g S c m) (hn : jy_no K0 1 0) (hS : ∀ q ∈ S, ¬ q.2 = 1 ∧ ¬ q.1 = 2) (hz : f 1 0 = fun _ => 0) : ∃ (K' : jy_K) (g' : jy_R), jx_run Z jX_CC_init call (4, [some (.inr (some (K.2.1 0 0))), l1, l2, l3], [], jy_w K f g) = jx_run Z jX_CC_init call (11, [some (.inr (some (K'.2.1 0 0))), l1, l2, l3], [], jy_w K' f g') ∧ jc_Q 0 K0 K' g0 g' ((2, 1) :: S) (c + 1) (m + 4) := by
  have hk := jc_no h hn hS
  obtain ⟨e, Q⟩ := jc_nx (N := 4) h hn hS (by decide)
  refine ⟨_, _, ?_, Q⟩
  have L : jy_lv (jy_nk K 1 0 4) 0 0 := Q.2.2.1
  have nw := jc_ni (g := g) (t := 0) (N := 4) hk rfl hz
  have sf := jy_sFr (f := f) (g := g) (q := 2) (x := some K.2.2.1) (jy_nk_ok (n := 4) h.1 hk) L rfl rfl
  have wn : (jy_w K f g).2.1 = K.2.2.1 := rfl
  have c0 : ¬ ((4 : Int32) < 0 ∨ 65536 < 4) := by decide
  rw [e] at sf ⊢
  rw [x_CC_init_4, x_CC_init_5, x_CC_init_6, jc_4, if_neg c0, nw, wn, x_CC_init_8, sf]
  rfl
theorem ci_11 (h : jc_Q 0 K0 K g0 g S c m) (hn : jy_no K0 2 0) (hS : ∀ q ∈ S, ¬ q.2 = 2 ∧ ¬ q.1 = 3) (hz : f 2 0 = fun _ => 0) : ∃ (K' : jy_K) (g' : jy_R), jx_run Z jX_CC_init call (11, [some (.inr (some (K.2.1 0 0))), l1, l2, l3], [], jy_w K f g) = jx_run Z jX_CC_init call (19, [some (.inr (some (K'.2.1 0 0))), l1, l2, l3], [], jy_w K' f g') ∧ jc_Q 0 K0 K' g0 g' ((3, 2) :: S) (c + 1) (m + 32) := by
  have hk := jc_no h hn hS
  obtain ⟨e, Q⟩ := jc_nx (N := 32) h hn hS (by decide)
  refine ⟨_, _, ?_, Q⟩
  have L : jy_lv (jy_nk K 2 0 32) 0 0 := Q.2.2.1
  have nw := jc_ni (g := g) (t := 0) (N := 32) hk rfl hz
  have sf := jy_sFr (f := f) (g := g) (q := 3) (x := some K.2.2.1) (jy_nk_ok (n := 32) h.1 hk) L rfl rfl
  have wn : (jy_w K f g).2.1 = K.2.2.1 := rfl
  have c0 : ¬ ((32 : Int32) < 0 ∨ 65536 < 32) := by decide
  rw [e] at sf ⊢
  rw [x_CC_init_11, x_CC_init_12, x_CC_init_14, jc_32, if_neg c0, nw, wn, x_CC_init_16, sf]
  rfl
theorem ci_19 (h : jc_Q 0 K0 K g0 g S c m) (hn : jy_no K0 3 0) (hS : ∀ q ∈ S, ¬ q.2 = 3 ∧ ¬ q.1 = 4) (hz : g0 3 0 = fun _ => none) : ∃ (K' : jy_K) (g' : jy_R), jx_run Z jX_CC_init call (19, [some (.inr (some (K.2.1 0 0))), l1, l2, l3], [], jy_w K f g) = jx_run Z jX_CC_init call (28, [some (.inr (some (K'.2.1 0 0))), l1, l2, l3], [], jy_w K' f g') ∧ jc_Q 0 K0 K' g0 g' ((4, 3) :: S) (c + 1) (m + 8) := by
  have hk := jc_no h hn hS
  obtain ⟨e, Q⟩ := jc_nx (N := 8) h hn hS (by decide)
  refine ⟨_, _, ?_, Q⟩
  have L : jy_lv (jy_nk K 3 0 8) 0 0 := Q.2.2.1
  have nw := jc_nr (f := f) (g := g) (t := 2) (N := 8) hk rfl (by rw [h.2.2.2.2.2.1 3 (by decide)]; exact hz)
  have sf := jy_sFr (f := f) (g := g) (q := 4) (x := some K.2.2.1) (jy_nk_ok (n := 8) h.1 hk) L rfl rfl
  have wn : (jy_w K f g).2.1 = K.2.2.1 := rfl
  have c0 : ¬ ((8 : Int32) < 0 ∨ 65536 < 8) := by decide
  rw [e] at sf ⊢
  rw [x_CC_init_19, x_CC_init_20, x_CC_init_22, jc_8, if_neg c0, nw, wn, x_CC_init_25, sf]
  rfl
theorem ci_28 (h : jc_Q 0 K0 K g0 g S c m) (hn : jy_no K0 4 0) (hS : ∀ q ∈ S, ¬ q.2 = 4 ∧ ¬ q.1 = 6) (hz : g0 4 0 = fun _ => none) : ∃ (K' : jy_K) (g' : jy_R), jx_run Z jX_CC_init call (28, [some (.inr (some (K.2.1 0 0))), l1, l2, l3], [], jy_w K f g) = jx_run Z jX_CC_init call (37, [some (.inr (some (K'.2.1 0 0))), l1, l2, l3], [], jy_w K' f g') ∧ jc_Q 0 K0 K' g0 g' ((6, 4) :: S) (c + 1) (m + 25) := by
  have hk := jc_no h hn hS
  obtain ⟨e, Q⟩ := jc_nx (N := 25) h hn hS (by decide)
  refine ⟨_, _, ?_, Q⟩
  have L : jy_lv (jy_nk K 4 0 25) 0 0 := Q.2.2.1
  have nw := jc_nr (f := f) (g := g) (t := 3) (N := 25) hk rfl (by rw [h.2.2.2.2.2.1 4 (by decide)]; exact hz)
  have sf := jy_sFr (f := f) (g := g) (q := 6) (x := some K.2.2.1) (jy_nk_ok (n := 25) h.1 hk) L rfl rfl
  have wn : (jy_w K f g).2.1 = K.2.2.1 := rfl
  have c0 : ¬ ((25 : Int32) < 0 ∨ 65536 < 25) := by decide
  rw [e] at sf ⊢
  rw [x_CC_init_28, x_CC_init_29, x_CC_init_31, jc_25, if_neg c0, nw, wn, x_CC_init_34, sf]
  rfl
theorem ci_37 (h : jc_Q 0 K0 K g0 g S c m) (hn : jy_no K0 5 0) (hS : ∀ q ∈ S, ¬ q.2 = 5 ∧ ¬ q.1 = 8) (hz : g0 5 0 = fun _ => none) : ∃ (K' : jy_K) (g' : jy_R), jx_run Z jX_CC_init call (37, [some (.inr (some (K.2.1 0 0))), l1, l2, l3], [], jy_w K f g) = jx_run Z jX_CC_init call (46, [some (.inr (some (K'.2.1 0 0))), l1, l2, l3], [], jy_w K' f g') ∧ jc_Q 0 K0 K' g0 g' ((8, 5) :: S) (c + 1) (m + 8) := by
  have hk := jc_no h hn hS
  obtain ⟨e, Q⟩ := jc_nx (N := 8) h hn hS (by decide)
  refine ⟨_, _, ?_, Q⟩
  have L : jy_lv (jy_nk K 5 0 8) 0 0 := Q.2.2.1
  have nw := jc_nr (f := f) (g := g) (t := 4) (N := 8) hk rfl (by rw [h.2.2.2.2.2.1 5 (by decide)]; exact hz)
  have sf := jy_sFr (f := f) (g := g) (q := 8) (x := some K.2.2.1) (jy_nk_ok (n := 8) h.1 hk) L rfl rfl
  have wn : (jy_w K f g).2.1 = K.2.2.1 := rfl
  have c0 : ¬ ((8 : Int32) < 0 ∨ 65536 < 8) := by decide
  rw [e] at sf ⊢
  rw [x_CC_init_37, x_CC_init_38, x_CC_init_40, jc_8, if_neg c0, nw, wn, x_CC_init_43, sf]
  rfl
theorem ci_46 (h : jc_Q 0 K0 K g0 g S c m) (hn : jy_no K0 6 0) (hS : ∀ q ∈ S, ¬ q.2 = 6 ∧ ¬ q.1 = 9) (hz : g0 6 0 = fun _ => none) : ∃ (K' : jy_K) (g' : jy_R), jx_run Z jX_CC_init call (46, [some (.inr (some (K.2.1 0 0))), l1, l2, l3], [], jy_w K f g) = jx_run Z jX_CC_init call (55, [some (.inr (some (K'.2.1 0 0))), l1, l2, l3], [], jy_w K' f g') ∧ jc_Q 0 K0 K' g0 g' ((9, 6) :: S) (c + 1) (m + 8) := by
  have hk := jc_no h hn hS
  obtain ⟨e, Q⟩ := jc_nx (N := 8) h hn hS (by decide)
  refine ⟨_, _, ?_, Q⟩
  have L : jy_lv (jy_nk K 6 0 8) 0 0 := Q.2.2.1
  have nw := jc_nr (f := f) (g := g) (t := 4) (N := 8) hk rfl (by rw [h.2.2.2.2.2.1 6 (by decide)]; exact hz)
  have sf := jy_sFr (f := f) (g := g) (q := 9) (x := some K.2.2.1) (jy_nk_ok (n := 8) h.1 hk) L rfl rfl
  have wn : (jy_w K f g).2.1 = K.2.2.1 := rfl
  have c0 : ¬ ((8 : Int32) < 0 ∨ 65536 < 8) := by decide
  rw [e] at sf ⊢
  rw [x_CC_init_46, x_CC_init_47, x_CC_init_49, jc_8, if_neg c0, nw, wn, x_CC_init_52, sf]
  rfl
theorem ci_all (ho : jy_ok K) (hl : jy_lv K 0 0) (hn : ∀ k, 0 < k → k < 7 → jy_no K k 0) (z1 : f 1 0 = fun _ => 0) (z2 : f 2 0 = fun _ => 0) (z3 : g 3 0 = fun _ => none) (z4 : g 4 0 = fun _ => none) (z5 : g 5 0 = fun _ => none) (z6 : g 6 0 = fun _ => none) : ∃ (K' : jy_K) (g' : jy_R), jx_run Z jX_CC_init call (4, [some (.inr (some (K.2.1 0 0))), l1, l2, l3], [], jy_w K f g) = jx_run Z jX_CC_init call (55, [some (.inr (some (K'.2.1 0 0))), l1, l2, l3], [], jy_w K' f g') ∧ jc_Q 0 K K' g g' [(9, 6), (8, 5), (6, 4), (4, 3), (3, 2), (2, 1)] 6 85 := by
  have Q0 := jc_Q0 (g := g) ho hl
  obtain ⟨K1, g1, e1, Q1⟩ := ci_4 (Z := Z) (call := call) (f := f) (l1 := l1) (l2 := l2) (l3 := l3) Q0 (hn 1 (by decide) (by decide)) (by decide) z1
  obtain ⟨K2, g2, e2, Q2⟩ := ci_11 (Z := Z) (call := call) (f := f) (l1 := l1) (l2 := l2) (l3 := l3) Q1 (hn 2 (by decide) (by decide)) (by decide) z2
  obtain ⟨K3, g3, e3, Q3⟩ := ci_19 (Z := Z) (call := call) (f := f) (l1 := l1) (l2 := l2) (l3 := l3) Q2 (hn 3 (by decide) (by decide)) (by decide) z3
  obtain ⟨K4, g4, e4, Q4⟩ := ci_28 (Z := Z) (call := call) (f := f) (l1 := l1) (l2 := l2) (l3 := l3) Q3 (hn 4 (by decide) (by decide)) (by decide) z4
  obtain ⟨K5, g5, e5, Q5⟩ := ci_37 (Z := Z) (call := call) (f := f) (l1 := l1) (l2 := l2) (l3 := l3) Q4 (hn 5 (by decide) (by decide)) (by decide) z5
  obtain ⟨K6, g6, e6, Q6⟩ := ci_46 (Z := Z) (call := call) (f := f) (l1 := l1) (l2 := l2) (l3 := l3) Q5 (hn 6 (by decide) (by decide)) (by decide) z6
  refine ⟨K6, g6, ?_, Q6⟩
  rw [e1, e2, e3, e4, e5, e6]
theorem ri_4 (h : jc_Q 20 K0 K g0 g S c m) (hn : jy_no K0 23 0) (hS : ∀ q ∈ S, ¬ q.2 = 23 ∧ ¬ q.1 = 3) (hz : f 23 0 = fun _ => 0) : ∃ (K' : jy_K) (g' : jy_R), jx_run Z jX_RM_init call (4, [some (.inr (some (K.2.1 20 0))), l1, l2, l3], [], jy_w K f g) = jx_run Z jX_RM_init call (11, [some (.inr (some (K'.2.1 20 0))), l1, l2, l3], [], jy_w K' f g') ∧ jc_Q 20 K0 K' g0 g' ((3, 23) :: S) (c + 1) (m + 4) := by
  have hk := jc_no h hn hS
  obtain ⟨e, Q⟩ := jc_nx (N := 4) h hn hS (by decide)
  refine ⟨_, _, ?_, Q⟩
  have L : jy_lv (jy_nk K 23 0 4) 20 0 := Q.2.2.1
  have nw := jc_ni (g := g) (t := 0) (N := 4) hk rfl hz
  have sf := jy_sFr (f := f) (g := g) (q := 3) (x := some K.2.2.1) (jy_nk_ok (n := 4) h.1 hk) L rfl rfl
  have wn : (jy_w K f g).2.1 = K.2.2.1 := rfl
  have c0 : ¬ ((4 : Int32) < 0 ∨ 65536 < 4) := by decide
  rw [e] at sf ⊢
  rw [x_RM_init_4, x_RM_init_5, x_RM_init_6, jc_4, if_neg c0, nw, wn, x_RM_init_8, sf]
  rfl
theorem ri_11 (h : jc_Q 20 K0 K g0 g S c m) (hn : jy_no K0 25 0) (hS : ∀ q ∈ S, ¬ q.2 = 25 ∧ ¬ q.1 = 5) (hz : f 25 0 = fun _ => 0) : ∃ (K' : jy_K) (g' : jy_R), jx_run Z jX_RM_init call (11, [some (.inr (some (K.2.1 20 0))), l1, l2, l3], [], jy_w K f g) = jx_run Z jX_RM_init call (19, [some (.inr (some (K'.2.1 20 0))), l1, l2, l3], [], jy_w K' f g') ∧ jc_Q 20 K0 K' g0 g' ((5, 25) :: S) (c + 1) (m + 8) := by
  have hk := jc_no h hn hS
  obtain ⟨e, Q⟩ := jc_nx (N := 8) h hn hS (by decide)
  refine ⟨_, _, ?_, Q⟩
  have L : jy_lv (jy_nk K 25 0 8) 20 0 := Q.2.2.1
  have nw := jc_ni (g := g) (t := 0) (N := 8) hk rfl hz
  have sf := jy_sFr (f := f) (g := g) (q := 5) (x := some K.2.2.1) (jy_nk_ok (n := 8) h.1 hk) L rfl rfl
  have wn : (jy_w K f g).2.1 = K.2.2.1 := rfl
  have c0 : ¬ ((8 : Int32) < 0 ∨ 65536 < 8) := by decide
  rw [e] at sf ⊢
  rw [x_RM_init_11, x_RM_init_12, x_RM_init_14, jc_8, if_neg c0, nw, wn, x_RM_init_16, sf]
  rfl
theorem ri_19 (h : jc_Q 20 K0 K g0 g S c m) (hn : jy_no K0 26 0) (hS : ∀ q ∈ S, ¬ q.2 = 26 ∧ ¬ q.1 = 6) (hz : f 26 0 = fun _ => 0) : ∃ (K' : jy_K) (g' : jy_R), jx_run Z jX_RM_init call (19, [some (.inr (some (K.2.1 20 0))), l1, l2, l3], [], jy_w K f g) = jx_run Z jX_RM_init call (27, [some (.inr (some (K'.2.1 20 0))), l1, l2, l3], [], jy_w K' f g') ∧ jc_Q 20 K0 K' g0 g' ((6, 26) :: S) (c + 1) (m + 8) := by
  have hk := jc_no h hn hS
  obtain ⟨e, Q⟩ := jc_nx (N := 8) h hn hS (by decide)
  refine ⟨_, _, ?_, Q⟩
  have L : jy_lv (jy_nk K 26 0 8) 20 0 := Q.2.2.1
  have nw := jc_ni (g := g) (t := 1) (N := 8) hk rfl hz
  have sf := jy_sFr (f := f) (g := g) (q := 6) (x := some K.2.2.1) (jy_nk_ok (n := 8) h.1 hk) L rfl rfl
  have wn : (jy_w K f g).2.1 = K.2.2.1 := rfl
  have c0 : ¬ ((8 : Int32) < 0 ∨ 65536 < 8) := by decide
  rw [e] at sf ⊢
  rw [x_RM_init_19, x_RM_init_20, x_RM_init_22, jc_8, if_neg c0, nw, wn, x_RM_init_24, sf]
  rfl
theorem ri_27 (h : jc_Q 20 K0 K g0 g S c m) (hn : jy_no K0 27 0) (hS : ∀ q ∈ S, ¬ q.2 = 27 ∧ ¬ q.1 = 7) (hz : f 27 0 = fun _ => 0) : ∃ (K' : jy_K) (g' : jy_R), jx_run Z jX_RM_init call (27, [some (.inr (some (K.2.1 20 0))), l1, l2, l3], [], jy_w K f g) = jx_run Z jX_RM_init call (35, [some (.inr (some (K'.2.1 20 0))), l1, l2, l3], [], jy_w K' f g') ∧ jc_Q 20 K0 K' g0 g' ((7, 27) :: S) (c + 1) (m + 32) := by
  have hk := jc_no h hn hS
  obtain ⟨e, Q⟩ := jc_nx (N := 32) h hn hS (by decide)
  refine ⟨_, _, ?_, Q⟩
  have L : jy_lv (jy_nk K 27 0 32) 20 0 := Q.2.2.1
  have nw := jc_ni (g := g) (t := 0) (N := 32) hk rfl hz
  have sf := jy_sFr (f := f) (g := g) (q := 7) (x := some K.2.2.1) (jy_nk_ok (n := 32) h.1 hk) L rfl rfl
  have wn : (jy_w K f g).2.1 = K.2.2.1 := rfl
  have c0 : ¬ ((32 : Int32) < 0 ∨ 65536 < 32) := by decide
  rw [e] at sf ⊢
  rw [x_RM_init_27, x_RM_init_28, x_RM_init_30, jc_32, if_neg c0, nw, wn, x_RM_init_32, sf]
  rfl
theorem ri_35 (h : jc_Q 20 K0 K g0 g S c m) (hn : jy_no K0 29 0) (hS : ∀ q ∈ S, ¬ q.2 = 29 ∧ ¬ q.1 = 9) (hz : f 29 0 = fun _ => 0) : ∃ (K' : jy_K) (g' : jy_R), jx_run Z jX_RM_init call (35, [some (.inr (some (K.2.1 20 0))), l1, l2, l3], [], jy_w K f g) = jx_run Z jX_RM_init call (43, [some (.inr (some (K'.2.1 20 0))), l1, l2, l3], [], jy_w K' f g') ∧ jc_Q 20 K0 K' g0 g' ((9, 29) :: S) (c + 1) (m + 25) := by
  have hk := jc_no h hn hS
  obtain ⟨e, Q⟩ := jc_nx (N := 25) h hn hS (by decide)
  refine ⟨_, _, ?_, Q⟩
  have L : jy_lv (jy_nk K 29 0 25) 20 0 := Q.2.2.1
  have nw := jc_ni (g := g) (t := 1) (N := 25) hk rfl hz
  have sf := jy_sFr (f := f) (g := g) (q := 9) (x := some K.2.2.1) (jy_nk_ok (n := 25) h.1 hk) L rfl rfl
  have wn : (jy_w K f g).2.1 = K.2.2.1 := rfl
  have c0 : ¬ ((25 : Int32) < 0 ∨ 65536 < 25) := by decide
  rw [e] at sf ⊢
  rw [x_RM_init_35, x_RM_init_36, x_RM_init_38, jc_25, if_neg c0, nw, wn, x_RM_init_40, sf]
  rfl
theorem ri_43 (h : jc_Q 20 K0 K g0 g S c m) (hn : jy_no K0 30 0) (hS : ∀ q ∈ S, ¬ q.2 = 30 ∧ ¬ q.1 = 10) (hz : f 30 0 = fun _ => 0) : ∃ (K' : jy_K) (g' : jy_R), jx_run Z jX_RM_init call (43, [some (.inr (some (K.2.1 20 0))), l1, l2, l3], [], jy_w K f g) = jx_run Z jX_RM_init call (52, [some (.inr (some (K'.2.1 20 0))), l1, l2, l3], [], jy_w K' f g') ∧ jc_Q 20 K0 K' g0 g' ((10, 30) :: S) (c + 1) (m + 200) := by
  have hk := jc_no h hn hS
  obtain ⟨e, Q⟩ := jc_nx (N := 200) h hn hS (by decide)
  refine ⟨_, _, ?_, Q⟩
  have L : jy_lv (jy_nk K 30 0 200) 20 0 := Q.2.2.1
  have nw := jc_ni (g := g) (t := 1) (N := 200) hk rfl hz
  have sf := jy_sFr (f := f) (g := g) (q := 10) (x := some K.2.2.1) (jy_nk_ok (n := 200) h.1 hk) L rfl rfl
  have wn : (jy_w K f g).2.1 = K.2.2.1 := rfl
  have c0 : ¬ ((200 : Int32) < 0 ∨ 65536 < 200) := by decide
  rw [e] at sf ⊢
  rw [x_RM_init_43, x_RM_init_44, x_RM_init_47, jc_200, if_neg c0, nw, wn, x_RM_init_49, sf]
  rfl
theorem ri_52 (h : jc_Q 20 K0 K g0 g S c m) (hn : jy_no K0 31 0) (hS : ∀ q ∈ S, ¬ q.2 = 31 ∧ ¬ q.1 = 11) (hz : f 31 0 = fun _ => 0) : ∃ (K' : jy_K) (g' : jy_R), jx_run Z jX_RM_init call (52, [some (.inr (some (K.2.1 20 0))), l1, l2, l3], [], jy_w K f g) = jx_run Z jX_RM_init call (61, [some (.inr (some (K'.2.1 20 0))), l1, l2, l3], [], jy_w K' f g') ∧ jc_Q 20 K0 K' g0 g' ((11, 31) :: S) (c + 1) (m + 200) := by
  have hk := jc_no h hn hS
  obtain ⟨e, Q⟩ := jc_nx (N := 200) h hn hS (by decide)
  refine ⟨_, _, ?_, Q⟩
  have L : jy_lv (jy_nk K 31 0 200) 20 0 := Q.2.2.1
  have nw := jc_ni (g := g) (t := 1) (N := 200) hk rfl hz
  have sf := jy_sFr (f := f) (g := g) (q := 11) (x := some K.2.2.1) (jy_nk_ok (n := 200) h.1 hk) L rfl rfl
  have wn : (jy_w K f g).2.1 = K.2.2.1 := rfl
  have c0 : ¬ ((200 : Int32) < 0 ∨ 65536 < 200) := by decide
  rw [e] at sf ⊢
  rw [x_RM_init_52, x_RM_init_53, x_RM_init_56, jc_200, if_neg c0, nw, wn, x_RM_init_58, sf]
  rfl
theorem ri_61 (h : jc_Q 20 K0 K g0 g S c m) (hn : jy_no K0 32 0) (hS : ∀ q ∈ S, ¬ q.2 = 32 ∧ ¬ q.1 = 12) (hz : f 32 0 = fun _ => 0) : ∃ (K' : jy_K) (g' : jy_R), jx_run Z jX_RM_init call (61, [some (.inr (some (K.2.1 20 0))), l1, l2, l3], [], jy_w K f g) = jx_run Z jX_RM_init call (70, [some (.inr (some (K'.2.1 20 0))), l1, l2, l3], [], jy_w K' f g') ∧ jc_Q 20 K0 K' g0 g' ((12, 32) :: S) (c + 1) (m + 200) := by
  have hk := jc_no h hn hS
  obtain ⟨e, Q⟩ := jc_nx (N := 200) h hn hS (by decide)
  refine ⟨_, _, ?_, Q⟩
  have L : jy_lv (jy_nk K 32 0 200) 20 0 := Q.2.2.1
  have nw := jc_ni (g := g) (t := 0) (N := 200) hk rfl hz
  have sf := jy_sFr (f := f) (g := g) (q := 12) (x := some K.2.2.1) (jy_nk_ok (n := 200) h.1 hk) L rfl rfl
  have wn : (jy_w K f g).2.1 = K.2.2.1 := rfl
  have c0 : ¬ ((200 : Int32) < 0 ∨ 65536 < 200) := by decide
  rw [e] at sf ⊢
  rw [x_RM_init_61, x_RM_init_62, x_RM_init_65, jc_200, if_neg c0, nw, wn, x_RM_init_67, sf]
  rfl
theorem ri_70 (h : jc_Q 20 K0 K g0 g S c m) (hn : jy_no K0 33 0) (hS : ∀ q ∈ S, ¬ q.2 = 33 ∧ ¬ q.1 = 13) (hz : f 33 0 = fun _ => 0) : ∃ (K' : jy_K) (g' : jy_R), jx_run Z jX_RM_init call (70, [some (.inr (some (K.2.1 20 0))), l1, l2, l3], [], jy_w K f g) = jx_run Z jX_RM_init call (79, [some (.inr (some (K'.2.1 20 0))), l1, l2, l3], [], jy_w K' f g') ∧ jc_Q 20 K0 K' g0 g' ((13, 33) :: S) (c + 1) (m + 200) := by
  have hk := jc_no h hn hS
  obtain ⟨e, Q⟩ := jc_nx (N := 200) h hn hS (by decide)
  refine ⟨_, _, ?_, Q⟩
  have L : jy_lv (jy_nk K 33 0 200) 20 0 := Q.2.2.1
  have nw := jc_ni (g := g) (t := 0) (N := 200) hk rfl hz
  have sf := jy_sFr (f := f) (g := g) (q := 13) (x := some K.2.2.1) (jy_nk_ok (n := 200) h.1 hk) L rfl rfl
  have wn : (jy_w K f g).2.1 = K.2.2.1 := rfl
  have c0 : ¬ ((200 : Int32) < 0 ∨ 65536 < 200) := by decide
  rw [e] at sf ⊢
  rw [x_RM_init_70, x_RM_init_71, x_RM_init_74, jc_200, if_neg c0, nw, wn, x_RM_init_76, sf]
  rfl
theorem ri_79 (h : jc_Q 20 K0 K g0 g S c m) (hn : jy_no K0 34 0) (hS : ∀ q ∈ S, ¬ q.2 = 34 ∧ ¬ q.1 = 14) (hz : f 34 0 = fun _ => 0) : ∃ (K' : jy_K) (g' : jy_R), jx_run Z jX_RM_init call (79, [some (.inr (some (K.2.1 20 0))), l1, l2, l3], [], jy_w K f g) = jx_run Z jX_RM_init call (88, [some (.inr (some (K'.2.1 20 0))), l1, l2, l3], [], jy_w K' f g') ∧ jc_Q 20 K0 K' g0 g' ((14, 34) :: S) (c + 1) (m + 200) := by
  have hk := jc_no h hn hS
  obtain ⟨e, Q⟩ := jc_nx (N := 200) h hn hS (by decide)
  refine ⟨_, _, ?_, Q⟩
  have L : jy_lv (jy_nk K 34 0 200) 20 0 := Q.2.2.1
  have nw := jc_ni (g := g) (t := 0) (N := 200) hk rfl hz
  have sf := jy_sFr (f := f) (g := g) (q := 14) (x := some K.2.2.1) (jy_nk_ok (n := 200) h.1 hk) L rfl rfl
  have wn : (jy_w K f g).2.1 = K.2.2.1 := rfl
  have c0 : ¬ ((200 : Int32) < 0 ∨ 65536 < 200) := by decide
  rw [e] at sf ⊢
  rw [x_RM_init_79, x_RM_init_80, x_RM_init_83, jc_200, if_neg c0, nw, wn, x_RM_init_85, sf]
  rfl
theorem ri_88 (h : jc_Q 20 K0 K g0 g S c m) (hn : jy_no K0 35 0) (hS : ∀ q ∈ S, ¬ q.2 = 35 ∧ ¬ q.1 = 15) (hz : f 35 0 = fun _ => 0) : ∃ (K' : jy_K) (g' : jy_R), jx_run Z jX_RM_init call (88, [some (.inr (some (K.2.1 20 0))), l1, l2, l3], [], jy_w K f g) = jx_run Z jX_RM_init call (97, [some (.inr (some (K'.2.1 20 0))), l1, l2, l3], [], jy_w K' f g') ∧ jc_Q 20 K0 K' g0 g' ((15, 35) :: S) (c + 1) (m + 200) := by
  have hk := jc_no h hn hS
  obtain ⟨e, Q⟩ := jc_nx (N := 200) h hn hS (by decide)
  refine ⟨_, _, ?_, Q⟩
  have L : jy_lv (jy_nk K 35 0 200) 20 0 := Q.2.2.1
  have nw := jc_ni (g := g) (t := 0) (N := 200) hk rfl hz
  have sf := jy_sFr (f := f) (g := g) (q := 15) (x := some K.2.2.1) (jy_nk_ok (n := 200) h.1 hk) L rfl rfl
  have wn : (jy_w K f g).2.1 = K.2.2.1 := rfl
  have c0 : ¬ ((200 : Int32) < 0 ∨ 65536 < 200) := by decide
  rw [e] at sf ⊢
  rw [x_RM_init_88, x_RM_init_89, x_RM_init_92, jc_200, if_neg c0, nw, wn, x_RM_init_94, sf]
  rfl
theorem ri_97 (h : jc_Q 20 K0 K g0 g S c m) (hn : jy_no K0 36 0) (hS : ∀ q ∈ S, ¬ q.2 = 36 ∧ ¬ q.1 = 16) (hz : f 36 0 = fun _ => 0) : ∃ (K' : jy_K) (g' : jy_R), jx_run Z jX_RM_init call (97, [some (.inr (some (K.2.1 20 0))), l1, l2, l3], [], jy_w K f g) = jx_run Z jX_RM_init call (105, [some (.inr (some (K'.2.1 20 0))), l1, l2, l3], [], jy_w K' f g') ∧ jc_Q 20 K0 K' g0 g' ((16, 36) :: S) (c + 1) (m + 16) := by
  have hk := jc_no h hn hS
  obtain ⟨e, Q⟩ := jc_nx (N := 16) h hn hS (by decide)
  refine ⟨_, _, ?_, Q⟩
  have L : jy_lv (jy_nk K 36 0 16) 20 0 := Q.2.2.1
  have nw := jc_ni (g := g) (t := 1) (N := 16) hk rfl hz
  have sf := jy_sFr (f := f) (g := g) (q := 16) (x := some K.2.2.1) (jy_nk_ok (n := 16) h.1 hk) L rfl rfl
  have wn : (jy_w K f g).2.1 = K.2.2.1 := rfl
  have c0 : ¬ ((16 : Int32) < 0 ∨ 65536 < 16) := by decide
  rw [e] at sf ⊢
  rw [x_RM_init_97, x_RM_init_98, x_RM_init_100, jc_16, if_neg c0, nw, wn, x_RM_init_102, sf]
  rfl
theorem ri_105 (h : jc_Q 20 K0 K g0 g S c m) (hn : jy_no K0 37 0) (hS : ∀ q ∈ S, ¬ q.2 = 37 ∧ ¬ q.1 = 17) (hz : f 37 0 = fun _ => 0) : ∃ (K' : jy_K) (g' : jy_R), jx_run Z jX_RM_init call (105, [some (.inr (some (K.2.1 20 0))), l1, l2, l3], [], jy_w K f g) = jx_run Z jX_RM_init call (113, [some (.inr (some (K'.2.1 20 0))), l1, l2, l3], [], jy_w K' f g') ∧ jc_Q 20 K0 K' g0 g' ((17, 37) :: S) (c + 1) (m + 16) := by
  have hk := jc_no h hn hS
  obtain ⟨e, Q⟩ := jc_nx (N := 16) h hn hS (by decide)
  refine ⟨_, _, ?_, Q⟩
  have L : jy_lv (jy_nk K 37 0 16) 20 0 := Q.2.2.1
  have nw := jc_ni (g := g) (t := 0) (N := 16) hk rfl hz
  have sf := jy_sFr (f := f) (g := g) (q := 17) (x := some K.2.2.1) (jy_nk_ok (n := 16) h.1 hk) L rfl rfl
  have wn : (jy_w K f g).2.1 = K.2.2.1 := rfl
  have c0 : ¬ ((16 : Int32) < 0 ∨ 65536 < 16) := by decide
  rw [e] at sf ⊢
  rw [x_RM_init_105, x_RM_init_106, x_RM_init_108, jc_16, if_neg c0, nw, wn, x_RM_init_110, sf]
  rfl
theorem ri_113 (h : jc_Q 20 K0 K g0 g S c m) (hn : jy_no K0 38 0) (hS : ∀ q ∈ S, ¬ q.2 = 38 ∧ ¬ q.1 = 18) (hz : f 38 0 = fun _ => 0) : ∃ (K' : jy_K) (g' : jy_R), jx_run Z jX_RM_init call (113, [some (.inr (some (K.2.1 20 0))), l1, l2, l3], [], jy_w K f g) = jx_run Z jX_RM_init call (121, [some (.inr (some (K'.2.1 20 0))), l1, l2, l3], [], jy_w K' f g') ∧ jc_Q 20 K0 K' g0 g' ((18, 38) :: S) (c + 1) (m + 16) := by
  have hk := jc_no h hn hS
  obtain ⟨e, Q⟩ := jc_nx (N := 16) h hn hS (by decide)
  refine ⟨_, _, ?_, Q⟩
  have L : jy_lv (jy_nk K 38 0 16) 20 0 := Q.2.2.1
  have nw := jc_ni (g := g) (t := 0) (N := 16) hk rfl hz
  have sf := jy_sFr (f := f) (g := g) (q := 18) (x := some K.2.2.1) (jy_nk_ok (n := 16) h.1 hk) L rfl rfl
  have wn : (jy_w K f g).2.1 = K.2.2.1 := rfl
  have c0 : ¬ ((16 : Int32) < 0 ∨ 65536 < 16) := by decide
  rw [e] at sf ⊢
  rw [x_RM_init_113, x_RM_init_114, x_RM_init_116, jc_16, if_neg c0, nw, wn, x_RM_init_118, sf]
  rfl
theorem ri_121 (h : jc_Q 20 K0 K g0 g S c m) (hn : jy_no K0 39 0) (hS : ∀ q ∈ S, ¬ q.2 = 39 ∧ ¬ q.1 = 19) (hz : f 39 0 = fun _ => 0) : ∃ (K' : jy_K) (g' : jy_R), jx_run Z jX_RM_init call (121, [some (.inr (some (K.2.1 20 0))), l1, l2, l3], [], jy_w K f g) = jx_run Z jX_RM_init call (129, [some (.inr (some (K'.2.1 20 0))), l1, l2, l3], [], jy_w K' f g') ∧ jc_Q 20 K0 K' g0 g' ((19, 39) :: S) (c + 1) (m + 16) := by
  have hk := jc_no h hn hS
  obtain ⟨e, Q⟩ := jc_nx (N := 16) h hn hS (by decide)
  refine ⟨_, _, ?_, Q⟩
  have L : jy_lv (jy_nk K 39 0 16) 20 0 := Q.2.2.1
  have nw := jc_ni (g := g) (t := 0) (N := 16) hk rfl hz
  have sf := jy_sFr (f := f) (g := g) (q := 19) (x := some K.2.2.1) (jy_nk_ok (n := 16) h.1 hk) L rfl rfl
  have wn : (jy_w K f g).2.1 = K.2.2.1 := rfl
  have c0 : ¬ ((16 : Int32) < 0 ∨ 65536 < 16) := by decide
  rw [e] at sf ⊢
  rw [x_RM_init_121, x_RM_init_122, x_RM_init_124, jc_16, if_neg c0, nw, wn, x_RM_init_126, sf]
  rfl
theorem ri_129 (h : jc_Q 20 K0 K g0 g S c m) (hn : jy_no K0 40 0) (hS : ∀ q ∈ S, ¬ q.2 = 40 ∧ ¬ q.1 = 20) (hz : f 40 0 = fun _ => 0) : ∃ (K' : jy_K) (g' : jy_R), jx_run Z jX_RM_init call (129, [some (.inr (some (K.2.1 20 0))), l1, l2, l3], [], jy_w K f g) = jx_run Z jX_RM_init call (137, [some (.inr (some (K'.2.1 20 0))), l1, l2, l3], [], jy_w K' f g') ∧ jc_Q 20 K0 K' g0 g' ((20, 40) :: S) (c + 1) (m + 16) := by
  have hk := jc_no h hn hS
  obtain ⟨e, Q⟩ := jc_nx (N := 16) h hn hS (by decide)
  refine ⟨_, _, ?_, Q⟩
  have L : jy_lv (jy_nk K 40 0 16) 20 0 := Q.2.2.1
  have nw := jc_ni (g := g) (t := 0) (N := 16) hk rfl hz
  have sf := jy_sFr (f := f) (g := g) (q := 20) (x := some K.2.2.1) (jy_nk_ok (n := 16) h.1 hk) L rfl rfl
  have wn : (jy_w K f g).2.1 = K.2.2.1 := rfl
  have c0 : ¬ ((16 : Int32) < 0 ∨ 65536 < 16) := by decide
  rw [e] at sf ⊢
  rw [x_RM_init_129, x_RM_init_130, x_RM_init_132, jc_16, if_neg c0, nw, wn, x_RM_init_134, sf]
  rfl
theorem ri_137 (h : jc_Q 20 K0 K g0 g S c m) (hn : jy_no K0 41 0) (hS : ∀ q ∈ S, ¬ q.2 = 41 ∧ ¬ q.1 = 21) (hz : f 41 0 = fun _ => 0) : ∃ (K' : jy_K) (g' : jy_R), jx_run Z jX_RM_init call (137, [some (.inr (some (K.2.1 20 0))), l1, l2, l3], [], jy_w K f g) = jx_run Z jX_RM_init call (145, [some (.inr (some (K'.2.1 20 0))), l1, l2, l3], [], jy_w K' f g') ∧ jc_Q 20 K0 K' g0 g' ((21, 41) :: S) (c + 1) (m + 8) := by
  have hk := jc_no h hn hS
  obtain ⟨e, Q⟩ := jc_nx (N := 8) h hn hS (by decide)
  refine ⟨_, _, ?_, Q⟩
  have L : jy_lv (jy_nk K 41 0 8) 20 0 := Q.2.2.1
  have nw := jc_ni (g := g) (t := 1) (N := 8) hk rfl hz
  have sf := jy_sFr (f := f) (g := g) (q := 21) (x := some K.2.2.1) (jy_nk_ok (n := 8) h.1 hk) L rfl rfl
  have wn : (jy_w K f g).2.1 = K.2.2.1 := rfl
  have c0 : ¬ ((8 : Int32) < 0 ∨ 65536 < 8) := by decide
  rw [e] at sf ⊢
  rw [x_RM_init_137, x_RM_init_138, x_RM_init_140, jc_8, if_neg c0, nw, wn, x_RM_init_142, sf]
  rfl
theorem ri_145 (h : jc_Q 20 K0 K g0 g S c m) (hn : jy_no K0 42 0) (hS : ∀ q ∈ S, ¬ q.2 = 42 ∧ ¬ q.1 = 22) (hz : f 42 0 = fun _ => 0) : ∃ (K' : jy_K) (g' : jy_R), jx_run Z jX_RM_init call (145, [some (.inr (some (K.2.1 20 0))), l1, l2, l3], [], jy_w K f g) = jx_run Z jX_RM_init call (153, [some (.inr (some (K'.2.1 20 0))), l1, l2, l3], [], jy_w K' f g') ∧ jc_Q 20 K0 K' g0 g' ((22, 42) :: S) (c + 1) (m + 8) := by
  have hk := jc_no h hn hS
  obtain ⟨e, Q⟩ := jc_nx (N := 8) h hn hS (by decide)
  refine ⟨_, _, ?_, Q⟩
  have L : jy_lv (jy_nk K 42 0 8) 20 0 := Q.2.2.1
  have nw := jc_ni (g := g) (t := 0) (N := 8) hk rfl hz
  have sf := jy_sFr (f := f) (g := g) (q := 22) (x := some K.2.2.1) (jy_nk_ok (n := 8) h.1 hk) L rfl rfl
  have wn : (jy_w K f g).2.1 = K.2.2.1 := rfl
  have c0 : ¬ ((8 : Int32) < 0 ∨ 65536 < 8) := by decide
  rw [e] at sf ⊢
  rw [x_RM_init_145, x_RM_init_146, x_RM_init_148, jc_8, if_neg c0, nw, wn, x_RM_init_150, sf]
  rfl
theorem ri_153 (h : jc_Q 20 K0 K g0 g S c m) (hn : jy_no K0 43 0) (hS : ∀ q ∈ S, ¬ q.2 = 43 ∧ ¬ q.1 = 23) (hz : f 43 0 = fun _ => 0) : ∃ (K' : jy_K) (g' : jy_R), jx_run Z jX_RM_init call (153, [some (.inr (some (K.2.1 20 0))), l1, l2, l3], [], jy_w K f g) = jx_run Z jX_RM_init call (161, [some (.inr (some (K'.2.1 20 0))), l1, l2, l3], [], jy_w K' f g') ∧ jc_Q 20 K0 K' g0 g' ((23, 43) :: S) (c + 1) (m + 8) := by
  have hk := jc_no h hn hS
  obtain ⟨e, Q⟩ := jc_nx (N := 8) h hn hS (by decide)
  refine ⟨_, _, ?_, Q⟩
  have L : jy_lv (jy_nk K 43 0 8) 20 0 := Q.2.2.1
  have nw := jc_ni (g := g) (t := 0) (N := 8) hk rfl hz
  have sf := jy_sFr (f := f) (g := g) (q := 23) (x := some K.2.2.1) (jy_nk_ok (n := 8) h.1 hk) L rfl rfl
  have wn : (jy_w K f g).2.1 = K.2.2.1 := rfl
  have c0 : ¬ ((8 : Int32) < 0 ∨ 65536 < 8) := by decide
  rw [e] at sf ⊢
  rw [x_RM_init_153, x_RM_init_154, x_RM_init_156, jc_8, if_neg c0, nw, wn, x_RM_init_158, sf]
  rfl
theorem ri_161 (h : jc_Q 20 K0 K g0 g S c m) (hn : jy_no K0 44 0) (hS : ∀ q ∈ S, ¬ q.2 = 44 ∧ ¬ q.1 = 24) (hz : f 44 0 = fun _ => 0) : ∃ (K' : jy_K) (g' : jy_R), jx_run Z jX_RM_init call (161, [some (.inr (some (K.2.1 20 0))), l1, l2, l3], [], jy_w K f g) = jx_run Z jX_RM_init call (169, [some (.inr (some (K'.2.1 20 0))), l1, l2, l3], [], jy_w K' f g') ∧ jc_Q 20 K0 K' g0 g' ((24, 44) :: S) (c + 1) (m + 8) := by
  have hk := jc_no h hn hS
  obtain ⟨e, Q⟩ := jc_nx (N := 8) h hn hS (by decide)
  refine ⟨_, _, ?_, Q⟩
  have L : jy_lv (jy_nk K 44 0 8) 20 0 := Q.2.2.1
  have nw := jc_ni (g := g) (t := 0) (N := 8) hk rfl hz
  have sf := jy_sFr (f := f) (g := g) (q := 24) (x := some K.2.2.1) (jy_nk_ok (n := 8) h.1 hk) L rfl rfl
  have wn : (jy_w K f g).2.1 = K.2.2.1 := rfl
  have c0 : ¬ ((8 : Int32) < 0 ∨ 65536 < 8) := by decide
  rw [e] at sf ⊢
  rw [x_RM_init_161, x_RM_init_162, x_RM_init_164, jc_8, if_neg c0, nw, wn, x_RM_init_166, sf]
  rfl
theorem ri_169 (h : jc_Q 20 K0 K g0 g S c m) (hn : jy_no K0 45 0) (hS : ∀ q ∈ S, ¬ q.2 = 45 ∧ ¬ q.1 = 25) (hz : f 45 0 = fun _ => 0) : ∃ (K' : jy_K) (g' : jy_R), jx_run Z jX_RM_init call (169, [some (.inr (some (K.2.1 20 0))), l1, l2, l3], [], jy_w K f g) = jx_run Z jX_RM_init call (177, [some (.inr (some (K'.2.1 20 0))), l1, l2, l3], [], jy_w K' f g') ∧ jc_Q 20 K0 K' g0 g' ((25, 45) :: S) (c + 1) (m + 8) := by
  have hk := jc_no h hn hS
  obtain ⟨e, Q⟩ := jc_nx (N := 8) h hn hS (by decide)
  refine ⟨_, _, ?_, Q⟩
  have L : jy_lv (jy_nk K 45 0 8) 20 0 := Q.2.2.1
  have nw := jc_ni (g := g) (t := 0) (N := 8) hk rfl hz
  have sf := jy_sFr (f := f) (g := g) (q := 25) (x := some K.2.2.1) (jy_nk_ok (n := 8) h.1 hk) L rfl rfl
  have wn : (jy_w K f g).2.1 = K.2.2.1 := rfl
  have c0 : ¬ ((8 : Int32) < 0 ∨ 65536 < 8) := by decide
  rw [e] at sf ⊢
  rw [x_RM_init_169, x_RM_init_170, x_RM_init_172, jc_8, if_neg c0, nw, wn, x_RM_init_174, sf]
  rfl
theorem ri_177 (h : jc_Q 20 K0 K g0 g S c m) (hn : jy_no K0 46 0) (hS : ∀ q ∈ S, ¬ q.2 = 46 ∧ ¬ q.1 = 26) (hz : f 46 0 = fun _ => 0) : ∃ (K' : jy_K) (g' : jy_R), jx_run Z jX_RM_init call (177, [some (.inr (some (K.2.1 20 0))), l1, l2, l3], [], jy_w K f g) = jx_run Z jX_RM_init call (186, [some (.inr (some (K'.2.1 20 0))), l1, l2, l3], [], jy_w K' f g') ∧ jc_Q 20 K0 K' g0 g' ((26, 46) :: S) (c + 1) (m + 200) := by
  have hk := jc_no h hn hS
  obtain ⟨e, Q⟩ := jc_nx (N := 200) h hn hS (by decide)
  refine ⟨_, _, ?_, Q⟩
  have L : jy_lv (jy_nk K 46 0 200) 20 0 := Q.2.2.1
  have nw := jc_ni (g := g) (t := 1) (N := 200) hk rfl hz
  have sf := jy_sFr (f := f) (g := g) (q := 26) (x := some K.2.2.1) (jy_nk_ok (n := 200) h.1 hk) L rfl rfl
  have wn : (jy_w K f g).2.1 = K.2.2.1 := rfl
  have c0 : ¬ ((200 : Int32) < 0 ∨ 65536 < 200) := by decide
  rw [e] at sf ⊢
  rw [x_RM_init_177, x_RM_init_178, x_RM_init_181, jc_200, if_neg c0, nw, wn, x_RM_init_183, sf]
  rfl
theorem ri_186 (h : jc_Q 20 K0 K g0 g S c m) (hn : jy_no K0 47 0) (hS : ∀ q ∈ S, ¬ q.2 = 47 ∧ ¬ q.1 = 27) (hz : f 47 0 = fun _ => 0) : ∃ (K' : jy_K) (g' : jy_R), jx_run Z jX_RM_init call (186, [some (.inr (some (K.2.1 20 0))), l1, l2, l3], [], jy_w K f g) = jx_run Z jX_RM_init call (195, [some (.inr (some (K'.2.1 20 0))), l1, l2, l3], [], jy_w K' f g') ∧ jc_Q 20 K0 K' g0 g' ((27, 47) :: S) (c + 1) (m + 200) := by
  have hk := jc_no h hn hS
  obtain ⟨e, Q⟩ := jc_nx (N := 200) h hn hS (by decide)
  refine ⟨_, _, ?_, Q⟩
  have L : jy_lv (jy_nk K 47 0 200) 20 0 := Q.2.2.1
  have nw := jc_ni (g := g) (t := 1) (N := 200) hk rfl hz
  have sf := jy_sFr (f := f) (g := g) (q := 27) (x := some K.2.2.1) (jy_nk_ok (n := 200) h.1 hk) L rfl rfl
  have wn : (jy_w K f g).2.1 = K.2.2.1 := rfl
  have c0 : ¬ ((200 : Int32) < 0 ∨ 65536 < 200) := by decide
  rw [e] at sf ⊢
  rw [x_RM_init_186, x_RM_init_187, x_RM_init_190, jc_200, if_neg c0, nw, wn, x_RM_init_192, sf]
  rfl
theorem ri_195 (h : jc_Q 20 K0 K g0 g S c m) (hn : jy_no K0 48 0) (hS : ∀ q ∈ S, ¬ q.2 = 48 ∧ ¬ q.1 = 28) (hz : f 48 0 = fun _ => 0) : ∃ (K' : jy_K) (g' : jy_R), jx_run Z jX_RM_init call (195, [some (.inr (some (K.2.1 20 0))), l1, l2, l3], [], jy_w K f g) = jx_run Z jX_RM_init call (204, [some (.inr (some (K'.2.1 20 0))), l1, l2, l3], [], jy_w K' f g') ∧ jc_Q 20 K0 K' g0 g' ((28, 48) :: S) (c + 1) (m + 200) := by
  have hk := jc_no h hn hS
  obtain ⟨e, Q⟩ := jc_nx (N := 200) h hn hS (by decide)
  refine ⟨_, _, ?_, Q⟩
  have L : jy_lv (jy_nk K 48 0 200) 20 0 := Q.2.2.1
  have nw := jc_ni (g := g) (t := 0) (N := 200) hk rfl hz
  have sf := jy_sFr (f := f) (g := g) (q := 28) (x := some K.2.2.1) (jy_nk_ok (n := 200) h.1 hk) L rfl rfl
  have wn : (jy_w K f g).2.1 = K.2.2.1 := rfl
  have c0 : ¬ ((200 : Int32) < 0 ∨ 65536 < 200) := by decide
  rw [e] at sf ⊢
  rw [x_RM_init_195, x_RM_init_196, x_RM_init_199, jc_200, if_neg c0, nw, wn, x_RM_init_201, sf]
  rfl
theorem ri_204 (h : jc_Q 20 K0 K g0 g S c m) (hn : jy_no K0 49 0) (hS : ∀ q ∈ S, ¬ q.2 = 49 ∧ ¬ q.1 = 29) (hz : f 49 0 = fun _ => 0) : ∃ (K' : jy_K) (g' : jy_R), jx_run Z jX_RM_init call (204, [some (.inr (some (K.2.1 20 0))), l1, l2, l3], [], jy_w K f g) = jx_run Z jX_RM_init call (212, [some (.inr (some (K'.2.1 20 0))), l1, l2, l3], [], jy_w K' f g') ∧ jc_Q 20 K0 K' g0 g' ((29, 49) :: S) (c + 1) (m + 8) := by
  have hk := jc_no h hn hS
  obtain ⟨e, Q⟩ := jc_nx (N := 8) h hn hS (by decide)
  refine ⟨_, _, ?_, Q⟩
  have L : jy_lv (jy_nk K 49 0 8) 20 0 := Q.2.2.1
  have nw := jc_ni (g := g) (t := 0) (N := 8) hk rfl hz
  have sf := jy_sFr (f := f) (g := g) (q := 29) (x := some K.2.2.1) (jy_nk_ok (n := 8) h.1 hk) L rfl rfl
  have wn : (jy_w K f g).2.1 = K.2.2.1 := rfl
  have c0 : ¬ ((8 : Int32) < 0 ∨ 65536 < 8) := by decide
  rw [e] at sf ⊢
  rw [x_RM_init_204, x_RM_init_205, x_RM_init_207, jc_8, if_neg c0, nw, wn, x_RM_init_209, sf]
  rfl
theorem ri_all (ho : jy_ok K) (hl : jy_lv K 20 0) (hn : ∀ k, 20 < k → k < 50 → jy_no K k 0) (z23 : f 23 0 = fun _ => 0) (z25 : f 25 0 = fun _ => 0) (z26 : f 26 0 = fun _ => 0) (z27 : f 27 0 = fun _ => 0) (z29 : f 29 0 = fun _ => 0) (z30 : f 30 0 = fun _ => 0) (z31 : f 31 0 = fun _ => 0) (z32 : f 32 0 = fun _ => 0) (z33 : f 33 0 = fun _ => 0) (z34 : f 34 0 = fun _ => 0) (z35 : f 35 0 = fun _ => 0) (z36 : f 36 0 = fun _ => 0) (z37 : f 37 0 = fun _ => 0) (z38 : f 38 0 = fun _ => 0) (z39 : f 39 0 = fun _ => 0) (z40 : f 40 0 = fun _ => 0) (z41 : f 41 0 = fun _ => 0) (z42 : f 42 0 = fun _ => 0) (z43 : f 43 0 = fun _ => 0) (z44 : f 44 0 = fun _ => 0) (z45 : f 45 0 = fun _ => 0) (z46 : f 46 0 = fun _ => 0) (z47 : f 47 0 = fun _ => 0) (z48 : f 48 0 = fun _ => 0) (z49 : f 49 0 = fun _ => 0) : ∃ (K' : jy_K) (g' : jy_R), jx_run Z jX_RM_init call (4, [some (.inr (some (K.2.1 20 0))), l1, l2, l3], [], jy_w K f g) = jx_run Z jX_RM_init call (212, [some (.inr (some (K'.2.1 20 0))), l1, l2, l3], [], jy_w K' f g') ∧ jc_Q 20 K K' g g' [(29, 49), (28, 48), (27, 47), (26, 46), (25, 45), (24, 44), (23, 43), (22, 42), (21, 41), (20, 40), (19, 39), (18, 38), (17, 37), (16, 36), (15, 35), (14, 34), (13, 33), (12, 32), (11, 31), (10, 30), (9, 29), (7, 27), (6, 26), (5, 25), (3, 23)] 25 2005 := by
  have Q0 := jc_Q0 (g := g) ho hl
  obtain ⟨K1, g1, e1, Q1⟩ := ri_4 (Z := Z) (call := call) (f := f) (l1 := l1) (l2 := l2) (l3 := l3) Q0 (hn 23 (by decide) (by decide)) (by decide) z23
  obtain ⟨K2, g2, e2, Q2⟩ := ri_11 (Z := Z) (call := call) (f := f) (l1 := l1) (l2 := l2) (l3 := l3) Q1 (hn 25 (by decide) (by decide)) (by decide) z25
  obtain ⟨K3, g3, e3, Q3⟩ := ri_19 (Z := Z) (call := call) (f := f) (l1 := l1) (l2 := l2) (l3 := l3) Q2 (hn 26 (by decide) (by decide)) (by decide) z26
  obtain ⟨K4, g4, e4, Q4⟩ := ri_27 (Z := Z) (call := call) (f := f) (l1 := l1) (l2 := l2) (l3 := l3) Q3 (hn 27 (by decide) (by decide)) (by decide) z27
  obtain ⟨K5, g5, e5, Q5⟩ := ri_35 (Z := Z) (call := call) (f := f) (l1 := l1) (l2 := l2) (l3 := l3) Q4 (hn 29 (by decide) (by decide)) (by decide) z29
  obtain ⟨K6, g6, e6, Q6⟩ := ri_43 (Z := Z) (call := call) (f := f) (l1 := l1) (l2 := l2) (l3 := l3) Q5 (hn 30 (by decide) (by decide)) (by decide) z30
  obtain ⟨K7, g7, e7, Q7⟩ := ri_52 (Z := Z) (call := call) (f := f) (l1 := l1) (l2 := l2) (l3 := l3) Q6 (hn 31 (by decide) (by decide)) (by decide) z31
  obtain ⟨K8, g8, e8, Q8⟩ := ri_61 (Z := Z) (call := call) (f := f) (l1 := l1) (l2 := l2) (l3 := l3) Q7 (hn 32 (by decide) (by decide)) (by decide) z32
  obtain ⟨K9, g9, e9, Q9⟩ := ri_70 (Z := Z) (call := call) (f := f) (l1 := l1) (l2 := l2) (l3 := l3) Q8 (hn 33 (by decide) (by decide)) (by decide) z33
  obtain ⟨K10, g10, e10, Q10⟩ := ri_79 (Z := Z) (call := call) (f := f) (l1 := l1) (l2 := l2) (l3 := l3) Q9 (hn 34 (by decide) (by decide)) (by decide) z34
  obtain ⟨K11, g11, e11, Q11⟩ := ri_88 (Z := Z) (call := call) (f := f) (l1 := l1) (l2 := l2) (l3 := l3) Q10 (hn 35 (by decide) (by decide)) (by decide) z35
  obtain ⟨K12, g12, e12, Q12⟩ := ri_97 (Z := Z) (call := call) (f := f) (l1 := l1) (l2 := l2) (l3 := l3) Q11 (hn 36 (by decide) (by decide)) (by decide) z36
  obtain ⟨K13, g13, e13, Q13⟩ := ri_105 (Z := Z) (call := call) (f := f) (l1 := l1) (l2 := l2) (l3 := l3) Q12 (hn 37 (by decide) (by decide)) (by decide) z37
  obtain ⟨K14, g14, e14, Q14⟩ := ri_113 (Z := Z) (call := call) (f := f) (l1 := l1) (l2 := l2) (l3 := l3) Q13 (hn 38 (by decide) (by decide)) (by decide) z38
  obtain ⟨K15, g15, e15, Q15⟩ := ri_121 (Z := Z) (call := call) (f := f) (l1 := l1) (l2 := l2) (l3 := l3) Q14 (hn 39 (by decide) (by decide)) (by decide) z39
  obtain ⟨K16, g16, e16, Q16⟩ := ri_129 (Z := Z) (call := call) (f := f) (l1 := l1) (l2 := l2) (l3 := l3) Q15 (hn 40 (by decide) (by decide)) (by decide) z40
  obtain ⟨K17, g17, e17, Q17⟩ := ri_137 (Z := Z) (call := call) (f := f) (l1 := l1) (l2 := l2) (l3 := l3) Q16 (hn 41 (by decide) (by decide)) (by decide) z41
  obtain ⟨K18, g18, e18, Q18⟩ := ri_145 (Z := Z) (call := call) (f := f) (l1 := l1) (l2 := l2) (l3 := l3) Q17 (hn 42 (by decide) (by decide)) (by decide) z42
  obtain ⟨K19, g19, e19, Q19⟩ := ri_153 (Z := Z) (call := call) (f := f) (l1 := l1) (l2 := l2) (l3 := l3) Q18 (hn 43 (by decide) (by decide)) (by decide) z43
  obtain ⟨K20, g20, e20, Q20⟩ := ri_161 (Z := Z) (call := call) (f := f) (l1 := l1) (l2 := l2) (l3 := l3) Q19 (hn 44 (by decide) (by decide)) (by decide) z44
  obtain ⟨K21, g21, e21, Q21⟩ := ri_169 (Z := Z) (call := call) (f := f) (l1 := l1) (l2 := l2) (l3 := l3) Q20 (hn 45 (by decide) (by decide)) (by decide) z45
  obtain ⟨K22, g22, e22, Q22⟩ := ri_177 (Z := Z) (call := call) (f := f) (l1 := l1) (l2 := l2) (l3 := l3) Q21 (hn 46 (by decide) (by decide)) (by decide) z46
  obtain ⟨K23, g23, e23, Q23⟩ := ri_186 (Z := Z) (call := call) (f := f) (l1 := l1) (l2 := l2) (l3 := l3) Q22 (hn 47 (by decide) (by decide)) (by decide) z47
  obtain ⟨K24, g24, e24, Q24⟩ := ri_195 (Z := Z) (call := call) (f := f) (l1 := l1) (l2 := l2) (l3 := l3) Q23 (hn 48 (by decide) (by decide)) (by decide) z48
  obtain ⟨K25, g25, e25, Q25⟩ := ri_204 (Z := Z) (call := call) (f := f) (l1 := l1) (l2 := l2) (l3 := l3) Q24 (hn 49 (by decide) (by decide)) (by decide) z49
  refine ⟨K25, g25, ?_, Q25⟩
  rw [e1, e2, e3, e4, e5, e6, e7, e8, e9, e10, e11, e12, e13, e14, e15, e16, e17, e18, e19, e20, e21, e22, e23, e24, e25]
end IN
