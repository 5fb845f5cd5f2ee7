/-! the class: blocks are made and put in place; build -/
theorem jy_new10 {K : jy_K} {f : jy_I} {g : jy_R} {b : Nat} (hn : jy_no K 10 b) : jx_nw (jy_w K f g) (.inr (3, [.inr none, .inr none, .inl 0])) 3 = jy_w (jy_nk K 10 b 3) (jy_z f 10 b 0) (jy_z g 10 b none) := by
  refine jy_new hn (fun k' i' hne => ⟨?_, ?_⟩) ?_
  · funext j
    exact if_neg hne
  · funext j
    exact if_neg hne
  · simp [jy_c, jy_sh, jy_fs, jy_z]
theorem jy_new11 {K : jy_K} {f : jy_I} {g : jy_R} {b : Nat} (hn : jy_no K 11 b) : jx_nw (jy_w K f g) (.inl (4, 8, .inr (fun _ => none))) 8 = jy_w (jy_nk K 11 b 8) f (jy_z g 11 b none) := by
  refine jy_new hn (fun k' i' hne => ⟨rfl, ?_⟩) ?_
  · funext j
    exact if_neg hne
  · have : jy_z g 11 b none 11 b = fun _ => none := by funext j; exact if_pos ⟨rfl, rfl⟩
    simp [jy_c, jy_sh, this]
theorem jy_new12 {K : jy_K} {f : jy_I} {g : jy_R} {b : Nat} (hn : jy_no K 12 b) : jx_nw (jy_w K f g) (.inl (0, 16, .inl (fun _ => 0))) 16 = jy_w (jy_nk K 12 b 16) (jy_z f 12 b 0) g := by
  refine jy_new hn (fun k' i' hne => ⟨?_, rfl⟩) ?_
  · funext j
    exact if_neg hne
  · have : jy_z f 12 b 0 12 b = fun _ => 0 := by funext j; exact if_pos ⟨rfl, rfl⟩
    simp [jy_c, jy_sh, this]
def vb_K (K : jy_K) (b : Nat) : jy_K := jy_nk (jy_nk (jy_nk K 10 b 3) 11 b 8) 12 b 16
def vb_f (f : jy_I) (b : Nat) (x : Int32) : jy_I := jy_up (jy_z (jy_z f 10 b 0) 12 b 0) 10 b 2 x
def vb_g (K : jy_K) (g : jy_R) (b : Nat) : jy_R := jy_up (jy_up (jy_z (jy_z g 10 b none) 11 b none) 10 b 0 (some (K.2.2.1 + 1))) 10 b 1 (some (K.2.2.1 + 2))
theorem jy_nk_nx {K : jy_K} {k i m : Nat} : (jy_nk K k i m).2.2.1 = K.2.2.1 + 1 := rfl
theorem vb_x {K : jy_K} {b : Nat} (ho : jy_ok K) (n10 : jy_no K 10 b) (n11 : jy_no K 11 b) (n12 : jy_no K 12 b) : jy_x K (vb_K K b) ∧ jy_lv (vb_K K b) 10 b ∧ jy_lv (vb_K K b) 11 b ∧ jy_lv (vb_K K b) 12 b ∧ (vb_K K b).2.1 10 b = K.2.2.1 ∧ (vb_K K b).2.1 11 b = K.2.2.1 + 1 ∧ (vb_K K b).2.1 12 b = K.2.2.1 + 2 := by
  have x1 := jy_nk_x (m := 3) ho n10
  have n11' : jy_no (jy_nk K 10 b 3) 11 b := jy_nk_no (by omega) n11
  have x2 := jy_nk_x (m := 8) x1.1 n11'
  have n12' : jy_no (jy_nk (jy_nk K 10 b 3) 11 b 8) 12 b := jy_nk_no (by omega) (jy_nk_no (by omega) n12)
  have x3 := jy_nk_x (m := 16) x2.1 n12'
  have l10 := x2.2.1 10 b (jy_nk_lv (K := K) (k := 10) (i := b) (n := 3))
  have l10' := x3.2.1 10 b l10.1
  have l11 := x3.2.1 11 b (jy_nk_lv (K := jy_nk K 10 b 3) (k := 11) (i := b) (n := 8))
  refine ⟨x1.tr (x2.tr x3), l10'.1, l11.1, jy_nk_lv, ?_, ?_, ?_⟩
  · exact l10'.2.trans (l10.2.trans jy_nk_at)
  · exact l11.2.trans jy_nk_at
  · exact jy_nk_at
section CG
variable {Z : jx_Sc} {d : Nat} {K : jy_K} {f : jy_I} {g : jy_R} {w : jx_W} {cc n : Nat} {call : jx_C} {x : Int32}
/-- new Block(x) as a whole: from the place where its object is made -/
theorem bl_init {b : Nat} (ho : jy_ok K) (n10 : jy_no K 10 b) (n11 : jy_no K 11 b) (n12 : jy_no K 12 b) (hx : x = 0 ∨ x = 1) : jx_m Z (d + 1) 6 [.inr (some K.2.2.1), .inl x] (jx_nw (jy_w K f g) (.inr (3, [.inr none, .inr none, .inl 0])) 3) = some (none, jy_w (vb_K K b) (vb_f f b x) (vb_g K g b)) := by
  have x1 := jy_nk_x (m := 3) ho n10
  have n11' : jy_no (jy_nk K 10 b 3) 11 b := jy_nk_no (by omega) n11
  have x2 := jy_nk_x (m := 8) x1.1 n11'
  have n12' : jy_no (jy_nk (jy_nk K 10 b 3) 11 b 8) 12 b := jy_nk_no (by omega) (jy_nk_no (by omega) n12)
  have x3 := jy_nk_x (m := 16) x2.1 n12'
  have l1 : jy_lv (jy_nk K 10 b 3) 10 b := jy_nk_lv
  have a1 : (jy_nk K 10 b 3).2.1 10 b = K.2.2.1 := jy_nk_at
  have l2 := x2.2.1 10 b l1
  have l3 := x3.2.1 10 b l2.1
  have a2 : (jy_nk (jy_nk K 10 b 3) 11 b 8).2.1 10 b = K.2.2.1 := l2.2.trans a1
  have a3 : (vb_K K b).2.1 10 b = K.2.2.1 := l3.2.trans a2
  have c8 : ¬ ((8 : Int32) < 0 ∨ 65536 < (8 : Int32).toNatClampNeg) := by decide
  have t8 : (8 : Int32).toNatClampNeg = 8 := by decide
  have c16 : ¬ ((16 : Int32) < 0 ∨ 65536 < (16 : Int32).toNatClampNeg) := by decide
  have t16 : (16 : Int32).toNatClampNeg = 16 := by decide
  have s0 : ∀ (F : jy_I) (G : jy_R) (r : Option Nat), jx_sF (jy_w (jy_nk (jy_nk K 10 b 3) 11 b 8) F G) K.2.2.1 3 0 (.inr r) = some (jy_w (jy_nk (jy_nk K 10 b 3) 11 b 8) F (jy_up G 10 b 0 r)) := by
    intro F G r
    have := jy_sFr (f := F) (g := G) (x := r) (q := 0) (ci := 3) x2.1 l2.1 rfl rfl
    rw [a2] at this
    exact this
  have s1 : ∀ (F : jy_I) (G : jy_R) (r : Option Nat), jx_sF (jy_w (vb_K K b) F G) K.2.2.1 3 1 (.inr r) = some (jy_w (vb_K K b) F (jy_up G 10 b 1 r)) := by
    intro F G r
    have := jy_sFr (f := F) (g := G) (x := r) (q := 1) (ci := 3) x3.1 l3.1 rfl rfl
    rw [show (jy_nk (jy_nk (jy_nk K 10 b 3) 11 b 8) 12 b 16).2.1 10 b = K.2.2.1 from a3] at this
    exact this
  have s2 : ∀ (F : jy_I) (G : jy_R) (v : Int32), jx_sF (jy_w (vb_K K b) F G) K.2.2.1 3 2 (.inl v) = some (jy_w (vb_K K b) (jy_up F 10 b 2 v) G) := by
    intro F G v
    have := jy_sFi (f := F) (g := G) (x := v) (q := 2) (ci := 3) x3.1 l3.1 rfl rfl
    rw [show (jy_nk (jy_nk (jy_nk K 10 b 3) 11 b 8) 12 b 16).2.1 10 b = K.2.2.1 from a3] at this
    exact this
  have e12 : ∀ (F : jy_I) (G : jy_R), jx_nw (jy_w (jy_nk (jy_nk K 10 b 3) 11 b 8) F G) (.inl (0, 16, .inl (fun _ => 0))) 16 = jy_w (vb_K K b) (jy_z F 12 b 0) G := fun F G => jy_new12 n12'
  rw [jy_new10 n10]
  simp only [e_Bl_init, x_Bl_init_0, x_Bl_init_1, x_Bl_init_4, x_Bl_init_5, x_Bl_init_7, x_Bl_init_10, x_Bl_init_13, x_Bl_init_14, x_Bl_init_16, x_Bl_init_18, x_Bl_init_21, x_Bl_init_22, x_Bl_init_23, x_Bl_init_26, c8, t8, c16, t16, jy_w_nx, jy_nk_nx, jy_new11 n11', e12, s0, s1, s2, hx, Option.bind_some, Option.toList_some, Option.toList_none, List.cons_append, List.nil_append, ↓reduceIte]
  rfl
/-- the block's own cells are in place -/
theorem vb_fr {b : Nat} (ho : jy_ok K) (n10 : jy_no K 10 b) (n11 : jy_no K 11 b) (n12 : jy_no K 12 b) : jl_f (vb_K K b) (vb_g K g b) b := by
  obtain ⟨-, l10, l11, l12, a10, a11, a12⟩ := vb_x ho n10 n11 n12
  refine ⟨l10, l11, l12, ?_, ?_⟩
  · rw [a11]
    simp [vb_g, jy_up]
  · rw [a12]
    simp [vb_g, jy_up]
theorem jl_C.gx {K' : jy_K} {g' : jy_R} (h : jl_C K g cc n) (x : jy_x K K') (h13 : ∀ y a, K'.1 y = some (13, a) → y = a) (e0 : g' 0 = g 0) (e3 : ∀ c, c < cc → g' 3 0 c = g 3 0 c) (e4 : ∀ b, 1 ≤ b → b ≤ n → g' 4 0 b = g 4 0 b) (e7 : ∀ c, c < cc → g' 7 c = g 7 c ∧ g' 8 c = g 8 c) (e10 : ∀ b, 1 ≤ b → b ≤ n → g' 10 b = g 10 b ∧ g' 11 b = g 11 b) (e5 : ∀ c, c < 8 → jl_e K' (g' 5 0 c) ∧ jl_e K' (g' 6 0 c)) : jl_C K' g' cc n := by
  refine ⟨x.1, ?_, fun c hc => ?_, fun b q1 q2 => ?_, fun b c q1 q2 q3 => ?_, e5, h13⟩
  · have := h.2.1.x x
    unfold jl_o at this ⊢
    rw [e0]
    exact this
  · have := (h.2.2.1 c hc).x x
    unfold jl_c at this ⊢
    rw [e3 c hc, (e7 c hc).1, (e7 c hc).2]
    exact this
  · have := (h.2.2.2.1 b q1 q2).x x
    unfold jl_b at this ⊢
    rw [e4 b q1 q2, (e10 b q1 q2).1]
    exact this
  · rw [(e10 b q1 q2).2]
    exact (h.2.2.2.2.1 b c q1 q2 q3).x x
theorem jy_nk_13 {k i m : Nat} (hk : ¬ k = 13) (h : ∀ y a, K.1 y = some (13, a) → y = a) : ∀ y a, (jy_nk K k i m).1 y = some (13, a) → y = a := by
  intro y a hy
  by_cases e : y = K.2.2.1
  · subst e
    have hy : some (k, i) = some (13, a) := by rw [← hy]; exact (va_up_self _ _ _).symm
    cases hy
    exact absurd rfl hk
  · exact h y a (by rw [← hy]; exact (va_up_ne _ _ e).symm)
theorem vb_Cl (h : jl_C K g cc n) (hF : jl_F K cc n) : jl_C (vb_K K (n + 1)) (vb_g K g (n + 1)) cc n := by
  obtain ⟨n10, n11, n12⟩ := hF.2 (n + 1) (by omega)
  obtain ⟨x, -⟩ := vb_x h.1 n10 n11 n12
  refine h.gx x (jy_nk_13 (by decide) (jy_nk_13 (by decide) (jy_nk_13 (by decide) h.2.2.2.2.2.2))) ?_ ?_ ?_ ?_ ?_ ?_
  · funext i j
    simp [vb_g, jy_up, jy_z]
  · intro c _
    simp [vb_g, jy_up, jy_z]
  · intro b _ _
    simp [vb_g, jy_up, jy_z]
  · intro c _
    constructor <;> (funext j; simp [vb_g, jy_up, jy_z])
  · intro b q1 q2
    have : ¬ b = n + 1 := by omega
    constructor <;> (funext j; simp [vb_g, jy_up, jy_z, this])
  · intro c hc
    have h5 : vb_g K g (n + 1) 5 0 c = g 5 0 c := by simp [vb_g, jy_up, jy_z]
    have h6 : vb_g K g (n + 1) 6 0 c = g 6 0 c := by simp [vb_g, jy_up, jy_z]
    rw [h5, h6]
    exact ⟨(h.2.2.2.2.2.1 c hc).1.x x, (h.2.2.2.2.2.1 c hc).2.x x⟩
/-- a block is put in its place -/
theorem cc_app (h : jl_C K g cc n) (h7 : f 0 0 7 = nI n) (h24 : n < 24) (hb : jl_f K g (n + 1)) (he : ∀ c, c < 8 → jl_e K (g 11 (n + 1) c)) : jx_m Z (d + 4) 9 [.inr (some (K.2.1 0 0)), .inr (some (K.2.1 10 (n + 1)))] (jy_w K f g) = some (some (.inl (nI (n + 1))), jy_w K (jy_up (jy_row f 12 (n + 1) (vt_T (fun c => vc_lf f (g 11 (n + 1) c)) (f 12 (n + 1)))) 0 0 7 (nI (n + 1))) (jy_up g 4 0 (n + 1) (some (K.2.1 10 (n + 1))))) := by
  have e1 : nI n < 24 := nI_lt (b := 24) h24 (by omega)
  have hbis : ∀ F : jy_I, jx_is (jy_w K F g) (K.2.1 10 (n + 1)) 3 = true := fun F => jy_is hb.1 rfl
  have e7 : ∀ p : Nat → Int32, jy_row f 12 (n + 1) p 0 0 7 = nI n := fun p => by rw [jy_row_k (by decide)]; exact h7
  have hk : n + 1 < 25 := by omega
  have s4 : ∀ F : jy_I, jx_sA (jy_w K F g) (K.2.1 4 0) (nI (n + 1)) (some (K.2.1 10 (n + 1))) = some (jy_w K F (jy_up g 4 0 (n + 1) (some (K.2.1 10 (n + 1))))) := by
    intro F
    rw [jy_sA h.1 h.2.1.1.2.2.2.2.1 rfl (jy_oks hb.1 rfl rfl), if_neg (nI_in hk (by decide)), nI_clamp (by omega)]
  have g7 : ∀ F : jy_I, jx_gF (jy_w K F (jy_up g 4 0 (n + 1) (some (K.2.1 10 (n + 1))))) (K.2.1 0 0) 0 7 = some (.inl (F 0 0 7)) := fun F => jy_gFi h.2.1.1.1 rfl rfl
  simp only [e_CC_append, x_CC_append_0, x_CC_append_1, x_CC_append_4, x_CC_append_6, x_CC_append_9, x_CC_append_11, x_CC_append_12, x_CC_append_13, x_CC_append_16, x_CC_append_17, x_CC_append_18, x_CC_append_21, x_CC_append_22, x_CC_append_23, x_CC_append_26, x_CC_append_27, x_CC_append_30, x_CC_append_31, x_CC_append_34, x_CC_append_35, x_CC_append_36, x_CC_append_37, x_CC_append_40, cu_is h, cu_g0 h, cu_g1 h, cu_g2 h, cu_g3 h, cu_g4 h, cu_g5 h, cu_g6 h, cu_g7 h, cu_g8 h, cu_g9 h, cu_g10 h, cu_s5 h, cu_s7 h, cu_s10 h, cu_n1 h, cu_m1 h, cu_n2 h, cu_m2 h, cu_n3 h, cu_n4 h, cu_n5 h, cu_n6 h, bl_gr h.1 hb he, hbis, h7, e1, e7, s4, g7, jz_inc, jy_up_self, Option.bind_some, Option.toList_some, Option.toList_none, List.cons_append, List.nil_append, ↓reduceIte]
end CG
