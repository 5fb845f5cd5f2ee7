/-! the class: a coin is made; deposit -/
theorem jy_new7 {K : jy_K} {f : jy_I} {g : jy_R} {c : Nat} (hn : jy_no K 7 c) : jx_nw (jy_w K f g) (.inr (1, [.inl 0, .inl 0, .inr none])) 3 = jy_w (jy_nk K 7 c 3) (jy_z f 7 c 0) (jy_z g 7 c none) := by
  refine jy_new hn (fun k' i' hne => ⟨?_, ?_⟩) ?_
  · funext j
    exact if_neg hne
  · funext j
    exact if_neg hne
  · simp [jy_c, jy_sh, jy_fs, jy_z]
theorem jy_new8 {K : jy_K} {f : jy_I} {g : jy_R} {c : Nat} (hn : jy_no K 8 c) : jx_nw (jy_w K f g) (.inr (2, [.inl 0, .inl 0, .inl 0, .inl 0, .inl 0, .inr none])) 6 = jy_w (jy_nk K 8 c 6) (jy_z f 8 c 0) (jy_z g 8 c none) := by
  refine jy_new hn (fun k' i' hne => ⟨?_, ?_⟩) ?_
  · funext j
    exact if_neg hne
  · funext j
    exact if_neg hne
  · simp [jy_c, jy_sh, jy_fs, jy_z]
theorem jy_new9 {K : jy_K} {f : jy_I} {g : jy_R} {c : Nat} (hn : jy_no K 9 c) : jx_nw (jy_w K f g) (.inl (0, 25, .inl (fun _ => 0))) 25 = jy_w (jy_nk K 9 c 25) (jy_z f 9 c 0) g := by
  refine jy_new hn (fun k' i' hne => ⟨?_, rfl⟩) ?_
  · funext j
    exact if_neg hne
  · have : jy_z f 9 c 0 9 c = fun _ => 0 := by funext j; exact if_pos ⟨rfl, rfl⟩
    simp [jy_c, jy_sh, this]
def vd_K (K : jy_K) (c : Nat) : jy_K := jy_nk (jy_nk (jy_nk K 7 c 3) 8 c 6) 9 c 25
def vd_f (f : jy_I) (c : Nat) (v : Int32) : jy_I := jy_up (jy_z (jy_z (jy_z f 7 c 0) 8 c 0) 9 c 0) 7 c 0 v
def vd_g (K : jy_K) (g : jy_R) (c : Nat) : jy_R := jy_up (jy_up (jy_z (jy_z g 7 c none) 8 c none) 8 c 5 (some (K.2.2.1 + 2))) 7 c 2 (some (K.2.2.1 + 1))
theorem vd_x {K : jy_K} {c : Nat} (ho : jy_ok K) (n7 : jy_no K 7 c) (n8 : jy_no K 8 c) (n9 : jy_no K 9 c) : jy_x K (vd_K K c) ∧ jy_lv (vd_K K c) 7 c ∧ jy_lv (vd_K K c) 8 c ∧ jy_lv (vd_K K c) 9 c ∧ (vd_K K c).2.1 7 c = K.2.2.1 ∧ (vd_K K c).2.1 8 c = K.2.2.1 + 1 ∧ (vd_K K c).2.1 9 c = K.2.2.1 + 2 := by
  have x1 := jy_nk_x (m := 3) ho n7
  have n8' : jy_no (jy_nk K 7 c 3) 8 c := jy_nk_no (by omega) n8
  have x2 := jy_nk_x (m := 6) x1.1 n8'
  have n9' : jy_no (jy_nk (jy_nk K 7 c 3) 8 c 6) 9 c := jy_nk_no (by omega) (jy_nk_no (by omega) n9)
  have x3 := jy_nk_x (m := 25) x2.1 n9'
  have l7 := x2.2.1 7 c (jy_nk_lv (K := K) (k := 7) (i := c) (n := 3))
  have l7' := x3.2.1 7 c l7.1
  have l8 := x3.2.1 8 c (jy_nk_lv (K := jy_nk K 7 c 3) (k := 8) (i := c) (n := 6))
  refine ⟨x1.tr (x2.tr x3), l7'.1, l8.1, jy_nk_lv, ?_, ?_, ?_⟩
  · exact l7'.2.trans (l7.2.trans jy_nk_at)
  · exact l8.2.trans jy_nk_at
  · exact jy_nk_at
section CI
variable {Z : jx_Sc} {d : Nat} {K : jy_K} {f : jy_I} {g : jy_R} {w : jx_W} {cc n : Nat} {call : jx_C} {x : Int32}
theorem ex_init {c : Nat} (ho : jy_ok K) (n8 : jy_no K 8 c) (n9 : jy_no K 9 c) : jx_m Z (d + 1) 4 [.inr (some K.2.2.1)] (jx_nw (jy_w K f g) (.inr (2, [.inl 0, .inl 0, .inl 0, .inl 0, .inl 0, .inr none])) 6) = some (none, jy_w (jy_nk (jy_nk K 8 c 6) 9 c 25) (jy_z (jy_z f 8 c 0) 9 c 0) (jy_up (jy_z g 8 c none) 8 c 5 (some (K.2.2.1 + 1)))) := by
  have x1 := jy_nk_x (m := 6) ho n8
  have n9' : jy_no (jy_nk K 8 c 6) 9 c := jy_nk_no (by omega) n9
  have x2 := jy_nk_x (m := 25) x1.1 n9'
  have l1 : jy_lv (jy_nk K 8 c 6) 8 c := jy_nk_lv
  have a1 : (jy_nk K 8 c 6).2.1 8 c = K.2.2.1 := jy_nk_at
  have l2 := x2.2.1 8 c l1
  have a2 : (jy_nk (jy_nk K 8 c 6) 9 c 25).2.1 8 c = K.2.2.1 := l2.2.trans a1
  have c25 : ¬ ((25 : Int32) < 0 ∨ 65536 < (25 : Int32).toNatClampNeg) := by decide
  have t25 : (25 : Int32).toNatClampNeg = 25 := by decide
  have c25' : ¬ ((25 : Int32) < 0 ∨ 65536 < 25) := by decide
  have s5 : ∀ (F : jy_I) (G : jy_R) (r : Option Nat), jx_sF (jy_w (jy_nk (jy_nk K 8 c 6) 9 c 25) F G) K.2.2.1 2 5 (.inr r) = some (jy_w (jy_nk (jy_nk K 8 c 6) 9 c 25) F (jy_up G 8 c 5 r)) := by
    intro F G r
    have := jy_sFr (f := F) (g := G) (x := r) (q := 5) (ci := 2) x2.1 l2.1 rfl rfl
    rw [a2] at this
    exact this
  rw [jy_new8 n8]
  simp only [e_Ex_init, x_Ex_init_0, x_Ex_init_1, x_Ex_init_4, x_Ex_init_5, x_Ex_init_7, x_Ex_init_9, x_Ex_init_12, c25, c25', t25, jy_w_nx, jy_nk_nx, jy_new9 n9', s5, Option.bind_some, Option.toList_some, Option.toList_none, List.cons_append, List.nil_append, ↓reduceIte]
theorem co_init {c : Nat} (ho : jy_ok K) (n7 : jy_no K 7 c) (n8 : jy_no K 8 c) (n9 : jy_no K 9 c) {v : Int32} : jx_m Z (d + 2) 3 [.inr (some K.2.2.1), .inl v] (jx_nw (jy_w K f g) (.inr (1, [.inl 0, .inl 0, .inr none])) 3) = some (none, jy_w (vd_K K c) (vd_f f c v) (vd_g K g c)) := by
  have x1 := jy_nk_x (m := 3) ho n7
  have n8' : jy_no (jy_nk K 7 c 3) 8 c := jy_nk_no (by omega) n8
  have n9' : jy_no (jy_nk K 7 c 3) 9 c := jy_nk_no (by omega) n9
  have ei := ex_init (Z := Z) (d := d) (f := jy_z f 7 c 0) (g := jy_z g 7 c none) x1.1 n8' n9'
  obtain ⟨x, l7, l8, l9, a7, a8, a9⟩ := vd_x ho n7 n8 n9
  have s2 : ∀ (F : jy_I) (G : jy_R) (r : Option Nat), jx_sF (jy_w (vd_K K c) F G) K.2.2.1 1 2 (.inr r) = some (jy_w (vd_K K c) F (jy_up G 7 c 2 r)) := by
    intro F G r
    have := jy_sFr (f := F) (g := G) (x := r) (q := 2) (ci := 1) x.1 l7 rfl rfl
    rw [a7] at this
    exact this
  have s0 : ∀ (F : jy_I) (G : jy_R) (v : Int32), jx_sF (jy_w (vd_K K c) F G) K.2.2.1 1 0 (.inl v) = some (jy_w (vd_K K c) (jy_up F 7 c 0 v) G) := by
    intro F G v
    have := jy_sFi (f := F) (g := G) (x := v) (q := 0) (ci := 1) x.1 l7 rfl rfl
    rw [a7] at this
    exact this
  have ei : jx_m Z (d + 1) 4 [.inr (some (K.2.2.1 + 1))] (jx_nw (jy_w (jy_nk K 7 c 3) (jy_z f 7 c 0) (jy_z g 7 c none)) (.inr (2, [.inl 0, .inl 0, .inl 0, .inl 0, .inl 0, .inr none])) 6) = some (none, jy_w (vd_K K c) (jy_z (jy_z (jy_z f 7 c 0) 8 c 0) 9 c 0) (jy_up (jy_z (jy_z g 7 c none) 8 c none) 8 c 5 (some (K.2.2.1 + 2)))) := ei
  rw [jy_new7 n7]
  simp only [e_Co_init, x_Co_init_0, x_Co_init_1, x_Co_init_4, x_Co_init_5, x_Co_init_8, x_Co_init_9, x_Co_init_12, x_Co_init_15, x_Co_init_16, x_Co_init_17, x_Co_init_20, jy_w_nx, ei, jy_nk_nx, s2, s0, Option.bind_some, Option.toList_some, Option.toList_none, List.cons_append, List.nil_append, ↓reduceIte]
  rfl
theorem jy_x_no {k i m k' i' : Nat} (hne : ¬ (k' = k ∧ i' = i)) (hn : jy_no K k' i') : jy_no (jy_nk K k i m) k' i' := jy_nk_no hne hn
/-- with the new coin in its place -/
theorem vd_Cl (h : jl_C K g cc n) (hF : jl_F K cc n) : jl_C (vd_K K cc) (jy_up (vd_g K g cc) 3 0 cc (some K.2.2.1)) (cc + 1) n := by
  obtain ⟨n7, n8, n9⟩ := hF.1 cc (Nat.le_refl _)
  obtain ⟨x, l7, l8, l9, a7, a8, a9⟩ := vd_x h.1 n7 n8 n9
  have base : jl_C (vd_K K cc) (jy_up (vd_g K g cc) 3 0 cc (some K.2.2.1)) cc n := by
    refine h.gx x (jy_nk_13 (by decide) (jy_nk_13 (by decide) (jy_nk_13 (by decide) h.2.2.2.2.2.2))) ?_ ?_ ?_ ?_ ?_ ?_
    · funext i j
      simp [vd_g, jy_up, jy_z]
    · intro c hc
      have : ¬ c = cc := by omega
      simp [vd_g, jy_up, jy_z, this]
    · intro b _ _
      simp [vd_g, jy_up, jy_z]
    · intro c hc
      have : ¬ c = cc := by omega
      constructor <;> (funext j; simp [vd_g, jy_up, jy_z, this])
    · intro b q1 q2
      constructor <;> (funext j; simp [vd_g, jy_up, jy_z])
    · intro c hc
      have h5 : jy_up (vd_g K g cc) 3 0 cc (some K.2.2.1) 5 0 c = g 5 0 c := by simp [vd_g, jy_up, jy_z]
      have h6 : jy_up (vd_g K g cc) 3 0 cc (some K.2.2.1) 6 0 c = g 6 0 c := by simp [vd_g, jy_up, jy_z]
      rw [h5, h6]
      exact ⟨(h.2.2.2.2.2.1 c hc).1.x x, (h.2.2.2.2.2.1 c hc).2.x x⟩
  refine ⟨base.1, base.2.1, fun c hc => ?_, base.2.2.2.1, base.2.2.2.2.1, base.2.2.2.2.2.1, base.2.2.2.2.2.2⟩
  by_cases e : c = cc
  · subst e
    refine ⟨l7, l8, l9, ?_, ?_, ?_⟩
    · rw [a7]
      simp [jy_up]
    · rw [a8]
      simp [vd_g, jy_up]
    · rw [a9]
      simp [vd_g, jy_up]
  · exact base.2.2.1 c (by omega)
theorem vd_F (hF : jl_F K cc n) : jl_F (vd_K K cc) (cc + 1) n := by
  refine ⟨fun c hc => ?_, fun b hb => ?_⟩
  · obtain ⟨n7, n8, n9⟩ := hF.1 c (by omega)
    exact ⟨jy_nk_no (by omega) (jy_nk_no (by omega) (jy_nk_no (by omega) n7)), jy_nk_no (by omega) (jy_nk_no (by omega) (jy_nk_no (by omega) n8)), jy_nk_no (by omega) (jy_nk_no (by omega) (jy_nk_no (by omega) n9))⟩
  · obtain ⟨n7, n8, n9⟩ := hF.2 b hb
    exact ⟨jy_nk_no (by omega) (jy_nk_no (by omega) (jy_nk_no (by omega) n7)), jy_nk_no (by omega) (jy_nk_no (by omega) (jy_nk_no (by omega) n8)), jy_nk_no (by omega) (jy_nk_no (by omega) (jy_nk_no (by omega) n9))⟩
theorem vb_F (hF : jl_F K cc n) : jl_F (vb_K K (n + 1)) cc (n + 1) := by
  refine ⟨fun c hc => ?_, fun b hb => ?_⟩
  · obtain ⟨n7, n8, n9⟩ := hF.1 c hc
    exact ⟨jy_nk_no (by omega) (jy_nk_no (by omega) (jy_nk_no (by omega) n7)), jy_nk_no (by omega) (jy_nk_no (by omega) (jy_nk_no (by omega) n8)), jy_nk_no (by omega) (jy_nk_no (by omega) (jy_nk_no (by omega) n9))⟩
  · obtain ⟨n7, n8, n9⟩ := hF.2 b (by omega)
    exact ⟨jy_nk_no (by omega) (jy_nk_no (by omega) (jy_nk_no (by omega) n7)), jy_nk_no (by omega) (jy_nk_no (by omega) (jy_nk_no (by omega) n8)), jy_nk_no (by omega) (jy_nk_no (by omega) (jy_nk_no (by omega) n9))⟩
theorem cc_dep_bad {r : Option Nat} {u v : Int32} (hb : (u < 0 ∨ 4 ≤ u) ∨ v < 1 ∨ 50 < v) : jx_m Z (d + 2) 1 [.inr r, .inl u, .inl v] w = some (some (.inl (-1)), w) := by
  simp only [e_CC_deposit, x_CC_deposit_0, x_CC_deposit_1, x_CC_deposit_4, x_CC_deposit_7, x_CC_deposit_8, x_CC_deposit_9, x_CC_deposit_12, x_CC_deposit_13, x_CC_deposit_15, x_CC_deposit_18, x_CC_deposit_19, Option.bind_some, Option.toList_some, Option.toList_none, List.cons_append, List.nil_append, cc_isUser]
  by_cases e1 : u < 0 ∨ 4 ≤ u
  · simp [e1]
  · by_cases e2 : v < 1
    · simp [e1, e2]
    · have e3 : ¬ v ≤ 50 := Int32.not_le.mpr ((hb.resolve_left e1).resolve_left e2)
      simp [e1, e2, e3]
/-- the state behind a deposit: layout, numbers, references -/
def wd_K (K : jy_K) (cc n : Nat) : jy_K := jy_nk (vb_K (vd_K K cc) (n + 1)) 13 (vb_K (vd_K K cc) (n + 1)).2.2.1 6
def wd_A (K : jy_K) (cc n : Nat) : Nat := (vb_K (vd_K K cc) (n + 1)).2.2.1
def wd_g0 (K : jy_K) (g : jy_R) (cc n : Nat) : jy_R := jy_up (vb_g (vd_K K cc) (jy_up (vd_g K g cc) 3 0 cc (some K.2.2.1)) (n + 1)) 11 (n + 1) cc (some (wd_A K cc n))
def wd_f0 (K : jy_K) (f : jy_I) (cc n u : Nat) (v : Int32) : jy_I := vk_en (jy_z (vb_f (jy_up (vd_f (jy_up f 0 0 5 (nI (cc + 1))) cc v) 1 0 u (f 1 0 u + -v)) (n + 1) 1) 13 (wd_A K cc n) 0) (wd_A K cc n) 1 0 (nI u) (nI u) 1 (jq_mix (nI cc) (nI u) v)
def wd_f (K : jy_K) (f : jy_I) (g : jy_R) (cc n u : Nat) (v : Int32) : jy_I := jy_up (jy_up (jy_row (wd_f0 K f cc n u v) 12 (n + 1) (vt_T (fun c => vc_lf (wd_f0 K f cc n u v) (wd_g0 K g cc n 11 (n + 1) c)) (wd_f0 K f cc n u v 12 (n + 1)))) 0 0 7 (nI (n + 1))) 2 0 (8 * u + cc) (nI (n + 1))
def wd_g (K : jy_K) (g : jy_R) (cc n : Nat) : jy_R := jy_up (wd_g0 K g cc n) 4 0 (n + 1) (some (vd_K K cc).2.2.1)
theorem cc_dep (h : jl_C K g cc n) (hF : jl_F K cc n) (hn : jn_C f cc n) {u : Nat} {v : Int32} (hu : u < 4) (hv : ¬ (v < 1 ∨ 50 < v)) : jx_m Z (d + 5) 1 [.inr (some (K.2.1 0 0)), .inl (nI u), .inl v] (jy_w K f g) = some (if cc = 8 ∨ n = 24 then (some (.inl (-2)), jy_w K f g) else if f 1 0 u < v then (some (.inl (-3)), jy_w K f g) else (some (.inl (nI cc)), jy_w (wd_K K cc n) (wd_f K f g cc n u v) (wd_g K g cc n))) := by
  have e1 : ¬ v < 1 := fun q => hv (Or.inl q)
  have e2 : v ≤ 50 := Int32.not_lt.mp (fun q => hv (Or.inr q))
  have e10 : ¬ (1 : Int32) = 0 := by decide
  have h8 := hn.2.2.1
  have h24 := hn.2.2.2
  by_cases c1 : cc = 8
  · subst c1
    have q : (8 : Int32) ≤ nI 8 := by decide
    simp only [e_CC_deposit, x_CC_deposit_0, x_CC_deposit_1, x_CC_deposit_4, x_CC_deposit_7, x_CC_deposit_8, x_CC_deposit_9, x_CC_deposit_12, x_CC_deposit_13, x_CC_deposit_15, x_CC_deposit_18, x_CC_deposit_19, x_CC_deposit_20, x_CC_deposit_21, x_CC_deposit_24, x_CC_deposit_26, x_CC_deposit_29, x_CC_deposit_30, x_CC_deposit_33, x_CC_deposit_35, x_CC_deposit_38, x_CC_deposit_40, cu_is h, cu_g0 h, cu_g1 h, cu_g2 h, cu_g3 h, cu_g4 h, cu_g5 h, cu_g6 h, cu_g7 h, cu_g8 h, cu_g9 h, cu_g10 h, cu_s5 h, cu_s7 h, cu_s10 h, cu_n1 h, cu_m1 h, cu_n2 h, cu_m2 h, cu_n3 h, cu_n4 h, cu_n5 h, cu_n6 h, cc_user_y hu, hn.1, hn.2.1, e1, e2, e10, q, Option.bind_some, Option.toList_some, Option.toList_none, List.cons_append, List.nil_append, ↓reduceIte]
    simp
  · have c1' : ¬ (8 : Int32) ≤ nI cc := nI_ge (b := 8) (by omega) (by omega)
    by_cases c2 : n = 24
    · subst c2
      have q : ¬ nI 24 < 24 := by decide
      simp only [e_CC_deposit, x_CC_deposit_0, x_CC_deposit_1, x_CC_deposit_4, x_CC_deposit_7, x_CC_deposit_8, x_CC_deposit_9, x_CC_deposit_12, x_CC_deposit_13, x_CC_deposit_15, x_CC_deposit_18, x_CC_deposit_19, x_CC_deposit_20, x_CC_deposit_21, x_CC_deposit_24, x_CC_deposit_26, x_CC_deposit_29, x_CC_deposit_30, x_CC_deposit_33, x_CC_deposit_35, x_CC_deposit_38, x_CC_deposit_40, cu_is h, cu_g0 h, cu_g1 h, cu_g2 h, cu_g3 h, cu_g4 h, cu_g5 h, cu_g6 h, cu_g7 h, cu_g8 h, cu_g9 h, cu_g10 h, cu_s5 h, cu_s7 h, cu_s10 h, cu_n1 h, cu_m1 h, cu_n2 h, cu_m2 h, cu_n3 h, cu_n4 h, cu_n5 h, cu_n6 h, cc_user_y hu, hn.1, hn.2.1, e1, e2, e10, c1', q, Option.bind_some, Option.toList_some, Option.toList_none, List.cons_append, List.nil_append, ↓reduceIte]
      simp
    · have c2' : nI n < 24 := nI_lt (b := 24) (by omega) (by omega)
      by_cases c3 : f 1 0 u < v
      · have c3' : ¬ v ≤ f 1 0 u := Int32.not_le.mpr c3
        simp only [e_CC_deposit, x_CC_deposit_0, x_CC_deposit_1, x_CC_deposit_4, x_CC_deposit_7, x_CC_deposit_8, x_CC_deposit_9, x_CC_deposit_12, x_CC_deposit_13, x_CC_deposit_15, x_CC_deposit_18, x_CC_deposit_19, x_CC_deposit_20, x_CC_deposit_21, x_CC_deposit_24, x_CC_deposit_26, x_CC_deposit_29, x_CC_deposit_30, x_CC_deposit_33, x_CC_deposit_35, x_CC_deposit_38, x_CC_deposit_40, x_CC_deposit_41, x_CC_deposit_42, x_CC_deposit_45, x_CC_deposit_46, x_CC_deposit_47, x_CC_deposit_48, x_CC_deposit_51, x_CC_deposit_53, cu_is h, cu_g0 h, cu_g1 h, cu_g2 h, cu_g3 h, cu_g4 h, cu_g5 h, cu_g6 h, cu_g7 h, cu_g8 h, cu_g9 h, cu_g10 h, cu_s5 h, cu_s7 h, cu_s10 h, cu_n1 h, cu_m1 h, cu_n2 h, cu_m2 h, cu_n3 h, cu_n4 h, cu_n5 h, cu_n6 h, cc_user_y hu, hn.1, hn.2.1, hu, e1, e2, e10, c1, c2, c3, c1', c2', c3', Option.bind_some, Option.toList_some, Option.toList_none, List.cons_append, List.nil_append, ↓reduceIte]
        simp
      · have c3' : v ≤ f 1 0 u := Int32.not_lt.mp c3
        have hc8 : cc < 8 := by omega
        have hs : 8 * u + cc < 32 := by omega
        obtain ⟨n7, n8, n9⟩ := hF.1 cc (Nat.le_refl _)
        obtain ⟨x, l7, l8, l9, a7, a8, a9⟩ := vd_x h.1 n7 n8 n9
        have hC1 := vd_Cl h hF
        have hF1 := vd_F hF
        have ini := co_init (Z := Z) (d := d + 2) (f := jy_up f 0 0 5 (nI (cc + 1))) (g := g) h.1 n7 n8 n9 (v := v)
        have a0 : (vd_K K cc).2.1 0 0 = K.2.1 0 0 := (x.2.1 0 0 h.2.1.1.1).2
        have a3 : (vd_K K cc).2.1 3 0 = K.2.1 3 0 := (x.2.1 3 0 h.2.1.1.2.2.2.1).2
        have st3 : ∀ F : jy_I, jx_sA (jy_w (vd_K K cc) F (vd_g K g cc)) (K.2.1 3 0) (nI cc) (some K.2.2.1) = some (jy_w (vd_K K cc) F (jy_up (vd_g K g cc) 3 0 cc (some K.2.2.1))) := by
          intro F
          have hok : jx_ok (jy_w (vd_K K cc) F (vd_g K g cc)) 2 (some K.2.2.1) = true := by
            have := jy_oks (f := F) (g := vd_g K g cc) (t := 2) (ci := 1) l7 rfl rfl
            rw [a7] at this
            exact this
          have := jy_sA (f := F) (g := vd_g K g cc) (j := nI cc) x.1 (x.2.1 3 0 h.2.1.1.2.2.2.1).1 rfl hok
          rw [a3] at this
          rw [this, if_neg (nI_in hc8 (by decide)), nI_clamp (by omega)]
        have py := cc_pay (Z := Z) (d := d + 2) (f := vd_f (jy_up f 0 0 5 (nI (cc + 1))) cc v) hC1 hu (x := -v)
        rw [a0] at py
        have fm : vd_f (jy_up f 0 0 5 (nI (cc + 1))) cc v 1 0 u = f 1 0 u := by simp [vd_f, jy_up, jy_z]
        rw [fm] at py
        have ci1 := cu_is (f := vd_f (jy_up f 0 0 5 (nI (cc + 1))) cc v) hC1
        rw [a0] at ci1
        obtain ⟨n10, n11, n12⟩ := hF1.2 (n + 1) (by omega)
        have bi := bl_init (Z := Z) (d := d + 3) (f := jy_up (vd_f (jy_up f 0 0 5 (nI (cc + 1))) cc v) 1 0 u (f 1 0 u + -v)) (g := jy_up (vd_g K g cc) 3 0 cc (some K.2.2.1)) (x := 1) hC1.1 n10 n11 n12 (Or.inr rfl)
        obtain ⟨y, l10, l11, l12, a10, a11, a12⟩ := vb_x hC1.1 n10 n11 n12
        have hC2 := vb_Cl hC1 hF1
        have hfr := vb_fr (g := jy_up (vd_g K g cc) 3 0 cc (some K.2.2.1)) hC1.1 n10 n11 n12
        have b0 := cf_b0 (f := vb_f (jy_up (vd_f (jy_up f 0 0 5 (nI (cc + 1))) cc v) 1 0 u (f 1 0 u + -v)) (n + 1) 1) hfr
        rw [a10] at b0
        obtain ⟨hC3, hA⟩ := hC2.n13 (m := 6)
        have z := jy_nk_x (m := 6) hC2.1 hC2.no13
        have en := en_init (Z := Z) (d := d + 3) (f := jy_z (vb_f (jy_up (vd_f (jy_up f 0 0 5 (nI (cc + 1))) cc v) 1 0 u (f 1 0 u + -v)) (n + 1) 1) 13 (vb_K (vd_K K cc) (n + 1)).2.2.1 0) (g := vb_g (vd_K K cc) (jy_up (vd_g K g cc) 3 0 cc (some K.2.2.1)) (n + 1)) hC3.1 hA (x0 := 1) (x1 := 0) (x2 := nI u) (x3 := nI u) (x4 := 1) (x5 := jq_mix (nI cc) (nI u) v) (Or.inr rfl) (Or.inr rfl)
        have hfr3 := hfr.x z
        have he : jl_e (jy_nk (vb_K (vd_K K cc) (n + 1)) 13 (vb_K (vd_K K cc) (n + 1)).2.2.1 6) (some (vb_K (vd_K K cc) (n + 1)).2.2.1) := fun a q => by cases q; exact hA
        have p11 := cf_p11 (f := wd_f0 K f cc n u v) hC3.1 hfr3 hc8 he
        have b11 : (jy_nk (vb_K (vd_K K cc) (n + 1)) 13 (vb_K (vd_K K cc) (n + 1)).2.2.1 6).2.1 11 (n + 1) = (vb_K (vd_K K cc) (n + 1)).2.1 11 (n + 1) := (z.2.1 _ _ l11).2
        rw [b11] at p11
        have hC4 : jl_C (wd_K K cc n) (wd_g0 K g cc n) (cc + 1) n := by
          refine hC3.gx (jy_x.rf hC3.1) hC3.2.2.2.2.2.2 ?_ ?_ ?_ ?_ ?_ ?_
          · funext i j
            unfold wd_g0
            rw [jy_up_k (by decide)]
          · intro c _
            unfold wd_g0
            rw [jy_up_k (by decide)]
          · intro b _ _
            unfold wd_g0
            rw [jy_up_k (by decide)]
          · intro c _
            unfold wd_g0
            constructor <;> (funext j; rw [jy_up_k (by decide)])
          · intro b q1 q2
            unfold wd_g0
            constructor
            · funext j
              rw [jy_up_k (by decide)]
            · funext j
              rw [jy_up_i (by omega)]
          · intro c hc
            unfold wd_g0
            rw [jy_up_k (by decide), jy_up_k (by decide)]
            exact hC3.2.2.2.2.2.1 c hc
        have hfr4 : jl_f (wd_K K cc n) (wd_g0 K g cc n) (n + 1) := hfr3.gg (by funext j; unfold wd_g0; rw [jy_up_k (by decide)])
        have he4 : ∀ c, c < 8 → jl_e (wd_K K cc n) (wd_g0 K g cc n 11 (n + 1) c) := by
          intro c hc
          unfold wd_g0
          rw [jy_up_at]
          split
          · exact he
          · intro a q
            simp [vb_g, jy_up, jy_z] at q
        have h7 : wd_f0 K f cc n u v 0 0 7 = nI n := by
          rw [← hn.2.1]
          simp [wd_f0, vk_en, vb_f, vd_f, jy_up, jy_z]
        have ap := cc_app (Z := Z) (d := d) hC4 h7 (show n < 24 by omega) hfr4 he4
        have w0 : (wd_K K cc n).2.1 0 0 = K.2.1 0 0 := (z.2.1 0 0 hC2.2.1.1.1).2.trans ((y.2.1 0 0 hC1.2.1.1.1).2.trans a0)
        have w10 : (wd_K K cc n).2.1 10 (n + 1) = (vd_K K cc).2.2.1 := (z.2.1 10 (n + 1) l10).2.trans a10
        rw [w0, w10] at ap
        have ci4 := cu_is (f := wd_f0 K f cc n u v) hC4
        rw [w0] at ci4
        have g3' := cu_g3 (f := wd_f0 K f cc n u v) hC4
        rw [w0] at g3'
        have hC5 : jl_C (wd_K K cc n) (wd_g K g cc n) (cc + 1) n := by
          refine hC4.gx (jy_x.rf hC4.1) hC4.2.2.2.2.2.2 ?_ ?_ ?_ ?_ ?_ ?_
          · funext i j
            unfold wd_g
            rw [jy_up_k (by decide)]
          · intro c _
            unfold wd_g
            rw [jy_up_k (by decide)]
          · intro b _ q2
            unfold wd_g
            rw [jy_up_j (by omega)]
          · intro c _
            unfold wd_g
            constructor <;> (funext j; rw [jy_up_k (by decide)])
          · intro b q1 q2
            unfold wd_g
            constructor <;> (funext j; rw [jy_up_k (by decide)])
          · intro c hc
            unfold wd_g
            rw [jy_up_k (by decide), jy_up_k (by decide)]
            exact hC4.2.2.2.2.2.1 c hc
        have m2 := fun F : jy_I => cu_m2 (f := F) (x := nI (n + 1)) hC5 hs
        have ap : jx_m Z (d + 4) 9 [.inr (some (K.2.1 0 0)), .inr (some (vd_K K cc).2.2.1)] (jy_w (wd_K K cc n) (wd_f0 K f cc n u v) (wd_g0 K g cc n)) = some (some (.inl (nI (n + 1))), jy_w (wd_K K cc n) (jy_up (jy_row (wd_f0 K f cc n u v) 12 (n + 1) (vt_T (fun c => vc_lf (wd_f0 K f cc n u v) (wd_g0 K g cc n 11 (n + 1) c)) (wd_f0 K f cc n u v 12 (n + 1)))) 0 0 7 (nI (n + 1))) (wd_g K g cc n)) := ap
        have en : jx_m Z (d + 4) 8 [.inr (some (vb_K (vd_K K cc) (n + 1)).2.2.1), .inl 1, .inl 0, .inl (nI u), .inl (nI u), .inl 1, .inl (jq_mix (nI cc) (nI u) v)] (jy_w (wd_K K cc n) (jy_z (vb_f (jy_up (vd_f (jy_up f 0 0 5 (nI (cc + 1))) cc v) 1 0 u (f 1 0 u + -v)) (n + 1) 1) 13 (vb_K (vd_K K cc) (n + 1)).2.2.1 0) (vb_g (vd_K K cc) (jy_up (vd_g K g cc) 3 0 cc (some K.2.2.1)) (n + 1))) = some (none, jy_w (wd_K K cc n) (wd_f0 K f cc n u v) (vb_g (vd_K K cc) (jy_up (vd_g K g cc) 3 0 cc (some K.2.2.1)) (n + 1))) := en
        have nw13 : jx_nw (jy_w (vb_K (vd_K K cc) (n + 1)) (vb_f (jy_up (vd_f (jy_up f 0 0 5 (nI (cc + 1))) cc v) 1 0 u (f 1 0 u + -v)) (n + 1) 1) (vb_g (vd_K K cc) (jy_up (vd_g K g cc) 3 0 cc (some K.2.2.1)) (n + 1))) (.inr (4, [.inl 0, .inl 0, .inl 0, .inl 0, .inl 0, .inl 0])) 6 = jy_w (wd_K K cc n) (jy_z (vb_f (jy_up (vd_f (jy_up f 0 0 5 (nI (cc + 1))) cc v) 1 0 u (f 1 0 u + -v)) (n + 1) 1) 13 (vb_K (vd_K K cc) (n + 1)).2.2.1 0) (vb_g (vd_K K cc) (jy_up (vd_g K g cc) 3 0 cc (some K.2.2.1)) (n + 1)) := jy_new13 hC2.no13
        have p11 : jx_sA (jy_w (wd_K K cc n) (wd_f0 K f cc n u v) (vb_g (vd_K K cc) (jy_up (vd_g K g cc) 3 0 cc (some K.2.2.1)) (n + 1))) ((vb_K (vd_K K cc) (n + 1)).2.1 11 (n + 1)) (nI cc) (some (vb_K (vd_K K cc) (n + 1)).2.2.1) = some (jy_w (wd_K K cc n) (wd_f0 K f cc n u v) (wd_g0 K g cc n)) := p11
        simp only [e_CC_deposit, x_CC_deposit_0, x_CC_deposit_1, x_CC_deposit_4, x_CC_deposit_7, x_CC_deposit_8, x_CC_deposit_9, x_CC_deposit_12, x_CC_deposit_13, x_CC_deposit_15, x_CC_deposit_18, x_CC_deposit_19, x_CC_deposit_20, x_CC_deposit_21, x_CC_deposit_24, x_CC_deposit_26, x_CC_deposit_29, x_CC_deposit_30, x_CC_deposit_33, x_CC_deposit_35, x_CC_deposit_38, x_CC_deposit_40, x_CC_deposit_41, x_CC_deposit_42, x_CC_deposit_45, x_CC_deposit_46, x_CC_deposit_47, x_CC_deposit_48, x_CC_deposit_51, x_CC_deposit_53, x_CC_deposit_54, x_CC_deposit_55, x_CC_deposit_58, x_CC_deposit_59, x_CC_deposit_60, x_CC_deposit_61, x_CC_deposit_64, x_CC_deposit_65, x_CC_deposit_66, x_CC_deposit_69, x_CC_deposit_70, x_CC_deposit_73, x_CC_deposit_74, x_CC_deposit_77, x_CC_deposit_78, x_CC_deposit_79, x_CC_deposit_82, x_CC_deposit_83, x_CC_deposit_84, x_CC_deposit_85, x_CC_deposit_86, x_CC_deposit_87, x_CC_deposit_90, x_CC_deposit_93, x_CC_deposit_94, x_CC_deposit_95, x_CC_deposit_98, x_CC_deposit_100, x_CC_deposit_102, x_CC_deposit_105, x_CC_deposit_106, x_CC_deposit_109, x_CC_deposit_110, x_CC_deposit_111, x_CC_deposit_112, x_CC_deposit_113, x_CC_deposit_114, x_CC_deposit_115, x_CC_deposit_116, x_CC_deposit_117, x_CC_deposit_118, x_CC_deposit_121, x_CC_deposit_124, x_CC_deposit_125, x_CC_deposit_126, x_CC_deposit_129, x_CC_deposit_130, x_CC_deposit_132, x_CC_deposit_133, x_CC_deposit_134, x_CC_deposit_135, x_CC_deposit_136, x_CC_deposit_138, x_CC_deposit_141, x_CC_deposit_142, x_CC_deposit_143, cu_is h, cu_g0 h, cu_g1 h, cu_g2 h, cu_g3 h, cu_g4 h, cu_g5 h, cu_g6 h, cu_g7 h, cu_g8 h, cu_g9 h, cu_g10 h, cu_s5 h, cu_s7 h, cu_s10 h, cu_n1 h, cu_m1 h, cu_n2 h, cu_m2 h, cu_n3 h, cu_n4 h, cu_n5 h, cu_n6 h, cc_user_y hu, cc_mix, hn.1, hn.2.1, hu, e1, e2, e10, c1, c2, c3, c1', c2', c3', jz_inc, jy_w_nx, ini, st3, py, ci1, bi, b0, en, nw13, p11, ap, ci4, g3', m2, jz_u8, Option.bind_some, Option.toList_some, Option.toList_none, List.cons_append, List.nil_append, ↓reduceIte, or_self]
        rfl
end CI
