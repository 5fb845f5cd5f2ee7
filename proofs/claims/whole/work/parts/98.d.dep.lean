/-! both sides in step: deposit -/
section DP
variable {Z : jx_Sc} {d : Nat} {K K' : jy_K} {g g' : jy_R} {fC fR fC' fR' : jy_I} {cc n u : Nat} {v : Int32}
theorem wd_f0_13 {a : Nat} (h : ¬ a = wd_A K cc n) : wd_f0 K fC cc n u v 13 a = fC 13 a := by
  funext j
  simp [wd_f0, vk_en, vb_f, vd_f, jy_up, jy_z, h]
theorem wd_f_13e : wd_f K fC g cc n u v 13 = wd_f0 K fC cc n u v 13 := by
  funext a j
  simp [wd_f, jy_up, jy_row]
theorem wd_f_13n : wd_f K fC g cc n u v 13 (wd_A K cc n) 0 = 1 ∧ wd_f K fC g cc n u v 13 (wd_A K cc n) 1 = 0 ∧ wd_f K fC g cc n u v 13 (wd_A K cc n) 3 = nI u ∧ wd_f K fC g cc n u v 13 (wd_A K cc n) 4 = 1 ∧ wd_f K fC g cc n u v 13 (wd_A K cc n) 5 = jq_mix (nI cc) (nI u) v := by
  rw [wd_f_13e]
  refine ⟨?_, ?_, ?_, ?_, ?_⟩ <;> simp [wd_f0, vk_en, jy_up]
theorem wd_f_0 {j : Nat} : wd_f K fC g cc n u v 0 0 j = if j = 7 then nI (n + 1) else if j = 5 then nI (cc + 1) else fC 0 0 j := by
  simp [wd_f, wd_f0, vk_en, vb_f, vd_f, jy_up, jy_row, jy_z]
theorem wd_f_1 {j : Nat} : wd_f K fC g cc n u v 1 0 j = if j = u then fC 1 0 u + -v else fC 1 0 j := by
  simp [wd_f, wd_f0, vk_en, vb_f, vd_f, jy_up, jy_row, jy_z]
theorem wd_f_2 {j : Nat} : wd_f K fC g cc n u v 2 0 j = if j = 8 * u + cc then nI (n + 1) else fC 2 0 j := by
  simp [wd_f, wd_f0, vk_en, vb_f, vd_f, jy_up, jy_row, jy_z]
theorem wd_f_789 {k c : Nat} (hk : k = 7 ∨ k = 8 ∨ k = 9) (h : ¬ c = cc) : wd_f K fC g cc n u v k c = fC k c := by
  funext j
  rcases hk with rfl | rfl | rfl <;> simp [wd_f, wd_f0, vk_en, vb_f, vd_f, jy_up, jy_row, jy_z, h]
theorem wd_f_7n : wd_f K fC g cc n u v 7 cc 0 = v ∧ wd_f K fC g cc n u v 7 cc 1 = 0 ∧ wd_f K fC g cc n u v 8 cc 0 = 0 := by
  refine ⟨?_, ?_, ?_⟩ <;> simp [wd_f, wd_f0, vk_en, vb_f, vd_f, jy_up, jy_row, jy_z]
theorem wd_f_9n {j : Nat} : wd_f K fC g cc n u v 9 cc j = 0 := by
  simp [wd_f, wd_f0, vk_en, vb_f, vd_f, jy_up, jy_row, jy_z]
theorem wd_f_10 {b : Nat} : wd_f K fC g cc n u v 10 b 2 = if b = n + 1 then 1 else fC 10 b 2 := by
  by_cases h : b = n + 1 <;> simp [wd_f, wd_f0, vk_en, vb_f, vd_f, jy_up, jy_row, jy_z, h]
theorem wd_f_12 {b : Nat} (h : ¬ b = n + 1) : wd_f K fC g cc n u v 12 b = fC 12 b := by
  funext j
  simp [wd_f, wd_f0, vk_en, vb_f, vd_f, jy_up, jy_row, jy_z, h]
theorem wd_f_12n : ∃ old, wd_f K fC g cc n u v 12 (n + 1) = vt_T (fun c => vc_lf (wd_f0 K fC cc n u v) (wd_g0 K g cc n 11 (n + 1) c)) old := by
  refine ⟨wd_f0 K fC cc n u v 12 (n + 1), ?_⟩
  unfold wd_f
  rw [jt_up (by omega), jt_up (by omega), jy_row_at]
theorem wd_g_11 {b : Nat} (h : ¬ b = n + 1) : wd_g K g cc n 11 b = g 11 b := by
  funext j
  simp [wd_g, wd_g0, vb_g, vd_g, jy_up, jy_z, h]
theorem wd_g_11n {c : Nat} : wd_g K g cc n 11 (n + 1) c = if c = cc then some (wd_A K cc n) else none := by
  simp [wd_g, wd_g0, vb_g, vd_g, jy_up, jy_z]
theorem wd_g0_11n {c : Nat} : wd_g0 K g cc n 11 (n + 1) c = if c = cc then some (wd_A K cc n) else none := by
  simp [wd_g0, vb_g, vd_g, jy_up, jy_z]
theorem wd_g_k {k : Nat} (h : k = 5 ∨ k = 6 ∨ k = 20) : wd_g K g cc n k = g k := by
  funext i j
  rcases h with rfl | rfl | rfl <;> simp [wd_g, wd_g0, vb_g, vd_g, jy_up, jy_z]
theorem wd_lo {k : Nat} (h : 20 ≤ k) : wd_f K fC g cc n u v k = fC k := by
  unfold wd_f wd_f0 vk_en
  rw [jt_up (by omega), jt_up (by omega), jy_row_k (by omega), jt_up (by omega), jt_up (by omega), jt_up (by omega), jt_up (by omega), jt_up (by omega), jt_up (by omega), jt_z (by omega), vb_f_k (by omega) (by omega), jt_up (by omega)]
  unfold vd_f
  rw [jt_up (by omega), jt_z (by omega), jt_z (by omega), jt_z (by omega), jt_up (by omega)]
theorem wd_E : jF K (wd_K K cc n) 7 67 := by
  unfold wd_K vb_K vd_K
  exact (((((((jF.rfl'.nk (k := 7) (by omega) (by omega)).nk (k := 8) (by omega) (by omega)).nk (k := 9) (by omega) (by omega)).nk (k := 10) (by omega) (by omega)).nk (k := 11) (by omega) (by omega)).nk (k := 12) (by omega) (by omega)).nk (k := 13) (by omega) (by omega))
theorem wd_C (h : jl_C K g cc n) (hF : jl_F K cc n) (hc8 : cc < 8) : jl_C (wd_K K cc n) (wd_g K g cc n) (cc + 1) (n + 1) ∧ jl_F (wd_K K cc n) (cc + 1) (n + 1) ∧ jy_x K (wd_K K cc n) := by
  obtain ⟨n7, n8, n9⟩ := hF.1 cc (Nat.le_refl _)
  obtain ⟨x, l7, l8, l9, a7, a8, a9⟩ := vd_x h.1 n7 n8 n9
  have hC1 := vd_Cl h hF
  have hF1 := vd_F hF
  obtain ⟨n10, n11, n12⟩ := hF1.2 (n + 1) (by omega)
  obtain ⟨y, l10, l11, l12, a10, a11, a12⟩ := vb_x hC1.1 n10 n11 n12
  have hC2 := vb_Cl hC1 hF1
  have hfr := vb_fr (g := jy_up (vd_g K g cc) 3 0 cc (some K.2.2.1)) hC1.1 n10 n11 n12
  obtain ⟨hC3, hA⟩ := hC2.n13 (m := 6)
  have z := jy_nk_x (m := 6) hC2.1 hC2.no13
  have hfr3 := hfr.x z
  have hC4 : jl_C (wd_K K cc n) (wd_g0 K g cc n) (cc + 1) n := by
    refine hC3.gx (jy_x.rf hC3.1) hC3.2.2.2.2.2.2 ?_ ?_ ?_ ?_ ?_ ?_
    · funext i j
      unfold wd_g0
      rw [jy_up_k (by decide)]
    · intro c _
      unfold wd_g0
      rw [jy_up_k (by decide)]
    · intro b _ _
      unfold wd_g0
      rw [jy_up_k (by decide)]
    · intro c _
      unfold wd_g0
      constructor <;> (funext j; rw [jy_up_k (by decide)])
    · intro b q1 q2
      unfold wd_g0
      constructor
      · funext j
        rw [jy_up_k (by decide)]
      · funext j
        rw [jy_up_i (by omega)]
    · intro c hc
      unfold wd_g0
      rw [jy_up_k (by decide), jy_up_k (by decide)]
      exact hC3.2.2.2.2.2.1 c hc
  have hfr4 : jl_f (wd_K K cc n) (wd_g0 K g cc n) (n + 1) := hfr3.gg (by funext j; unfold wd_g0; rw [jy_up_k (by decide)])
  have he4 : ∀ c, c < 8 → jl_e (wd_K K cc n) (wd_g0 K g cc n 11 (n + 1) c) := by
    intro c hc
    rw [wd_g0_11n]
    intro a q
    by_cases e : c = cc
    · rw [if_pos e] at q
      cases q
      exact hA
    · rw [if_neg e] at q
      cases q
  have w10 : (wd_K K cc n).2.1 10 (n + 1) = (vd_K K cc).2.2.1 := (z.2.1 10 (n + 1) l10).2.trans a10
  have F := hC4.nb hfr4 he4
  rw [w10] at F
  exact ⟨F, (vb_F hF1).n13, (x.tr y).tr z⟩
theorem ji_depI (h : jI K g fC fR cc n) (hc8 : cc < 8) (h24 : n < 24) (hu : u < 4) : jI (wd_K K cc n) (wd_g K g cc n) (wd_f K fC g cc n u v) (vo_dep fR cc n u v) (cc + 1) (n + 1) := by
  have N := ji_7 h
  obtain ⟨h1, h2, h3, h4, h5, h6, h7, h8, h9, h10, h11, h12, h13, h14, h15, h16, h17⟩ := h
  obtain ⟨W1, W2, W3⟩ := wd_C h1 h2 hc8
  have hA : wd_A K cc n = K.2.2.1 + 6 := rfl
  have lt : ∀ {r : Option Nat} {a : Nat}, jl_e K r → r = some a → wd_f K fC g cc n u v 13 a = fC 13 a := fun {r a} q e => by
    have := jl_e.lt h1.1 q e
    rw [wd_f_13e, wd_f0_13 (by omega)]
  have lv : ∀ b j a, 1 ≤ b → b ≤ n → j < 8 → g 11 b j = some a → wd_f K fC g cc n u v 13 a = fC 13 a := fun b j a q1 q2 q3 q4 => lt (h1.2.2.2.2.1 b j q1 q2 q3) q4
  have lo : ∀ b c, c < 8 → ¬ (b = n + 1 ∧ c = cc) → ∀ k, k ∈ [30, 31, 32, 33, 34, 35] → vo_dep fR cc n u v k 0 (8 * b + c) = fR k 0 (8 * b + c) := by
    intro b c hc hb k hk
    have e : ¬ 8 * b + c = 8 * (n + 1) + cc := by omega
    simp only [List.mem_cons, List.mem_nil_iff, or_false] at hk
    rcases hk with rfl | rfl | rfl | rfl | rfl | rfl <;> simp only [vo_dep, jy_up_k, jy_up_2, jy_row_k3, jy_row_2, Nat.reduceEqDiff, not_false_eq_true, ↓reduceIte, true_and, and_true, and_false, false_and, reduceCtorEq, e]
  have seed : vo_dep fR cc n u v 20 0 0 = fR 20 0 0 := by simp only [vo_dep, jy_up_k, jy_up_2, jy_row_k3, jy_row_2, Nat.reduceEqDiff, not_false_eq_true, ↓reduceIte, true_and, and_true, and_false, false_and, reduceCtorEq]
  refine ⟨W1, W2, ?_, ?_, ?_, ?_, ?_, ?_, ?_, ?_, ?_, ?_, ?_, ?_, ?_, ?_, ?_⟩
  · refine ⟨?_, ?_, by omega, by omega⟩
    · rw [wd_f_0, if_neg (by omega), if_pos rfl]
    · rw [wd_f_0, if_pos rfl]
  · refine ⟨?_, ?_, by omega, by omega⟩ <;> simp only [vo_dep, jy_up_k, jy_up_2, jy_row_k3, jy_row_2, Nat.reduceEqDiff, not_false_eq_true, ↓reduceIte, true_and, and_true, and_false, false_and, reduceCtorEq]
  · unfold jp_1
    rw [wd_f_0, wd_f_0, wd_f_0, if_neg (by omega), if_neg (by omega), if_neg (by omega), if_neg (by omega), if_neg (by omega), if_neg (by omega)]
    simp only [vo_dep, jy_up_k, jy_up_2, jy_row_k3, jy_row_2, Nat.reduceEqDiff, not_false_eq_true, ↓reduceIte, true_and, and_true, and_false, false_and, reduceCtorEq]
    exact h5
  · intro w hw
    rw [wd_f_1]
    simp only [vo_dep, jy_up_k, jy_up_2, jy_row_k3, jy_row_2, Nat.reduceEqDiff, not_false_eq_true, ↓reduceIte, true_and, and_true, and_false, false_and, reduceCtorEq]
    rw [h6 w hw, h6 u hu, Int32.sub_eq_add_neg]
  · refine ⟨fun k hk => ?_, fun w c hw q1 q2 => ?_⟩
    · rw [wd_f_2]
      simp only [vo_dep, jy_up_k, jy_up_2, jy_row_k3, jy_row_2, Nat.reduceEqDiff, not_false_eq_true, ↓reduceIte, true_and, and_true, and_false, false_and, reduceCtorEq]
      by_cases e : k = 8 * u + cc
      · rw [if_pos e, if_pos e]
        exact ⟨rfl, n + 1, by omega, rfl⟩
      · rw [if_neg e, if_neg e]
        exact h7.up.1 k hk
    · rw [wd_f_2, if_neg (by omega)]
      exact h7.2 w c hw (by omega) q2
  · refine ⟨fun c hc => ?_, fun c q1 q2 => ?_⟩
    · simp only [vo_dep, jy_up_k, jy_up_2, jy_row_k3, jy_row_2, Nat.reduceEqDiff, not_false_eq_true, ↓reduceIte, true_and, and_true, and_false, false_and, reduceCtorEq]
      by_cases e : c = cc
      · subst e
        have q := h8.2 c (by omega) hc8
        rw [wd_f_7n.1, wd_f_7n.2.1, wd_f_7n.2.2, if_pos rfl, q.2.1, q.2.2]
        exact ⟨rfl, rfl, rfl, fun _ => rfl⟩
      · rw [wd_f_789 (Or.inl rfl) e, wd_f_789 (Or.inr (Or.inl rfl)) e, if_neg e]
        exact h8.1 c (by omega)
    · simp only [vo_dep, jy_up_k, jy_up_2, jy_row_k3, jy_row_2, Nat.reduceEqDiff, not_false_eq_true, ↓reduceIte, true_and, and_true, and_false, false_and, reduceCtorEq]
      rw [if_neg (by omega)]
      exact h8.2 c (by omega) q2
  · intro c hc o
    have e : ¬ c = cc := fun e => o (by rw [e]; exact wd_f_7n.2.2)
    rw [wd_f_789 (Or.inr (Or.inl rfl)) e] at o ⊢
    rw [wd_f_789 (Or.inr (Or.inr rfl)) e]
    simp only [vo_dep, jy_up_k, jy_up_2, jy_row_k3, jy_row_2, Nat.reduceEqDiff, not_false_eq_true, ↓reduceIte, true_and, and_true, and_false, false_and, reduceCtorEq]
    exact h9.up c (by omega) o
  · intro c hc b q1 q2 z
    by_cases e : c = cc
    · rw [e, wd_f_9n] at z
      exact absurd (by decide) z
    · rw [wd_f_789 (Or.inr (Or.inr rfl)) e] at z ⊢
      exact h10 c (by omega) b q1 q2 z
  · intro c hc b q1 q2 z
    simp only [vo_dep, jy_up_k, jy_up_2, jy_row_k3, jy_row_2, Nat.reduceEqDiff, not_false_eq_true, ↓reduceIte, true_and, and_true, and_false, false_and, reduceCtorEq] at z ⊢
    exact h11 c hc b q1 q2 z
  · intro b q1 q2
    rw [wd_f_10]
    simp only [vo_dep, jy_up_k, jy_up_2, jy_row_k3, jy_row_2, Nat.reduceEqDiff, not_false_eq_true, ↓reduceIte, true_and, and_true, and_false, false_and, reduceCtorEq]
    by_cases e : b = n + 1
    · rw [if_pos e, if_pos e]
      exact ⟨fun z => absurd z (by decide), fun z => absurd rfl z⟩
    · rw [if_neg e, if_neg e]
      exact h12 b q1 (by omega)
  · refine jp_8.mk' (fun b c q1 q2 hc => ?_) (fun b c q1 q2 hc => ?_)
    · by_cases e : b = n + 1
      · subst e
        have z := h13.2.1 (n + 1) c (by omega) (by omega) hc
        unfold jp_8x
        rw [wd_g_11n]
        by_cases e : c = cc
        · subst e
          rw [if_pos rfl]
          obtain ⟨a0, a1, a3, a4, a5⟩ := wd_f_13n (K := K) (fC := fC) (g := g) (cc := c) (n := n) (u := u) (v := v)
          have e0 : vo_dep fR c n u v 30 0 (8 * (n + 1) + c) = 1 := by simp only [vo_dep, jy_up_k, jy_up_2, jy_row_k3, jy_row_2, Nat.reduceEqDiff, not_false_eq_true, ↓reduceIte, true_and, and_true, and_false, false_and, reduceCtorEq]
          have e1 : vo_dep fR c n u v 31 0 (8 * (n + 1) + c) = 1 := by simp only [vo_dep, jy_up_k, jy_up_2, jy_row_k3, jy_row_2, Nat.reduceEqDiff, not_false_eq_true, ↓reduceIte, true_and, and_true, and_false, false_and, reduceCtorEq]
          have e2 : vo_dep fR c n u v 32 0 (8 * (n + 1) + c) = 0 := by simp only [vo_dep, jy_up_k, jy_up_2, jy_row_k3, jy_row_2, Nat.reduceEqDiff, not_false_eq_true, ↓reduceIte, true_and, and_true, and_false, false_and, reduceCtorEq]; exact z.2.2
          have e4 : vo_dep fR c n u v 34 0 (8 * (n + 1) + c) = nI u := by simp only [vo_dep, jy_up_k, jy_up_2, jy_row_k3, jy_row_2, Nat.reduceEqDiff, not_false_eq_true, ↓reduceIte, true_and, and_true, and_false, false_and, reduceCtorEq]
          have e5 : vo_dep fR c n u v 25 0 c = v := by simp only [vo_dep, jy_up_k, jy_up_2, jy_row_k3, jy_row_2, Nat.reduceEqDiff, not_false_eq_true, ↓reduceIte, true_and, and_true, and_false, false_and, reduceCtorEq]
          have n1 : ¬ (1 : Int32) = 0 := by decide
          refine ⟨⟨?_, ?_⟩, fun a' q => ?_⟩
          · show some (vc_t (wd_f K fC g c n u v) (wd_A K c n)) = _
            unfold vc_t vr_e
            rw [e0, e1, e2, e4, a0, a1, a3, a4, if_neg n1, if_neg n1, if_neg n1]
            simp [n1, jq_b]
          · show wd_f K fC g c n u v 13 (wd_A K c n) 5 = _
            unfold vr_leaf
            rw [e0, e1, e4, e5, a5, if_neg n1, if_neg n1]
          · cases q
            exact fun _ => a1
        · rw [if_neg e]
          have L := lo (n + 1) c hc (fun y => e y.2)
          have e0 : vo_dep fR cc n u v 30 0 (8 * (n + 1) + c) = 0 := by rw [L 30 (by simp)]; exact z.1
          unfold vr_e vr_leaf
          rw [if_pos e0, if_pos e0]
          exact ⟨⟨rfl, rfl⟩, fun a q => by cases q⟩
      · have L := lo b c hc (fun y => e y.1)
        refine (h13.x q1 (by omega) hc).cg (by rw [wd_g_11 e]) (fun a q => lv b c a q1 (by omega) hc q) (vr_e_at L seed) (vr_leaf_at L ?_)
        by_cases y : c = cc
        · left
          exact h17 b c (by omega) hc (by omega)
        · right
          simp only [vo_dep, jy_up_k, jy_up_2, jy_row_k3, jy_row_2, Nat.reduceEqDiff, not_false_eq_true, ↓reduceIte, true_and, and_true, and_false, false_and, reduceCtorEq]
          rw [if_neg y]
    · have L := lo b c hc (fun y => by omega)
      rw [L 30 (by simp), L 31 (by simp), L 32 (by simp)]
      exact h13.2.1 b c (by omega) q2 hc
  · intro b q1 q2
    by_cases e : b = n + 1
    · subst e
      obtain ⟨old, ho⟩ := wd_f_12n (K := K) (fC := fC) (g := g) (cc := cc) (n := n) (u := u) (v := v)
      refine ⟨old, ?_⟩
      have e : (fun c => vc_lf (wd_f0 K fC cc n u v) (wd_g0 K g cc n 11 (n + 1) c)) = fun c => vc_lf (wd_f0 K fC cc n u v) (wd_g K g cc n 11 (n + 1) c) := by
        funext c
        rw [wd_g0_11n, wd_g_11n]
      rw [ho, vc_lf_13 (f := wd_f0 K fC cc n u v) wd_f_13e, e]
    · exact (jp_9.cg (n := n) (g := g) (fC := fC) h14 (fun b c z1 z2 _ => by rw [wd_g_11 (by omega)]) lv (fun b z1 z2 => wd_f_12 (by omega)) q1 (by omega))
  · intro c hc
    have l := h1.2.2.2.2.2.1 c hc
    rw [wd_g_k (Or.inl rfl), wd_g_k (Or.inr (Or.inl rfl))]
    refine ⟨(h15 c hc).1.cg (fun a q => lt l.1 q) ?_ seed, (h15 c hc).2.cg (fun a q => lt l.2 q) ?_ seed⟩ <;> simp only [vo_dep, jy_up_k, jy_up_2, jy_row_k3, jy_row_2, Nat.reduceEqDiff, not_false_eq_true, ↓reduceIte, true_and, and_true, and_false, false_and, reduceCtorEq]
  · intro c hc
    by_cases e : c = cc
    · exact ⟨n + 1, by omega, by omega, wd_A K cc n, by rw [wd_g_11n, if_pos e]⟩
    · obtain ⟨b, q1, q2, a, qa⟩ := h16 c (by omega)
      exact ⟨b, q1, by omega, a, by rw [wd_g_11 (by omega)]; exact qa⟩
  · intro b c q1 q2 q3
    have L := lo b c q2 (fun y => by omega)
    rw [L 31 (by simp)]
    exact h17 b c (by omega) q2 q3
theorem js_dep (hI : jI K g fC fR cc n) (hR : jl_R K g) {u v : Int32} : jL Z 8 1 67 [.inl u, .inl v] K g fC fR := by
  have N := ji_7 hI
  have H := hI
  obtain ⟨-, -, nC, nR, p1, p3, -⟩ := H
  by_cases hb : (u < 0 ∨ 3 < u) ∨ v < 1 ∨ 50 < v
  · exact jL.same hI hR (cc_dep_bad (d := 6) (by rw [jz_4u]; exact hb)) (rm_dep_bad (d := 6) hb)
  · obtain ⟨u, rfl, hu⟩ := jz_usr (u := u) (fun z => hb (Or.inl z))
    have hv : ¬ (v < 1 ∨ 50 < v) := fun z => hb (Or.inr z)
    have h1 := cc_dep (Z := Z) (d := 3) (f := fC) hI.1 hI.2.1 nC hu hv
    by_cases z1 : cc = 8 ∨ n = 24
    · have h2 := rm_dep (Z := Z) (d := 6) (f := fR) hR nR hu hv
      rw [if_pos z1] at h1 h2
      exact jL.same hI hR h1 h2
    · rw [if_neg z1, p3 u hu] at h1
      by_cases z2 : fR 23 0 u < v
      · have h2 := rm_dep (Z := Z) (d := 6) (f := fR) hR nR hu hv
        rw [if_neg z1, if_pos z2] at h2
        rw [if_pos z2] at h1
        exact jL.same hI hR h1 h2
      · obtain ⟨W1, W2, W3⟩ := wd_C hI.1 hI.2.1 (show cc < 8 by omega)
        have hR' : jl_R (wd_K K cc n) (wd_g K g cc n) := (hR.x W3).gg (wd_g_k (Or.inr (Or.inr rfl)))
        have h2 := rm_dep (Z := Z) (d := 6) (f := fR) hR' nR hu hv
        rw [if_neg z1, if_neg z2] at h2
        rw [if_neg z2] at h1
        have E := wd_E (K := K) (cc := cc) (n := n)
        rw [E.2.1] at h2
        refine ⟨_, _, _, _, _, cc + 1, n + 1, h1, h2, ji_depI hI (by omega) (by omega) hu, hR', fun k hk => wd_lo hk, ?_, E.E (by omega) (by omega), Or.inr (Or.inr (Or.inr (by rw [N.1, N.2.2.1, nI_clamp (by omega), nI_clamp (by omega)])))⟩
        unfold vo_dep
        exact (((((((((jt_hi.rfl'.up (by omega)).up (by omega)).up (by omega)).up (by omega)).up (by omega)).up (by omega)).up (by omega)).up (by omega)).up (by omega))
end DP
