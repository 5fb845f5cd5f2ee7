/-! the law: its loop -/
section LP
variable {Z : jx_Sc}
theorem jl_case (x : Int32) (h : 0 ≤ x.toInt) (h' : x.toInt ≤ 18) : ∃ k : Nat, k ≤ 18 ∧ x = nI k := ⟨x.toNatClampNeg, by rw [jz_cl]; omega, (jz_nI h).symm⟩
theorem jl_round {K : jy_K} {g : jy_R} {f : jy_I} {cc n i : Nat} (hI : jI K g f f cc n) (hR : jl_R K g) (hZ : K.1 Z.1 = none) (hb : Z.1 < K.2.2.1) (hL : Z.2.1 ≤ 3586) (hi : i + 7 ≤ Z.2.1) {y : Int32} : ∃ (K' : jy_K) (g' : jy_R) (f' : jy_I) (cc' n' : Nat), jx_run Z jX_Lw_law (jx_m Z 8) (53, jl_S K i Z.1, [.inl y], jy_w K f g) = jx_run Z jX_Lw_law (jx_m Z 8) (875, jl_S K' i Z.1, [], jy_w K' f' g') ∧ jI K' g' f' f' cc' n' ∧ jl_R K' g' ∧ jE K K' := by
  by_cases hy : y.toInt < 0 ∨ 18 < y.toInt
  · exact ⟨K, g, f, cc, n, by unfold jl_S; rw [x_Lw_law_53_df hy], hI, hR, jE.rfl'⟩
  · obtain ⟨k, hk, rfl⟩ := jl_case y (by omega) (by omega)
    have G : ∀ {pc : Nat}, (jx_run Z jX_Lw_law (jx_m Z 8) (53, jl_S K i Z.1, [.inl (nI k)], jy_w K f g) = jx_run Z jX_Lw_law (jx_m Z 8) (pc, jl_S K i Z.1, [], jy_w K f g)) → jl_N Z K f g i pc → ∃ (K' : jy_K) (g' : jy_R) (f' : jy_I) (cc' n' : Nat), jx_run Z jX_Lw_law (jx_m Z 8) (53, jl_S K i Z.1, [.inl (nI k)], jy_w K f g) = jx_run Z jX_Lw_law (jx_m Z 8) (875, jl_S K' i Z.1, [], jy_w K' f' g') ∧ jI K' g' f' f' cc' n' ∧ jl_R K' g' ∧ jE K K' := by
      rintro pc e ⟨K', g', f', cc', n', r, h⟩
      exact ⟨K', g', f', cc', n', e.trans r, h⟩
    match k, hk, @G with
    | 0, _, G => exact G x_Lw_law_53_k0 (jl_deposit hI hR hZ hb hL hi)
    | 1, _, G => exact G x_Lw_law_53_k1 (jl_send hI hR hZ hb hL hi)
    | 2, _, G => exact G x_Lw_law_53_k2 (jl_forge hI hR hZ hb hL hi)
    | 3, _, G => exact G x_Lw_law_53_k3 (jl_build hI hR hZ hb hL hi)
    | 4, _, G => exact G x_Lw_law_53_k4 (jl_show hI hR hZ hb hL hi)
    | 5, _, G => exact G x_Lw_law_53_k5 (jl_accept hI hR hZ hb hL hi)
    | 6, _, G => exact G x_Lw_law_53_k6 (jl_exit hI hR hZ hb hL hi)
    | 7, _, G => exact G x_Lw_law_53_k7 (jl_after hI hR hZ hb hL hi)
    | 8, _, G => exact G x_Lw_law_53_k8 (jl_between hI hR hZ hb hL hi)
    | 9, _, G => exact G x_Lw_law_53_k9 (jl_before hI hR hZ hb hL hi)
    | 10, _, G => exact G x_Lw_law_53_k10 (jl_answer hI hR hZ hb hL hi)
    | 11, _, G => exact G x_Lw_law_53_k11 (jl_finalise hI hR hZ hb hL hi)
    | 12, _, G => exact G x_Lw_law_53_k12 (jl_watch hI hR hZ hb hL hi)
    | 13, _, G => exact G x_Lw_law_53_k13 (jl_tick hI hR hZ hb hL hi)
    | 14, _, G => exact G x_Lw_law_53_k14 (jl_user hI hR hZ hb hL hi)
    | 15, _, G => exact G x_Lw_law_53_k15 (jl_coin hI hR hZ hb hL hi)
    | 16, _, G => exact G x_Lw_law_53_k16 (jl_block hI hR hZ hb hL hi)
    | 17, _, G => exact G x_Lw_law_53_k17 (jl_proves hI hR hZ hb hL hi)
    | 18, _, G => exact G x_Lw_law_53_k18 (jl_locked hI hR hZ hb hL hi)
    | k + 19, hk, G => omega
theorem jl_sub {L : Nat} (hL : L ≤ 3586) : (nI L - 7).toInt = L - 7 := by
  rw [Int32.toInt_sub, nI_toInt (by omega), jz_7]
  unfold Int.bmod
  dsimp only
  split <;> omega
theorem jl_loop (hL : Z.2.1 ≤ 3586) : ∀ (m i : Nat) (K : jy_K) (g : jy_R) (f : jy_I) (cc n : Nat), Z.2.1 < i + 7 * m + 7 → i ≤ 3600 → jI K g f f cc n → jl_R K g → K.1 Z.1 = none → Z.1 < K.2.2.1 → ∃ w, jx_run Z jX_Lw_law (jx_m Z 8) (38, jl_S K i Z.1, [], jy_w K f g) = some (some (.inl 1), w) ∧ w.2.1 ≤ K.2.2.1 + 7 * m ∧ w.2.2 ≤ K.2.2.2 + 67 * m := by
  intro m
  induction m with
  | zero =>
    intro i K g f cc n hm h36 hI hR hZ hb
    have q : nI Z.2.1 - 7 < nI i := by
      rw [Int32.lt_iff_toInt_lt, jl_sub hL, nI_toInt (by omega)]
      omega
    refine ⟨jy_w K f g, ?_, Nat.le_refl _, Nat.le_refl _⟩
    have q' : Int32.ofNat Z.2.1 - 7 < nI i := q
    unfold jl_S
    simp only [x_Lw_law_38, x_Lw_law_39, x_Lw_law_40, x_Lw_law_41, x_Lw_law_43, x_Lw_law_44, x_Lw_law_881, x_Lw_law_882, jy_gSL hZ, q', Option.bind_some, Option.toList_some, Option.toList_none, List.cons_append, List.nil_append, ↓reduceIte, or_true]
  | succ m ih =>
    intro i K g f cc n hm h36 hI hR hZ hb
    by_cases q : Z.2.1 < i + 7
    · have q' : nI Z.2.1 - 7 < nI i := by
        rw [Int32.lt_iff_toInt_lt, jl_sub hL, nI_toInt (by omega)]
        omega
      refine ⟨jy_w K f g, ?_, Nat.le_add_right _ _, Nat.le_add_right _ _⟩
      have q' : Int32.ofNat Z.2.1 - 7 < nI i := q'
      unfold jl_S
      simp only [x_Lw_law_38, x_Lw_law_39, x_Lw_law_40, x_Lw_law_41, x_Lw_law_43, x_Lw_law_44, x_Lw_law_881, x_Lw_law_882, jy_gSL hZ, q', Option.bind_some, Option.toList_some, Option.toList_none, List.cons_append, List.nil_append, ↓reduceIte, or_true]
    · have q' : ¬ nI Z.2.1 - 7 < nI i := by
        rw [Int32.lt_iff_toInt_lt, jl_sub hL, nI_toInt (by omega)]
        omega
      have q' : ¬ Int32.ofNat Z.2.1 - 7 < nI i := q'
      obtain ⟨K', g', f', cc', n', r, I', R', E'⟩ := jl_round (i := i) (y := Z.2.2 i &&& 31) hI hR hZ hb hL (by omega)
      obtain ⟨w, r2, c1, c2⟩ := ih (i + 7) K' g' f' cc' n' (by omega) (by omega) I' R' ((E'.2.2.2.2.2 _ hb).trans hZ) (by have := E'.2.2.2.2.1; omega)
      refine ⟨w, ?_, by have := E'.2.2.1; omega, by have := E'.2.2.2.1; omega⟩
      have p := jl_rd (f := f) (g := g) hZ hL (show i < Z.2.1 by omega)
      have e7 : nI i + 7 = nI (i + 7) := jz_add i 7
      unfold jl_S at r r2 ⊢
      simp only [x_Lw_law_38, x_Lw_law_39, x_Lw_law_40, x_Lw_law_41, x_Lw_law_43, x_Lw_law_44, x_Lw_law_47, x_Lw_law_48, x_Lw_law_49, x_Lw_law_50, x_Lw_law_52, jy_gSL hZ, q', p, Option.bind_some, Option.toList_some, Option.toList_none, List.cons_append, List.nil_append, ↓reduceIte]
      rw [r, x_Lw_law_875, x_Lw_law_878, e7]
      exact r2
end LP
