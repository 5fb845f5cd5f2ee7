/-! both sides in step: the watch over all coins -/
section WB
variable {Z : jx_Sc} {d dr : Nat} {K : jy_K} {g : jy_R} {cc n : Nat}
theorem cw_g0 {fC fR : jy_I} (hI : jI K g fC fR cc n) {u c : Nat} (hu : u < 4) (hc : c < 8) (he : fC 2 0 (8 * u + c) = 0 ∨ (c < cc ∧ ¬ fC 7 c 1 = 0)) : jx_m Z (d + 6) 49 [.inr (some (K.2.1 0 0)), .inl (nI u), .inl (nI c)] (jy_w K fC g) = some (some (.inl 0), jy_w K fC g) := by
  have N := ji_7 hI
  have hC1 := hI.1
  have nC := hI.2.2.1
  by_cases hcc : c < cc
  · have hcl := hI.1.2.2.1 c hcc
    by_cases z : fC 2 0 (8 * u + c) = 0
    · simp only [e_CC_guardCoin, x_CC_guardCoin_0, x_CC_guardCoin_1, x_CC_guardCoin_2, x_CC_guardCoin_3, x_CC_guardCoin_6, x_CC_guardCoin_7, x_CC_guardCoin_8, x_CC_guardCoin_9, x_CC_guardCoin_12, x_CC_guardCoin_14, x_CC_guardCoin_15, x_CC_guardCoin_18, x_CC_guardCoin_20, x_CC_guardCoin_23, x_CC_guardCoin_25, x_CC_guardCoin_28, x_CC_guardCoin_31, x_CC_guardCoin_32, x_CC_guardCoin_33, x_CC_guardCoin_35, x_CC_guardCoin_38, x_CC_guardCoin_40, x_CC_guardCoin_42, x_CC_guardCoin_45, x_CC_guardCoin_48, x_CC_guardCoin_49, x_CC_guardCoin_50, x_CC_guardCoin_53, x_CC_guardCoin_56, x_CC_guardCoin_57, x_CC_guardCoin_58, x_CC_guardCoin_59, x_CC_guardCoin_60, x_CC_guardCoin_63, x_CC_guardCoin_66, x_CC_guardCoin_69, x_CC_guardCoin_70, x_CC_guardCoin_71, x_CC_guardCoin_73, x_CC_guardCoin_76, x_CC_guardCoin_77, x_CC_guardCoin_80, x_CC_guardCoin_82, x_CC_guardCoin_85, x_CC_guardCoin_86, x_CC_guardCoin_89, x_CC_guardCoin_90, x_CC_guardCoin_91, x_CC_guardCoin_93, x_CC_guardCoin_96, x_CC_guardCoin_97, x_CC_guardCoin_98, x_CC_guardCoin_99, x_CC_guardCoin_100, x_CC_guardCoin_101, x_CC_guardCoin_103, x_CC_guardCoin_106, cu_is hC1, cu_g0 hC1, cu_g1 hC1, cu_g2 hC1, cu_g3 hC1, cu_g4 hC1, cu_g5 hC1, cu_g6 hC1, cu_g7 hC1, cu_g8 hC1, cu_g9 hC1, cu_g10 hC1, cu_s5 hC1, cu_s7 hC1, cu_s10 hC1, cu_n1 hC1, cu_m1 hC1, cu_n2 hC1, cu_m2 hC1, cu_n3 hC1, cu_n4 hC1, cu_n5 hC1, cu_n6 hC1, cu_c0 hcl, cu_c1 hcl, cu_c2 hcl, cu_e0 hcl, cu_e1 hcl, cu_e2 hcl, cu_e3 hcl, cu_e4 hcl, cu_e5 hcl, cu_eis hcl, cu_n9 hcl, cu_l9 hcl, cc_held hC1 hu hc, cc_coinAt_y hC1 nC hcc, z, Option.bind_some, Option.toList_some, Option.toList_none, List.cons_append, List.nil_append, ↓reduceIte, reduceCtorEq, not_false_eq_true, not_true_eq_false]
    · have y : ¬ fC 7 c 1 = 0 := he.elim (fun w => absurd w z) (fun w => w.2)
      simp only [e_CC_guardCoin, x_CC_guardCoin_0, x_CC_guardCoin_1, x_CC_guardCoin_2, x_CC_guardCoin_3, x_CC_guardCoin_6, x_CC_guardCoin_7, x_CC_guardCoin_8, x_CC_guardCoin_9, x_CC_guardCoin_12, x_CC_guardCoin_14, x_CC_guardCoin_15, x_CC_guardCoin_18, x_CC_guardCoin_20, x_CC_guardCoin_23, x_CC_guardCoin_25, x_CC_guardCoin_28, x_CC_guardCoin_31, x_CC_guardCoin_32, x_CC_guardCoin_33, x_CC_guardCoin_35, x_CC_guardCoin_38, x_CC_guardCoin_40, x_CC_guardCoin_42, x_CC_guardCoin_45, x_CC_guardCoin_48, x_CC_guardCoin_49, x_CC_guardCoin_50, x_CC_guardCoin_53, x_CC_guardCoin_56, x_CC_guardCoin_57, x_CC_guardCoin_58, x_CC_guardCoin_59, x_CC_guardCoin_60, x_CC_guardCoin_63, x_CC_guardCoin_66, x_CC_guardCoin_69, x_CC_guardCoin_70, x_CC_guardCoin_71, x_CC_guardCoin_73, x_CC_guardCoin_76, x_CC_guardCoin_77, x_CC_guardCoin_80, x_CC_guardCoin_82, x_CC_guardCoin_85, x_CC_guardCoin_86, x_CC_guardCoin_89, x_CC_guardCoin_90, x_CC_guardCoin_91, x_CC_guardCoin_93, x_CC_guardCoin_96, x_CC_guardCoin_97, x_CC_guardCoin_98, x_CC_guardCoin_99, x_CC_guardCoin_100, x_CC_guardCoin_101, x_CC_guardCoin_103, x_CC_guardCoin_106, cu_is hC1, cu_g0 hC1, cu_g1 hC1, cu_g2 hC1, cu_g3 hC1, cu_g4 hC1, cu_g5 hC1, cu_g6 hC1, cu_g7 hC1, cu_g8 hC1, cu_g9 hC1, cu_g10 hC1, cu_s5 hC1, cu_s7 hC1, cu_s10 hC1, cu_n1 hC1, cu_m1 hC1, cu_n2 hC1, cu_m2 hC1, cu_n3 hC1, cu_n4 hC1, cu_n5 hC1, cu_n6 hC1, cu_c0 hcl, cu_c1 hcl, cu_c2 hcl, cu_e0 hcl, cu_e1 hcl, cu_e2 hcl, cu_e3 hcl, cu_e4 hcl, cu_e5 hcl, cu_eis hcl, cu_n9 hcl, cu_l9 hcl, cc_held hC1 hu hc, cc_coinAt_y hC1 nC hcc, z, y, Option.bind_some, Option.toList_some, Option.toList_none, List.cons_append, List.nil_append, ↓reduceIte, reduceCtorEq, not_false_eq_true, not_true_eq_false]
  · have hb : nI c < 0 ∨ fC 0 0 5 ≤ nI c := Or.inr (by rw [N.2.2.1]; exact nI_le (by omega) (by omega))
    have z : fC 2 0 (8 * u + c) = 0 := he.elim id (fun w => absurd w.1 hcc)
    simp only [e_CC_guardCoin, x_CC_guardCoin_0, x_CC_guardCoin_1, x_CC_guardCoin_2, x_CC_guardCoin_3, x_CC_guardCoin_6, x_CC_guardCoin_7, x_CC_guardCoin_8, x_CC_guardCoin_9, x_CC_guardCoin_12, x_CC_guardCoin_14, x_CC_guardCoin_15, x_CC_guardCoin_18, x_CC_guardCoin_20, x_CC_guardCoin_23, x_CC_guardCoin_25, x_CC_guardCoin_28, x_CC_guardCoin_31, x_CC_guardCoin_32, x_CC_guardCoin_33, x_CC_guardCoin_35, x_CC_guardCoin_38, x_CC_guardCoin_40, x_CC_guardCoin_42, x_CC_guardCoin_45, x_CC_guardCoin_48, x_CC_guardCoin_49, x_CC_guardCoin_50, x_CC_guardCoin_53, x_CC_guardCoin_56, x_CC_guardCoin_57, x_CC_guardCoin_58, x_CC_guardCoin_59, x_CC_guardCoin_60, x_CC_guardCoin_63, x_CC_guardCoin_66, x_CC_guardCoin_69, x_CC_guardCoin_70, x_CC_guardCoin_71, x_CC_guardCoin_73, x_CC_guardCoin_76, x_CC_guardCoin_77, x_CC_guardCoin_80, x_CC_guardCoin_82, x_CC_guardCoin_85, x_CC_guardCoin_86, x_CC_guardCoin_89, x_CC_guardCoin_90, x_CC_guardCoin_91, x_CC_guardCoin_93, x_CC_guardCoin_96, x_CC_guardCoin_97, x_CC_guardCoin_98, x_CC_guardCoin_99, x_CC_guardCoin_100, x_CC_guardCoin_101, x_CC_guardCoin_103, x_CC_guardCoin_106, cu_is hC1, cu_g0 hC1, cu_g1 hC1, cu_g2 hC1, cu_g3 hC1, cu_g4 hC1, cu_g5 hC1, cu_g6 hC1, cu_g7 hC1, cu_g8 hC1, cu_g9 hC1, cu_g10 hC1, cu_s5 hC1, cu_s7 hC1, cu_s10 hC1, cu_n1 hC1, cu_m1 hC1, cu_n2 hC1, cu_m2 hC1, cu_n3 hC1, cu_n4 hC1, cu_n5 hC1, cu_n6 hC1, cc_held hC1 hu hc, cc_coinAt_n hC1 hb, z, Option.bind_some, Option.toList_some, Option.toList_none, List.cons_append, List.nil_append, ↓reduceIte, reduceCtorEq, not_false_eq_true, not_true_eq_false]
theorem cw_w0 {fC fR : jy_I} (hI : jI K g fC fR cc n) {u : Nat} (hu : u < 4) {s : Int32} : ∀ m c : Nat, 8 - c = m → cc ≤ c → c ≤ 8 → jx_run Z jX_CC_watch (jx_m Z (d + 6)) (13, [some (.inr (some (K.2.1 0 0))), some (.inl (nI u)), some (.inl s), some (.inl (nI c))], [], jy_w K fC g) = some (some (.inl s), jy_w K fC g) := by
  have hC1 := hI.1
  have H := hI
  obtain ⟨-, -, -, -, -, -, p4, -⟩ := H
  intro m
  induction m with
  | zero =>
    intro c hm h1 h2
    have e : c = 8 := by omega
    subst e
    have h0 : (8 : Int32) ≤ nI 8 := by decide
    rw [x_CC_watch_13]
    simp only [x_CC_watch_14, x_CC_watch_16, x_CC_watch_19, x_CC_watch_20, x_CC_watch_21, x_CC_watch_22, x_CC_watch_23, x_CC_watch_26, x_CC_watch_27, x_CC_watch_28, x_CC_watch_31, x_CC_watch_34, x_CC_watch_35, h0, ↓reduceIte]
  | succ m ih =>
    intro c hm h1 h2
    have h0 : ¬ (8 : Int32) ≤ nI c := nI_ge (b := 8) (by omega) (by omega)
    have I := ih (c + 1) (by omega) (by omega) (by omega)
    have e0 : s + 0 = s := Int32.add_zero s
    rw [x_CC_watch_13]
    simp only [x_CC_watch_14, x_CC_watch_16, x_CC_watch_19, x_CC_watch_20, x_CC_watch_21, x_CC_watch_22, x_CC_watch_23, x_CC_watch_26, x_CC_watch_27, x_CC_watch_28, x_CC_watch_31, x_CC_watch_34, x_CC_watch_35, cu_is hC1, cu_g0 hC1, cu_g1 hC1, cu_g2 hC1, cu_g3 hC1, cu_g4 hC1, cu_g5 hC1, cu_g6 hC1, cu_g7 hC1, cu_g8 hC1, cu_g9 hC1, cu_g10 hC1, cu_s5 hC1, cu_s7 hC1, cu_s10 hC1, cu_n1 hC1, cu_m1 hC1, cu_n2 hC1, cu_m2 hC1, cu_n3 hC1, cu_n4 hC1, cu_n5 hC1, cu_n6 hC1, cw_g0 hI hu (show c < 8 by omega) (Or.inl (p4.2 u c hu h1 (by omega))), h0, e0, jz_inc, Option.bind_some, Option.toList_some, Option.toList_none, List.cons_append, List.nil_append, ↓reduceIte]
    exact I
theorem jw_w (hR : jl_R K g) {u : Nat} (hu : u < 4) : ∀ (m c : Nat) (s : Int32) (l4 : Option jx_V) (fC fR : jy_I), cc - c = m → c ≤ cc → jI K g fC fR cc n → ∃ (a : Int32) (fC' fR' : jy_I), jx_run Z jX_CC_watch (jx_m Z (d + 6)) (13, [some (.inr (some (K.2.1 0 0))), some (.inl (nI u)), some (.inl s), some (.inl (nI c))], [], jy_w K fC g) = some (some (.inl a), jy_w K fC' g) ∧ jx_run Z jX_RM_watch (jx_m Z (dr + 6)) (13, [some (.inr (some (K.2.1 20 0))), some (.inl (nI u)), some (.inl s), some (.inl (nI c)), l4], [], jy_w K fR g) = some (some (.inl a), jy_w K fR' g) ∧ jI K g fC' fR' cc n ∧ jt_lo fC fC' ∧ jt_hi fR fR' := by
  intro m
  induction m with
  | zero =>
    intro c s l4 fC fR hm h1 hI
    have e : c = cc := by omega
    subst e
    have N := ji_7 hI
    have h0 : nI c ≤ nI c := Int32.le_refl _
    refine ⟨s, fC, fR, cw_w0 hI hu (8 - c) c rfl (by omega) (by omega), ?_, hI, jt_lo.rfl', jt_hi.rfl'⟩
    rw [x_RM_watch_13]
    simp only [x_RM_watch_14, x_RM_watch_15, x_RM_watch_18, x_RM_watch_21, x_RM_watch_22, x_RM_watch_25, x_RM_watch_27, x_RM_watch_28, x_RM_watch_29, x_RM_watch_30, x_RM_watch_31, x_RM_watch_32, x_RM_watch_34, x_RM_watch_36, x_RM_watch_39, x_RM_watch_40, x_RM_watch_43, x_RM_watch_44, x_RM_watch_45, x_RM_watch_48, x_RM_watch_49, x_RM_watch_50, x_RM_watch_51, x_RM_watch_52, x_RM_watch_54, x_RM_watch_57, x_RM_watch_58, x_RM_watch_59, x_RM_watch_62, x_RM_watch_65, x_RM_watch_66, ru_is hR, ru_g0 hR, ru_s0 hR, ru_g1 hR, ru_s1 hR, ru_g2 hR, ru_s2 hR, ru_g3 hR, ru_g4 hR, ru_s4 hR, ru_g5 hR, ru_g6 hR, ru_g7 hR, ru_g8 hR, ru_s8 hR, ru_g9 hR, ru_g10 hR, ru_g11 hR, ru_g12 hR, ru_g13 hR, ru_g14 hR, ru_g15 hR, ru_g16 hR, ru_g17 hR, ru_g18 hR, ru_g19 hR, ru_g20 hR, ru_g21 hR, ru_g22 hR, ru_g23 hR, ru_g24 hR, ru_g25 hR, ru_g26 hR, ru_g27 hR, ru_g28 hR, ru_g29 hR, N.2.2.2.1, h0, Option.bind_some, Option.toList_some, Option.toList_none, List.cons_append, List.nil_append, ↓reduceIte]
  | succ m ih =>
    intro c s l4 fC fR hm h1 hI
    have N := ji_7 hI
    have hC1 := hI.1
    have H := hI
    obtain ⟨-, -, nC, nR, -, -, p4, p5, -⟩ := H
    have hcc : c < cc := by omega
    have hc8 : c < 8 := by omega
    have h32 : 8 * u + c < 32 := by omega
    have q := p5.1 c hcc
    have h0 : ¬ (8 : Int32) ≤ nI c := nI_ge (b := 8) (by omega) (by omega)
    have h0' : ¬ nI cc ≤ nI c := nI_ge (by omega) (by omega)
    have e0 : s + 0 = s := Int32.add_zero s
    obtain ⟨p4a, hh, h2, p4b⟩ := p4.1 (8 * u + c) h32
    have r27 : fR 27 0 (8 * u + c) = nI hh := p4a.symm.trans p4b
    by_cases z : hh = 0
    · subst z
      have z0 : fC 2 0 (8 * u + c) = 0 := p4b
      have z1 : nI 0 ≤ (0 : Int32) := by decide
      obtain ⟨a, fC', fR', r1, r2, r3, r4, r5⟩ := ih (c + 1) s (some (.inl (nI 0))) fC fR (by omega) (by omega) hI
      refine ⟨a, fC', fR', ?_, ?_, r3, r4, r5⟩
      · rw [x_CC_watch_13]
        simp only [x_CC_watch_14, x_CC_watch_16, x_CC_watch_19, x_CC_watch_20, x_CC_watch_21, x_CC_watch_22, x_CC_watch_23, x_CC_watch_26, x_CC_watch_27, x_CC_watch_28, x_CC_watch_31, x_CC_watch_34, x_CC_watch_35, cu_is hC1, cu_g0 hC1, cu_g1 hC1, cu_g2 hC1, cu_g3 hC1, cu_g4 hC1, cu_g5 hC1, cu_g6 hC1, cu_g7 hC1, cu_g8 hC1, cu_g9 hC1, cu_g10 hC1, cu_s5 hC1, cu_s7 hC1, cu_s10 hC1, cu_n1 hC1, cu_m1 hC1, cu_n2 hC1, cu_m2 hC1, cu_n3 hC1, cu_n4 hC1, cu_n5 hC1, cu_n6 hC1, cw_g0 hI hu hc8 (Or.inl z0), h0, e0, jz_inc, Option.bind_some, Option.toList_some, Option.toList_none, List.cons_append, List.nil_append, ↓reduceIte]
        exact r1
      · rw [x_RM_watch_13]
        simp only [x_RM_watch_14, x_RM_watch_15, x_RM_watch_18, x_RM_watch_21, x_RM_watch_22, x_RM_watch_25, x_RM_watch_27, x_RM_watch_28, x_RM_watch_29, x_RM_watch_30, x_RM_watch_31, x_RM_watch_32, x_RM_watch_34, x_RM_watch_36, x_RM_watch_39, x_RM_watch_40, x_RM_watch_43, x_RM_watch_44, x_RM_watch_45, x_RM_watch_48, x_RM_watch_49, x_RM_watch_50, x_RM_watch_51, x_RM_watch_52, x_RM_watch_54, x_RM_watch_57, x_RM_watch_58, x_RM_watch_59, x_RM_watch_62, x_RM_watch_65, x_RM_watch_66, ru_is hR, ru_g0 hR, ru_s0 hR, ru_g1 hR, ru_s1 hR, ru_g2 hR, ru_s2 hR, ru_g3 hR, ru_g4 hR, ru_s4 hR, ru_g5 hR, ru_g6 hR, ru_g7 hR, ru_g8 hR, ru_s8 hR, ru_g9 hR, ru_g10 hR, ru_g11 hR, ru_g12 hR, ru_g13 hR, ru_g14 hR, ru_g15 hR, ru_g16 hR, ru_g17 hR, ru_g18 hR, ru_g19 hR, ru_g20 hR, ru_g21 hR, ru_g22 hR, ru_g23 hR, ru_g24 hR, ru_g25 hR, ru_g26 hR, ru_g27 hR, ru_g28 hR, ru_g29 hR, ru_n3 hR, ru_m3 hR, ru_n5 hR, ru_m5 hR, ru_n6 hR, ru_m6 hR, ru_n7 hR, ru_m7 hR, ru_n9 hR, ru_m9 hR, ru_n10 hR, ru_m10 hR, ru_n11 hR, ru_m11 hR, ru_n12 hR, ru_m12 hR, ru_n13 hR, ru_m13 hR, ru_n14 hR, ru_m14 hR, ru_n15 hR, ru_m15 hR, ru_n16 hR, ru_m16 hR, ru_n17 hR, ru_m17 hR, ru_n18 hR, ru_m18 hR, ru_n19 hR, ru_m19 hR, ru_n20 hR, ru_m20 hR, ru_n21 hR, ru_m21 hR, ru_n22 hR, ru_m22 hR, ru_n23 hR, ru_m23 hR, ru_n24 hR, ru_m24 hR, ru_n25 hR, ru_m25 hR, ru_n26 hR, ru_m26 hR, ru_n27 hR, ru_m27 hR, ru_n28 hR, ru_m28 hR, ru_n29 hR, ru_m29 hR, N.2.2.2.1, h0', jz_8i, h32, r27, z1, jz_inc, Option.bind_some, Option.toList_some, Option.toList_none, List.cons_append, List.nil_append, ↓reduceIte]
        exact r2
    · have z1 : ¬ nI hh ≤ (0 : Int32) := nI_ge (a := 0) (b := hh) (by omega) (by omega)
      by_cases y : fC 7 c 1 = 0
      · have y' : fR 26 0 c = 0 := q.2.1 ▸ y
        obtain ⟨a1, fC1, fR1, s1, s2, s3, s4, s5⟩ := jw_guard (Z := Z) (d := d) (dr := dr) hI hR hu hcc (show 1 ≤ hh by omega) h2 p4b y
        obtain ⟨a, fC', fR', r1, r2, r3, r4, r5⟩ := ih (c + 1) (s + a1) (some (.inl (nI hh))) fC1 fR1 (by omega) (by omega) s3
        refine ⟨a, fC', fR', ?_, ?_, r3, s4.tr r4, s5.tr r5⟩
        · rw [x_CC_watch_13]
          simp only [x_CC_watch_14, x_CC_watch_16, x_CC_watch_19, x_CC_watch_20, x_CC_watch_21, x_CC_watch_22, x_CC_watch_23, x_CC_watch_26, x_CC_watch_27, x_CC_watch_28, x_CC_watch_31, x_CC_watch_34, x_CC_watch_35, cu_is hC1, cu_g0 hC1, cu_g1 hC1, cu_g2 hC1, cu_g3 hC1, cu_g4 hC1, cu_g5 hC1, cu_g6 hC1, cu_g7 hC1, cu_g8 hC1, cu_g9 hC1, cu_g10 hC1, cu_s5 hC1, cu_s7 hC1, cu_s10 hC1, cu_n1 hC1, cu_m1 hC1, cu_n2 hC1, cu_m2 hC1, cu_n3 hC1, cu_n4 hC1, cu_n5 hC1, cu_n6 hC1, s1, h0, jz_inc, Option.bind_some, Option.toList_some, Option.toList_none, List.cons_append, List.nil_append, ↓reduceIte]
          exact r1
        · rw [x_RM_watch_13]
          simp only [x_RM_watch_14, x_RM_watch_15, x_RM_watch_18, x_RM_watch_21, x_RM_watch_22, x_RM_watch_25, x_RM_watch_27, x_RM_watch_28, x_RM_watch_29, x_RM_watch_30, x_RM_watch_31, x_RM_watch_32, x_RM_watch_34, x_RM_watch_36, x_RM_watch_39, x_RM_watch_40, x_RM_watch_43, x_RM_watch_44, x_RM_watch_45, x_RM_watch_48, x_RM_watch_49, x_RM_watch_50, x_RM_watch_51, x_RM_watch_52, x_RM_watch_54, x_RM_watch_57, x_RM_watch_58, x_RM_watch_59, x_RM_watch_62, x_RM_watch_65, x_RM_watch_66, ru_is hR, ru_g0 hR, ru_s0 hR, ru_g1 hR, ru_s1 hR, ru_g2 hR, ru_s2 hR, ru_g3 hR, ru_g4 hR, ru_s4 hR, ru_g5 hR, ru_g6 hR, ru_g7 hR, ru_g8 hR, ru_s8 hR, ru_g9 hR, ru_g10 hR, ru_g11 hR, ru_g12 hR, ru_g13 hR, ru_g14 hR, ru_g15 hR, ru_g16 hR, ru_g17 hR, ru_g18 hR, ru_g19 hR, ru_g20 hR, ru_g21 hR, ru_g22 hR, ru_g23 hR, ru_g24 hR, ru_g25 hR, ru_g26 hR, ru_g27 hR, ru_g28 hR, ru_g29 hR, ru_n3 hR, ru_m3 hR, ru_n5 hR, ru_m5 hR, ru_n6 hR, ru_m6 hR, ru_n7 hR, ru_m7 hR, ru_n9 hR, ru_m9 hR, ru_n10 hR, ru_m10 hR, ru_n11 hR, ru_m11 hR, ru_n12 hR, ru_m12 hR, ru_n13 hR, ru_m13 hR, ru_n14 hR, ru_m14 hR, ru_n15 hR, ru_m15 hR, ru_n16 hR, ru_m16 hR, ru_n17 hR, ru_m17 hR, ru_n18 hR, ru_m18 hR, ru_n19 hR, ru_m19 hR, ru_n20 hR, ru_m20 hR, ru_n21 hR, ru_m21 hR, ru_n22 hR, ru_m22 hR, ru_n23 hR, ru_m23 hR, ru_n24 hR, ru_m24 hR, ru_n25 hR, ru_m25 hR, ru_n26 hR, ru_m26 hR, ru_n27 hR, ru_m27 hR, ru_n28 hR, ru_m28 hR, ru_n29 hR, ru_m29 hR, N.2.2.2.1, h0', jz_8i, h32, hc8, r27, z1, y', s2, jz_inc, Option.bind_some, Option.toList_some, Option.toList_none, List.cons_append, List.nil_append, ↓reduceIte, not_false_eq_true, not_true_eq_false]
          exact r2
      · have y' : ¬ fR 26 0 c = 0 := q.2.1 ▸ y
        obtain ⟨a, fC', fR', r1, r2, r3, r4, r5⟩ := ih (c + 1) s (some (.inl (nI hh))) fC fR (by omega) (by omega) hI
        refine ⟨a, fC', fR', ?_, ?_, r3, r4, r5⟩
        · rw [x_CC_watch_13]
          simp only [x_CC_watch_14, x_CC_watch_16, x_CC_watch_19, x_CC_watch_20, x_CC_watch_21, x_CC_watch_22, x_CC_watch_23, x_CC_watch_26, x_CC_watch_27, x_CC_watch_28, x_CC_watch_31, x_CC_watch_34, x_CC_watch_35, cu_is hC1, cu_g0 hC1, cu_g1 hC1, cu_g2 hC1, cu_g3 hC1, cu_g4 hC1, cu_g5 hC1, cu_g6 hC1, cu_g7 hC1, cu_g8 hC1, cu_g9 hC1, cu_g10 hC1, cu_s5 hC1, cu_s7 hC1, cu_s10 hC1, cu_n1 hC1, cu_m1 hC1, cu_n2 hC1, cu_m2 hC1, cu_n3 hC1, cu_n4 hC1, cu_n5 hC1, cu_n6 hC1, cw_g0 hI hu hc8 (Or.inr ⟨hcc, y⟩), h0, e0, jz_inc, Option.bind_some, Option.toList_some, Option.toList_none, List.cons_append, List.nil_append, ↓reduceIte]
          exact r1
        · rw [x_RM_watch_13]
          simp only [x_RM_watch_14, x_RM_watch_15, x_RM_watch_18, x_RM_watch_21, x_RM_watch_22, x_RM_watch_25, x_RM_watch_27, x_RM_watch_28, x_RM_watch_29, x_RM_watch_30, x_RM_watch_31, x_RM_watch_32, x_RM_watch_34, x_RM_watch_36, x_RM_watch_39, x_RM_watch_40, x_RM_watch_43, x_RM_watch_44, x_RM_watch_45, x_RM_watch_48, x_RM_watch_49, x_RM_watch_50, x_RM_watch_51, x_RM_watch_52, x_RM_watch_54, x_RM_watch_57, x_RM_watch_58, x_RM_watch_59, x_RM_watch_62, x_RM_watch_65, x_RM_watch_66, ru_is hR, ru_g0 hR, ru_s0 hR, ru_g1 hR, ru_s1 hR, ru_g2 hR, ru_s2 hR, ru_g3 hR, ru_g4 hR, ru_s4 hR, ru_g5 hR, ru_g6 hR, ru_g7 hR, ru_g8 hR, ru_s8 hR, ru_g9 hR, ru_g10 hR, ru_g11 hR, ru_g12 hR, ru_g13 hR, ru_g14 hR, ru_g15 hR, ru_g16 hR, ru_g17 hR, ru_g18 hR, ru_g19 hR, ru_g20 hR, ru_g21 hR, ru_g22 hR, ru_g23 hR, ru_g24 hR, ru_g25 hR, ru_g26 hR, ru_g27 hR, ru_g28 hR, ru_g29 hR, ru_n3 hR, ru_m3 hR, ru_n5 hR, ru_m5 hR, ru_n6 hR, ru_m6 hR, ru_n7 hR, ru_m7 hR, ru_n9 hR, ru_m9 hR, ru_n10 hR, ru_m10 hR, ru_n11 hR, ru_m11 hR, ru_n12 hR, ru_m12 hR, ru_n13 hR, ru_m13 hR, ru_n14 hR, ru_m14 hR, ru_n15 hR, ru_m15 hR, ru_n16 hR, ru_m16 hR, ru_n17 hR, ru_m17 hR, ru_n18 hR, ru_m18 hR, ru_n19 hR, ru_m19 hR, ru_n20 hR, ru_m20 hR, ru_n21 hR, ru_m21 hR, ru_n22 hR, ru_m22 hR, ru_n23 hR, ru_m23 hR, ru_n24 hR, ru_m24 hR, ru_n25 hR, ru_m25 hR, ru_n26 hR, ru_m26 hR, ru_n27 hR, ru_m27 hR, ru_n28 hR, ru_m28 hR, ru_n29 hR, ru_m29 hR, N.2.2.2.1, h0', jz_8i, h32, hc8, r27, z1, y', jz_inc, Option.bind_some, Option.toList_some, Option.toList_none, List.cons_append, List.nil_append, ↓reduceIte, not_false_eq_true, not_true_eq_false]
          exact r2
theorem js_watch {fC fR : jy_I} (hI : jI K g fC fR cc n) (hR : jl_R K g) {u : Int32} : jL Z 8 48 93 [.inl u] K g fC fR := by
  by_cases hb : u < 0 ∨ 3 < u
  · have hb' : u < 0 ∨ 4 ≤ u := by rw [jz_4u]; exact hb
    refine jL.same (a := -1) hI hR ?_ ?_
    · rw [show 8 = 7 + 1 from rfl]
      simp only [e_CC_watch, x_CC_watch_0, x_CC_watch_1, x_CC_watch_4, x_CC_watch_7, x_CC_watch_8, cc_isUser, hb', Option.bind_some, Option.toList_some, Option.toList_none, List.cons_append, List.nil_append, ↓reduceIte, not_false_eq_true, not_true_eq_false]
    · rw [show 8 = 7 + 1 from rfl]
      simp only [e_RM_watch, x_RM_watch_0, x_RM_watch_1, x_RM_watch_4, x_RM_watch_7, x_RM_watch_8, rm_isUser, hb, Option.bind_some, Option.toList_some, Option.toList_none, List.cons_append, List.nil_append, ↓reduceIte, not_false_eq_true, not_true_eq_false]
  · have hb' : ¬ (u < 0 ∨ 4 ≤ u) := by rw [jz_4u]; exact hb
    obtain ⟨u, rfl, hu⟩ := jz_usr hb
    have e10 : ¬ (1 : Int32) = 0 := by decide
    obtain ⟨a, fC', fR', r1, r2, r3, r4, r5⟩ := jw_w (Z := Z) (d := 1) (dr := 1) (n := n) hR hu cc 0 0 none fC fR (by omega) (by omega) hI
    refine jL.only (cc := cc) (n := n) hR (a := a) (fC' := fC') (fR' := fR') ?_ ?_ r3 r4 r5
    · rw [show 8 = 7 + 1 from rfl]
      simp only [e_CC_watch, x_CC_watch_0, x_CC_watch_1, x_CC_watch_4, x_CC_watch_7, x_CC_watch_8, x_CC_watch_9, x_CC_watch_10, x_CC_watch_11, x_CC_watch_12, cc_isUser, hb', e10, Option.bind_some, Option.toList_some, Option.toList_none, List.cons_append, List.nil_append, ↓reduceIte, not_false_eq_true, not_true_eq_false]
      exact r1
    · rw [show 8 = 7 + 1 from rfl]
      simp only [e_RM_watch, x_RM_watch_0, x_RM_watch_1, x_RM_watch_4, x_RM_watch_7, x_RM_watch_8, x_RM_watch_9, x_RM_watch_10, x_RM_watch_11, x_RM_watch_12, rm_isUser, hb, e10, Option.bind_some, Option.toList_some, Option.toList_none, List.cons_append, List.nil_append, ↓reduceIte, not_false_eq_true, not_true_eq_false]
      exact r2
end WB
