/-! the reference: challenges, answers, finalising -/
theorem jq_dn_in {P : Nat → Bool} {a : Nat} : ∀ n r : Nat, jq_dn P a n r = r ∨ (a < jq_dn P a n r ∧ jq_dn P a n r ≤ n ∧ P (jq_dn P a n r) = true)
  | 0, r => Or.inl rfl
  | n + 1, r => by
    simp only [jq_dn]
    by_cases h : a < n + 1
    · rw [if_pos h]
      by_cases hp : P (n + 1) = true
      · rw [if_pos hp]
        rcases jq_dn_in (P := P) (a := a) n (n + 1) with q | ⟨q1, q2, q3⟩
        · right
          rw [q]
          exact ⟨h, Nat.le_refl _, hp⟩
        · exact Or.inr ⟨q1, by omega, q3⟩
      · rw [if_neg hp]
        rcases jq_dn_in (P := P) (a := a) n r with q | ⟨q1, q2, q3⟩
        · exact Or.inl q
        · exact Or.inr ⟨q1, by omega, q3⟩
    · rw [if_neg h]
      exact Or.inl rfl
def vo_bef (f : jy_I) (u c b : Nat) : jy_I := jy_up (jy_up (jy_up (jy_up f 23 0 u (f 23 0 u - 2)) 46 0 (25 * c + b) 1) 47 0 (25 * c + b) 1) 48 0 (25 * c + b) (nI u)
def vo_ans (f : jy_I) (c b x : Nat) : jy_I := jy_up (jy_up f 47 0 (25 * c + b) 0) 23 0 x (f 23 0 x + 2)
def vo_fin (f : jy_I) (c x : Nat) : jy_I := jy_up (jy_up (jy_up f 41 0 c 0) 26 0 c 1) 23 0 x (f 23 0 x + (f 25 0 c + 10))
/-- a challenge that stands is a user's -/
def vr_cok (f : jy_I) (n c : Nat) : Prop := ∀ b, 1 ≤ b → b ≤ n → vr_std f c b = true → ∃ u, u < 4 ∧ f 48 0 (25 * c + b) = nI u
section RI
variable {Z : jx_Sc} {d : Nat} {K : jy_K} {f : jy_I} {g : jy_R} {call : jx_C} {w : jx_W}
theorem rm_aft_n (h : jl_R K g) {u c b : Int32} (hb : (u < 0 ∨ 3 < u) ∨ (c < 0 ∨ f 20 0 4 ≤ c) ∨ (b < 1 ∨ f 20 0 8 < b)) : jx_m Z (d + 3) 86 [.inr (some (K.2.1 20 0)), .inl u, .inl c, .inl b] (jy_w K f g) = some (some (.inl (-1)), jy_w K f g) := by
  have e : ¬ (-1 : Int32) = 0 := by decide
  simp only [e_RM_after, x_RM_after_0, x_RM_after_1, x_RM_after_2, x_RM_after_3, x_RM_after_4, x_RM_after_7, x_RM_after_9, x_RM_after_11, x_RM_after_14, x_RM_after_16, Option.bind_some, Option.toList_some, Option.toList_none, List.cons_append, List.nil_append, ru_is h, ↓reduceIte, rm_ref_n h hb, e]
theorem rm_btw_n (h : jl_R K g) {u c b : Int32} (hb : (u < 0 ∨ 3 < u) ∨ (c < 0 ∨ f 20 0 4 ≤ c) ∨ (b < 1 ∨ f 20 0 8 < b)) : jx_m Z (d + 3) 89 [.inr (some (K.2.1 20 0)), .inl u, .inl c, .inl b] (jy_w K f g) = some (some (.inl (-1)), jy_w K f g) := by
  have e : ¬ (-1 : Int32) = 0 := by decide
  simp only [e_RM_between, x_RM_between_0, x_RM_between_1, x_RM_between_2, x_RM_between_3, x_RM_between_4, x_RM_between_7, x_RM_between_9, x_RM_between_11, x_RM_between_14, x_RM_between_16, Option.bind_some, Option.toList_some, Option.toList_none, List.cons_append, List.nil_append, ru_is h, ↓reduceIte, rm_ref_n h hb, e]
theorem rm_bef_n (h : jl_R K g) {u c b : Int32} (hb : (u < 0 ∨ 3 < u) ∨ (c < 0 ∨ f 20 0 4 ≤ c) ∨ (b < 1 ∨ f 20 0 8 < b)) : jx_m Z (d + 3) 90 [.inr (some (K.2.1 20 0)), .inl u, .inl c, .inl b] (jy_w K f g) = some (some (.inl (-1)), jy_w K f g) := by
  have e : ¬ (-1 : Int32) = 0 := by decide
  simp only [e_RM_before, x_RM_before_0, x_RM_before_1, x_RM_before_2, x_RM_before_3, x_RM_before_4, x_RM_before_7, x_RM_before_9, x_RM_before_11, x_RM_before_14, x_RM_before_16, Option.bind_some, Option.toList_some, Option.toList_none, List.cons_append, List.nil_append, ru_is h, ↓reduceIte, rm_ref_n h hb, e]
theorem rm_aft (h : jl_R K g) {cc n u c b : Nat} (hn : jn_R f cc n) (hu : u < 4) (hc : c < cc) (h1 : 1 ≤ b) (h2 : b ≤ n) (hk : vr_cok f n c) : jx_m Z (d + 5) 86 [.inr (some (K.2.1 20 0)), .inl (nI u), .inl (nI c), .inl (nI b)] (jy_w K f g) = some (if f 41 0 c = 0 then (some (.inl (-4)), jy_w K f g) else if jq_sp (vr_E f) c (nI b) (f 43 0 c) = false then (some (.inl (-5)), jy_w K f g) else (some (.inl 0), jy_w K (vr_can f n c u) g)) := by
  have hcc := hn.2.2.1
  have hc8 : c < 8 := by omega
  have b1 : ¬ jq_b true = 0 := by decide
  have b0 : jq_b false = 0 := by decide
  have e4 : ¬ (-4 : Int32) = 0 := by decide
  simp only [e_RM_after, x_RM_after_0, x_RM_after_1, x_RM_after_2, x_RM_after_3, x_RM_after_4, x_RM_after_7, x_RM_after_9, x_RM_after_11, x_RM_after_14, x_RM_after_16, x_RM_after_17, x_RM_after_18, x_RM_after_19, x_RM_after_20, x_RM_after_21, x_RM_after_24, x_RM_after_25, x_RM_after_26, x_RM_after_29, x_RM_after_32, x_RM_after_34, x_RM_after_35, x_RM_after_36, x_RM_after_37, x_RM_after_38, x_RM_after_41, x_RM_after_42, ru_is h, ru_g0 h, ru_s0 h, ru_g1 h, ru_s1 h, ru_g2 h, ru_s2 h, ru_g3 h, ru_g4 h, ru_s4 h, ru_g5 h, ru_g6 h, ru_g7 h, ru_g8 h, ru_s8 h, ru_g9 h, ru_g10 h, ru_g11 h, ru_g12 h, ru_g13 h, ru_g14 h, ru_g15 h, ru_g16 h, ru_g17 h, ru_g18 h, ru_g19 h, ru_g20 h, ru_g21 h, ru_g22 h, ru_g23 h, ru_g24 h, ru_g25 h, ru_g26 h, ru_g27 h, ru_g28 h, ru_g29 h, ru_n3 h, ru_m3 h, ru_n5 h, ru_m5 h, ru_n6 h, ru_m6 h, ru_n7 h, ru_m7 h, ru_n9 h, ru_m9 h, ru_n10 h, ru_m10 h, ru_n11 h, ru_m11 h, ru_n12 h, ru_m12 h, ru_n13 h, ru_m13 h, ru_n14 h, ru_m14 h, ru_n15 h, ru_m15 h, ru_n16 h, ru_m16 h, ru_n17 h, ru_m17 h, ru_n18 h, ru_m18 h, ru_n19 h, ru_m19 h, ru_n20 h, ru_m20 h, ru_n21 h, ru_m21 h, ru_n22 h, ru_m22 h, ru_n23 h, ru_m23 h, ru_n24 h, ru_m24 h, ru_n25 h, ru_m25 h, ru_n26 h, ru_m26 h, ru_n27 h, ru_m27 h, ru_n28 h, ru_m28 h, ru_n29 h, ru_m29 h, Option.bind_some, Option.toList_some, Option.toList_none, List.cons_append, List.nil_append, rm_ref_y h hn hu hc h1 h2, rm_spends h hn hc8, rm_cancel h hn hc8 hu hk, hc8, ↓reduceIte]
  by_cases e1 : f 41 0 c = 0
  · simp [e1, e4]
  · cases e2 : jq_sp (vr_E f) c (nI b) (f 43 0 c) <;> simp [e1, b0, b1]
theorem rm_btw (h : jl_R K g) {cc n u c b : Nat} (hn : jn_R f cc n) (hu : u < 4) (hc : c < cc) (h1 : 1 ≤ b) (h2 : b ≤ n) (hk : vr_cok f n c) : jx_m Z (d + 5) 89 [.inr (some (K.2.1 20 0)), .inl (nI u), .inl (nI c), .inl (nI b)] (jy_w K f g) = some (if f 41 0 c = 0 then (some (.inl (-4)), jy_w K f g) else if f 44 0 c = 0 ∨ f 43 0 c ≤ nI b ∨ jq_sp (vr_E f) c (nI b) (f 44 0 c) = false then (some (.inl (-5)), jy_w K f g) else (some (.inl 0), jy_w K (vr_can f n c u) g)) := by
  have hcc := hn.2.2.1
  have hc8 : c < 8 := by omega
  have b1 : ¬ jq_b true = 0 := by decide
  have b0 : jq_b false = 0 := by decide
  have e4 : ¬ (-4 : Int32) = 0 := by decide
  simp only [e_RM_between, x_RM_between_0, x_RM_between_1, x_RM_between_2, x_RM_between_3, x_RM_between_4, x_RM_between_7, x_RM_between_9, x_RM_between_11, x_RM_between_14, x_RM_between_16, x_RM_between_17, x_RM_between_18, x_RM_between_21, x_RM_between_22, x_RM_between_23, x_RM_between_26, x_RM_between_27, x_RM_between_28, x_RM_between_31, x_RM_between_32, x_RM_between_33, x_RM_between_36, x_RM_between_37, x_RM_between_38, x_RM_between_39, x_RM_between_40, x_RM_between_43, x_RM_between_44, x_RM_between_45, x_RM_between_48, x_RM_between_51, x_RM_between_53, x_RM_between_54, x_RM_between_55, x_RM_between_56, x_RM_between_57, x_RM_between_60, x_RM_between_61, ru_is h, ru_g0 h, ru_s0 h, ru_g1 h, ru_s1 h, ru_g2 h, ru_s2 h, ru_g3 h, ru_g4 h, ru_s4 h, ru_g5 h, ru_g6 h, ru_g7 h, ru_g8 h, ru_s8 h, ru_g9 h, ru_g10 h, ru_g11 h, ru_g12 h, ru_g13 h, ru_g14 h, ru_g15 h, ru_g16 h, ru_g17 h, ru_g18 h, ru_g19 h, ru_g20 h, ru_g21 h, ru_g22 h, ru_g23 h, ru_g24 h, ru_g25 h, ru_g26 h, ru_g27 h, ru_g28 h, ru_g29 h, ru_n3 h, ru_m3 h, ru_n5 h, ru_m5 h, ru_n6 h, ru_m6 h, ru_n7 h, ru_m7 h, ru_n9 h, ru_m9 h, ru_n10 h, ru_m10 h, ru_n11 h, ru_m11 h, ru_n12 h, ru_m12 h, ru_n13 h, ru_m13 h, ru_n14 h, ru_m14 h, ru_n15 h, ru_m15 h, ru_n16 h, ru_m16 h, ru_n17 h, ru_m17 h, ru_n18 h, ru_m18 h, ru_n19 h, ru_m19 h, ru_n20 h, ru_m20 h, ru_n21 h, ru_m21 h, ru_n22 h, ru_m22 h, ru_n23 h, ru_m23 h, ru_n24 h, ru_m24 h, ru_n25 h, ru_m25 h, ru_n26 h, ru_m26 h, ru_n27 h, ru_m27 h, ru_n28 h, ru_m28 h, ru_n29 h, ru_m29 h, Option.bind_some, Option.toList_some, Option.toList_none, List.cons_append, List.nil_append, rm_ref_y h hn hu hc h1 h2, rm_spends h hn hc8, rm_cancel h hn hc8 hu hk, hc8, ↓reduceIte]
  by_cases e1 : f 41 0 c = 0
  · simp [e1, e4]
  · by_cases e3 : f 44 0 c = 0
    · simp [e1, e3]
    · by_cases e5 : f 43 0 c ≤ nI b
      · simp [e1, e3, e5]
      · cases e2 : jq_sp (vr_E f) c (nI b) (f 44 0 c) <;> simp [e1, e3, e5, b0, b1]
theorem rm_bef (h : jl_R K g) {cc n u c b : Nat} (hn : jn_R f cc n) (hu : u < 4) (hc : c < cc) (h1 : 1 ≤ b) (h2 : b ≤ n) : jx_m Z (d + 4) 90 [.inr (some (K.2.1 20 0)), .inl (nI u), .inl (nI c), .inl (nI b)] (jy_w K f g) = some (if f 41 0 c = 0 then (some (.inl (-4)), jy_w K f g) else if f 20 0 1 / 2 < f 20 0 2 - f 45 0 c ∨ ¬ f 46 0 (25 * c + b) = 0 then (some (.inl (-4)), jy_w K f g) else if f 44 0 c ≤ nI b ∨ jq_gd (vr_E f) (nI b) c = false then (some (.inl (-5)), jy_w K f g) else if f 23 0 u < 2 then (some (.inl (-3)), jy_w K f g) else (some (.inl 0), jy_w K (vo_bef f u c b) g)) := by
  have hcc := hn.2.2.1
  have hnn := hn.2.2.2
  have hc8 : c < 8 := by omega
  have hk : 25 * c + b < 200 := by omega
  have b1 : ¬ jq_b true = 0 := by decide
  have b0 : jq_b false = 0 := by decide
  have e4 : ¬ (-4 : Int32) = 0 := by decide
  have e20 : ¬ (2 : Int32) = 0 := by decide
  simp only [e_RM_before, x_RM_before_0, x_RM_before_1, x_RM_before_2, x_RM_before_3, x_RM_before_4, x_RM_before_7, x_RM_before_9, x_RM_before_11, x_RM_before_14, x_RM_before_16, x_RM_before_17, x_RM_before_18, x_RM_before_21, x_RM_before_22, x_RM_before_25, x_RM_before_26, x_RM_before_27, x_RM_before_28, x_RM_before_29, x_RM_before_32, x_RM_before_33, x_RM_before_34, x_RM_before_37, x_RM_before_38, x_RM_before_41, x_RM_before_43, x_RM_before_44, x_RM_before_45, x_RM_before_46, x_RM_before_47, x_RM_before_48, x_RM_before_51, x_RM_before_53, x_RM_before_54, x_RM_before_55, x_RM_before_56, x_RM_before_59, x_RM_before_60, x_RM_before_61, x_RM_before_64, x_RM_before_65, x_RM_before_66, x_RM_before_67, x_RM_before_70, x_RM_before_73, x_RM_before_75, x_RM_before_76, x_RM_before_77, x_RM_before_80, x_RM_before_81, x_RM_before_82, x_RM_before_83, x_RM_before_86, x_RM_before_88, ru_is h, ru_g0 h, ru_s0 h, ru_g1 h, ru_s1 h, ru_g2 h, ru_s2 h, ru_g3 h, ru_g4 h, ru_s4 h, ru_g5 h, ru_g6 h, ru_g7 h, ru_g8 h, ru_s8 h, ru_g9 h, ru_g10 h, ru_g11 h, ru_g12 h, ru_g13 h, ru_g14 h, ru_g15 h, ru_g16 h, ru_g17 h, ru_g18 h, ru_g19 h, ru_g20 h, ru_g21 h, ru_g22 h, ru_g23 h, ru_g24 h, ru_g25 h, ru_g26 h, ru_g27 h, ru_g28 h, ru_g29 h, ru_n3 h, ru_m3 h, ru_n5 h, ru_m5 h, ru_n6 h, ru_m6 h, ru_n7 h, ru_m7 h, ru_n9 h, ru_m9 h, ru_n10 h, ru_m10 h, ru_n11 h, ru_m11 h, ru_n12 h, ru_m12 h, ru_n13 h, ru_m13 h, ru_n14 h, ru_m14 h, ru_n15 h, ru_m15 h, ru_n16 h, ru_m16 h, ru_n17 h, ru_m17 h, ru_n18 h, ru_m18 h, ru_n19 h, ru_m19 h, ru_n20 h, ru_m20 h, ru_n21 h, ru_m21 h, ru_n22 h, ru_m22 h, ru_n23 h, ru_m23 h, ru_n24 h, ru_m24 h, ru_n25 h, ru_m25 h, ru_n26 h, ru_m26 h, ru_n27 h, ru_m27 h, ru_n28 h, ru_m28 h, ru_n29 h, ru_m29 h, Option.bind_some, Option.toList_some, Option.toList_none, List.cons_append, List.nil_append, rm_ref_y h hn hu hc h1 h2, rm_good h hn hc8, hc8, hk, hu, jz_25i, e20, ↓reduceIte]
  by_cases e1 : f 41 0 c = 0
  · simp [e1, e4]
  · by_cases e3 : f 20 0 1 / 2 < f 20 0 2 - f 45 0 c
    · simp [e1, e3]
    · by_cases e5 : f 46 0 (25 * c + b) = 0
      · by_cases e6 : f 44 0 c ≤ nI b
        · simp [e1, e3, e5, e6]
        · cases e2 : jq_gd (vr_E f) (nI b) c with
          | false => simp [e1, e3, e5, e6, b0]
          | true =>
            by_cases e7 : f 23 0 u < 2
            · have e7' : ¬ (2 : Int32) ≤ f 23 0 u := Int32.not_le.mpr e7
              simp [e1, e3, e5, e6, b1, e7, e7']
            · have e7' : (2 : Int32) ≤ f 23 0 u := Int32.not_lt.mp e7
              have go : jx_run Z jX_RM_before (jx_m Z (d + 3)) (89, [some (.inr (some (K.2.1 20 0))), some (.inl (nI u)), some (.inl (nI c)), some (.inl (nI b)), some (.inl 0)], [], jy_w K f g) = some (some (.inl 0), jy_w K (vo_bef f u c b) g) := by
                simp only [x_RM_before_89, x_RM_before_90, x_RM_before_93, x_RM_before_94, x_RM_before_95, x_RM_before_96, x_RM_before_97, x_RM_before_98, x_RM_before_99, x_RM_before_100, x_RM_before_103, x_RM_before_105, x_RM_before_106, x_RM_before_107, x_RM_before_108, x_RM_before_109, x_RM_before_110, x_RM_before_111, x_RM_before_112, x_RM_before_115, x_RM_before_117, x_RM_before_118, x_RM_before_119, x_RM_before_120, x_RM_before_121, x_RM_before_122, x_RM_before_123, x_RM_before_124, x_RM_before_127, x_RM_before_129, x_RM_before_130, x_RM_before_131, x_RM_before_132, x_RM_before_133, x_RM_before_134, x_RM_before_135, x_RM_before_136, ru_is h, ru_g0 h, ru_s0 h, ru_g1 h, ru_s1 h, ru_g2 h, ru_s2 h, ru_g3 h, ru_g4 h, ru_s4 h, ru_g5 h, ru_g6 h, ru_g7 h, ru_g8 h, ru_s8 h, ru_g9 h, ru_g10 h, ru_g11 h, ru_g12 h, ru_g13 h, ru_g14 h, ru_g15 h, ru_g16 h, ru_g17 h, ru_g18 h, ru_g19 h, ru_g20 h, ru_g21 h, ru_g22 h, ru_g23 h, ru_g24 h, ru_g25 h, ru_g26 h, ru_g27 h, ru_g28 h, ru_g29 h, ru_n3 h, ru_m3 h, ru_n5 h, ru_m5 h, ru_n6 h, ru_m6 h, ru_n7 h, ru_m7 h, ru_n9 h, ru_m9 h, ru_n10 h, ru_m10 h, ru_n11 h, ru_m11 h, ru_n12 h, ru_m12 h, ru_n13 h, ru_m13 h, ru_n14 h, ru_m14 h, ru_n15 h, ru_m15 h, ru_n16 h, ru_m16 h, ru_n17 h, ru_m17 h, ru_n18 h, ru_m18 h, ru_n19 h, ru_m19 h, ru_n20 h, ru_m20 h, ru_n21 h, ru_m21 h, ru_n22 h, ru_m22 h, ru_n23 h, ru_m23 h, ru_n24 h, ru_m24 h, ru_n25 h, ru_m25 h, ru_n26 h, ru_m26 h, ru_n27 h, ru_m27 h, ru_n28 h, ru_m28 h, ru_n29 h, ru_m29 h, Option.bind_some, Option.toList_some, Option.toList_none, List.cons_append, List.nil_append, hu, hk, jz_25i, ↓reduceIte, or_true]
                rfl
              simp [e1, e3, e5, e6, b1, e7, e7']
              exact go
      · simp [e1, e3, e5]
theorem rm_ans_n (h : jl_R K g) {c b e : Int32} (hb : (c < 0 ∨ f 20 0 4 ≤ c) ∨ (b < 1 ∨ f 20 0 8 < b) ∨ (e < 1 ∨ f 20 0 8 < e)) : jx_m Z (d + 2) 91 [.inr (some (K.2.1 20 0)), .inl c, .inl b, .inl e] (jy_w K f g) = some (some (.inl (-1)), jy_w K f g) := by
  simp only [e_RM_answer, x_RM_answer_0, x_RM_answer_1, x_RM_answer_2, x_RM_answer_5, x_RM_answer_8, x_RM_answer_9, x_RM_answer_10, x_RM_answer_13, x_RM_answer_16, x_RM_answer_17, x_RM_answer_18, x_RM_answer_21, x_RM_answer_24, x_RM_answer_25, Option.bind_some, Option.toList_some, Option.toList_none, List.cons_append, List.nil_append, ru_is h, ↓reduceIte, rm_isCoin h, rm_isBlock h]
  by_cases e1 : c < 0 ∨ f 20 0 4 ≤ c
  · simp [e1]
  · by_cases e2 : b < 1 ∨ f 20 0 8 < b
    · simp [e1, e2]
    · have e3 : e < 1 ∨ f 20 0 8 < e := by
        rcases hb with hb | hb | hb
        · exact absurd hb e1
        · exact absurd hb e2
        · exact hb
      simp [e1, e2, e3]
theorem rm_ans (h : jl_R K g) {cc n c b e : Nat} (hn : jn_R f cc n) (hc : c < cc) (h1 : 1 ≤ b) (h2 : b ≤ n) (h3 : 1 ≤ e) (h4 : e ≤ n) {x : Nat} (hx : ¬ f 41 0 c = 0 → x < 4 ∧ f 42 0 c = nI x) : jx_m Z (d + 5) 91 [.inr (some (K.2.1 20 0)), .inl (nI c), .inl (nI b), .inl (nI e)] (jy_w K f g) = some (if f 41 0 c = 0 ∨ vr_std f c b = false then (some (.inl (-4)), jy_w K f g) else if f 44 0 c < nI e ∨ jq_sp (vr_E f) c (nI e) (nI b) = false then (some (.inl (-5)), jy_w K f g) else (some (.inl 0), jy_w K (vo_ans f c b x) g)) := by
  have hcc := hn.2.2.1
  have hnn := hn.2.2.2
  have hc8 : c < 8 := by omega
  have hk : 25 * c + b < 200 := by omega
  have b1 : ¬ jq_b true = 0 := by decide
  have b0 : jq_b false = 0 := by decide
  simp only [e_RM_answer, x_RM_answer_0, x_RM_answer_1, x_RM_answer_2, x_RM_answer_5, x_RM_answer_8, x_RM_answer_9, x_RM_answer_10, x_RM_answer_13, x_RM_answer_16, x_RM_answer_17, x_RM_answer_18, x_RM_answer_21, x_RM_answer_24, x_RM_answer_25, x_RM_answer_26, x_RM_answer_27, x_RM_answer_30, x_RM_answer_31, x_RM_answer_32, x_RM_answer_35, x_RM_answer_36, x_RM_answer_39, x_RM_answer_41, x_RM_answer_42, x_RM_answer_43, x_RM_answer_44, x_RM_answer_45, x_RM_answer_46, x_RM_answer_49, x_RM_answer_51, x_RM_answer_52, x_RM_answer_53, x_RM_answer_54, x_RM_answer_57, x_RM_answer_58, x_RM_answer_59, x_RM_answer_62, x_RM_answer_63, x_RM_answer_64, x_RM_answer_65, x_RM_answer_66, x_RM_answer_69, x_RM_answer_72, x_RM_answer_74, ru_is h, ru_g0 h, ru_s0 h, ru_g1 h, ru_s1 h, ru_g2 h, ru_s2 h, ru_g3 h, ru_g4 h, ru_s4 h, ru_g5 h, ru_g6 h, ru_g7 h, ru_g8 h, ru_s8 h, ru_g9 h, ru_g10 h, ru_g11 h, ru_g12 h, ru_g13 h, ru_g14 h, ru_g15 h, ru_g16 h, ru_g17 h, ru_g18 h, ru_g19 h, ru_g20 h, ru_g21 h, ru_g22 h, ru_g23 h, ru_g24 h, ru_g25 h, ru_g26 h, ru_g27 h, ru_g28 h, ru_g29 h, ru_n3 h, ru_m3 h, ru_n5 h, ru_m5 h, ru_n6 h, ru_m6 h, ru_n7 h, ru_m7 h, ru_n9 h, ru_m9 h, ru_n10 h, ru_m10 h, ru_n11 h, ru_m11 h, ru_n12 h, ru_m12 h, ru_n13 h, ru_m13 h, ru_n14 h, ru_m14 h, ru_n15 h, ru_m15 h, ru_n16 h, ru_m16 h, ru_n17 h, ru_m17 h, ru_n18 h, ru_m18 h, ru_n19 h, ru_m19 h, ru_n20 h, ru_m20 h, ru_n21 h, ru_m21 h, ru_n22 h, ru_m22 h, ru_n23 h, ru_m23 h, ru_n24 h, ru_m24 h, ru_n25 h, ru_m25 h, ru_n26 h, ru_m26 h, ru_n27 h, ru_m27 h, ru_n28 h, ru_m28 h, ru_n29 h, ru_m29 h, Option.bind_some, Option.toList_some, Option.toList_none, List.cons_append, List.nil_append, rm_coin_y h hn hc, rm_block_y h hn h1 h2, rm_block_y h hn h3 h4, rm_spends h hn hc8, hc8, hk, jz_25i, ↓reduceIte]
  by_cases e1 : f 41 0 c = 0
  · simp [e1]
  · obtain ⟨hx4, hxe⟩ := hx e1
    by_cases e2 : f 47 0 (25 * c + b) = 0
    · have e2' : vr_std f c b = false := by simp [vr_std, e2]
      simp [e1, e2, e2']
    · have e2' : vr_std f c b = true := by simp [vr_std, e2]
      by_cases e3 : f 44 0 c < nI e
      · simp [e1, e2, e2', e3]
      · cases e5 : jq_sp (vr_E f) c (nI e) (nI b) with
        | false => simp [e1, e2, e2', e3, b0]
        | true =>
          have go : jx_run Z jX_RM_answer (jx_m Z (d + 4)) (75, [some (.inr (some (K.2.1 20 0))), some (.inl (nI c)), some (.inl (nI b)), some (.inl (nI e))], [], jy_w K f g) = some (some (.inl 0), jy_w K (vo_ans f c b x) g) := by
            simp only [x_RM_answer_75, x_RM_answer_76, x_RM_answer_79, x_RM_answer_81, x_RM_answer_82, x_RM_answer_83, x_RM_answer_84, x_RM_answer_85, x_RM_answer_86, x_RM_answer_87, x_RM_answer_88, x_RM_answer_91, x_RM_answer_92, x_RM_answer_95, x_RM_answer_96, x_RM_answer_97, x_RM_answer_98, x_RM_answer_99, x_RM_answer_100, x_RM_answer_101, x_RM_answer_102, x_RM_answer_103, ru_is h, ru_g0 h, ru_s0 h, ru_g1 h, ru_s1 h, ru_g2 h, ru_s2 h, ru_g3 h, ru_g4 h, ru_s4 h, ru_g5 h, ru_g6 h, ru_g7 h, ru_g8 h, ru_s8 h, ru_g9 h, ru_g10 h, ru_g11 h, ru_g12 h, ru_g13 h, ru_g14 h, ru_g15 h, ru_g16 h, ru_g17 h, ru_g18 h, ru_g19 h, ru_g20 h, ru_g21 h, ru_g22 h, ru_g23 h, ru_g24 h, ru_g25 h, ru_g26 h, ru_g27 h, ru_g28 h, ru_g29 h, ru_n3 h, ru_m3 h, ru_n5 h, ru_m5 h, ru_n6 h, ru_m6 h, ru_n7 h, ru_m7 h, ru_n9 h, ru_m9 h, ru_n10 h, ru_m10 h, ru_n11 h, ru_m11 h, ru_n12 h, ru_m12 h, ru_n13 h, ru_m13 h, ru_n14 h, ru_m14 h, ru_n15 h, ru_m15 h, ru_n16 h, ru_m16 h, ru_n17 h, ru_m17 h, ru_n18 h, ru_m18 h, ru_n19 h, ru_m19 h, ru_n20 h, ru_m20 h, ru_n21 h, ru_m21 h, ru_n22 h, ru_m22 h, ru_n23 h, ru_m23 h, ru_n24 h, ru_m24 h, ru_n25 h, ru_m25 h, ru_n26 h, ru_m26 h, ru_n27 h, ru_m27 h, ru_n28 h, ru_m28 h, ru_n29 h, ru_m29 h, Option.bind_some, Option.toList_some, Option.toList_none, List.cons_append, List.nil_append, hc8, hk, jz_25i, hxe, hx4, jy_up_self, jy_up_k, jy_up_j, Nat.reduceEqDiff, not_false_eq_true, reduceCtorEq, Nat.reduceAdd, ↓reduceIte, true_or]
            rfl
          simp [e1, e2, e2', e3, b1]
          exact go
theorem rm_fin_n (h : jl_R K g) {c : Int32} (hb : c < 0 ∨ f 20 0 4 ≤ c) : jx_m Z (d + 2) 92 [.inr (some (K.2.1 20 0)), .inl c] (jy_w K f g) = some (some (.inl (-1)), jy_w K f g) := by
  simp only [e_RM_finalise, x_RM_finalise_0, x_RM_finalise_1, x_RM_finalise_2, x_RM_finalise_5, x_RM_finalise_8, x_RM_finalise_9, Option.bind_some, Option.toList_some, Option.toList_none, List.cons_append, List.nil_append, ru_is h, ↓reduceIte, rm_isCoin h]
  simp [hb]
theorem rm_fin_l (h : jl_R K g) {c : Nat} (hc : c < 8) : ∀ b r : Nat, b ≤ 24 → jx_run Z jX_RM_finalise call (47, [some (.inr (some (K.2.1 20 0))), some (.inl (nI c)), some (.inl (nI r)), some (.inl (nI b))], [], jy_w K f g) = jx_run Z jX_RM_finalise call (78, [some (.inr (some (K.2.1 20 0))), some (.inl (nI c)), some (.inl (nI (jq_dn (vr_std f c) 0 b r))), some (.inl (nI 0))], [], jy_w K f g) := by
  intro b
  induction b with
  | zero =>
    intro r _
    have h0 : nI 0 < 1 := by decide
    rw [x_RM_finalise_47]
    simp only [x_RM_finalise_48, x_RM_finalise_49, x_RM_finalise_52, x_RM_finalise_53, x_RM_finalise_56, x_RM_finalise_58, x_RM_finalise_59, x_RM_finalise_60, x_RM_finalise_61, x_RM_finalise_62, x_RM_finalise_63, x_RM_finalise_66, x_RM_finalise_67, x_RM_finalise_70, x_RM_finalise_71, x_RM_finalise_72, x_RM_finalise_75, h0, ↓reduceIte]
    rfl
  | succ b ih =>
    intro r hb
    have h0 : ¬ nI (b + 1) < 1 := nI_nlt (b := 1) (by omega) (by omega)
    have hk : 25 * c + (b + 1) < 200 := by omega
    have hb0 : 0 < b + 1 := by omega
    rw [x_RM_finalise_47]
    simp only [x_RM_finalise_48, x_RM_finalise_49, x_RM_finalise_52, x_RM_finalise_53, x_RM_finalise_56, x_RM_finalise_58, x_RM_finalise_59, x_RM_finalise_60, x_RM_finalise_61, x_RM_finalise_62, x_RM_finalise_63, x_RM_finalise_66, x_RM_finalise_67, x_RM_finalise_70, x_RM_finalise_71, x_RM_finalise_72, x_RM_finalise_75, ru_is h, ru_g0 h, ru_s0 h, ru_g1 h, ru_s1 h, ru_g2 h, ru_s2 h, ru_g3 h, ru_g4 h, ru_s4 h, ru_g5 h, ru_g6 h, ru_g7 h, ru_g8 h, ru_s8 h, ru_g9 h, ru_g10 h, ru_g11 h, ru_g12 h, ru_g13 h, ru_g14 h, ru_g15 h, ru_g16 h, ru_g17 h, ru_g18 h, ru_g19 h, ru_g20 h, ru_g21 h, ru_g22 h, ru_g23 h, ru_g24 h, ru_g25 h, ru_g26 h, ru_g27 h, ru_g28 h, ru_g29 h, ru_n3 h, ru_m3 h, ru_n5 h, ru_m5 h, ru_n6 h, ru_m6 h, ru_n7 h, ru_m7 h, ru_n9 h, ru_m9 h, ru_n10 h, ru_m10 h, ru_n11 h, ru_m11 h, ru_n12 h, ru_m12 h, ru_n13 h, ru_m13 h, ru_n14 h, ru_m14 h, ru_n15 h, ru_m15 h, ru_n16 h, ru_m16 h, ru_n17 h, ru_m17 h, ru_n18 h, ru_m18 h, ru_n19 h, ru_m19 h, ru_n20 h, ru_m20 h, ru_n21 h, ru_m21 h, ru_n22 h, ru_m22 h, ru_n23 h, ru_m23 h, ru_n24 h, ru_m24 h, ru_n25 h, ru_m25 h, ru_n26 h, ru_m26 h, ru_n27 h, ru_m27 h, ru_n28 h, ru_m28 h, ru_n29 h, ru_m29 h, Option.bind_some, Option.toList_some, Option.toList_none, List.cons_append, List.nil_append, h0, ↓reduceIte, jz_25i, hk, jz_dec]
    simp only [jq_dn, hb0, if_true]
    by_cases e : f 47 0 (25 * c + (b + 1)) = 0
    · have e' : vr_std f c (b + 1) = false := by simp [vr_std, e]
      simp only [e, e', ↓reduceIte, Bool.false_eq_true]
      exact ih r (by omega)
    · have e' : vr_std f c (b + 1) = true := by simp [vr_std, e]
      simp only [e, e', ↓reduceIte]
      exact ih (b + 1) (by omega)
def vr_lst (f : jy_I) (n c : Nat) : Nat := jq_dn (vr_std f c) 0 n 0
theorem rm_fin (h : jl_R K g) {cc n c : Nat} (hn : jn_R f cc n) (hc : c < cc) (hk : vr_cok f n c) {x : Nat} (hx : ¬ f 41 0 c = 0 → x < 4 ∧ f 42 0 c = nI x) : jx_m Z (d + 2) 92 [.inr (some (K.2.1 20 0)), .inl (nI c)] (jy_w K f g) = some (if f 41 0 c = 0 ∨ f 20 0 2 - f 45 0 c < f 20 0 1 then (some (.inl (-4)), jy_w K f g) else if 0 < vr_lst f n c then (some (.inl 0), jy_w K (vr_can f n c (vr_ch f c (vr_lst f n c))) g) else (some (.inl 1), jy_w K (vo_fin f c x) g)) := by
  have hcc := hn.2.2.1
  have hnn := hn.2.2.2
  have hc8 : c < 8 := by omega
  have L := rm_fin_l (Z := Z) (call := jx_m Z (d + 1)) (f := f) h hc8 n 0 hnn
  simp only [e_RM_finalise, x_RM_finalise_0, x_RM_finalise_1, x_RM_finalise_2, x_RM_finalise_5, x_RM_finalise_8, x_RM_finalise_9, x_RM_finalise_10, x_RM_finalise_11, x_RM_finalise_14, x_RM_finalise_15, x_RM_finalise_16, x_RM_finalise_19, x_RM_finalise_20, x_RM_finalise_23, x_RM_finalise_24, x_RM_finalise_27, x_RM_finalise_28, x_RM_finalise_29, x_RM_finalise_30, x_RM_finalise_31, x_RM_finalise_34, x_RM_finalise_37, x_RM_finalise_39, x_RM_finalise_40, x_RM_finalise_41, x_RM_finalise_42, x_RM_finalise_43, x_RM_finalise_46, ru_is h, ru_g0 h, ru_s0 h, ru_g1 h, ru_s1 h, ru_g2 h, ru_s2 h, ru_g3 h, ru_g4 h, ru_s4 h, ru_g5 h, ru_g6 h, ru_g7 h, ru_g8 h, ru_s8 h, ru_g9 h, ru_g10 h, ru_g11 h, ru_g12 h, ru_g13 h, ru_g14 h, ru_g15 h, ru_g16 h, ru_g17 h, ru_g18 h, ru_g19 h, ru_g20 h, ru_g21 h, ru_g22 h, ru_g23 h, ru_g24 h, ru_g25 h, ru_g26 h, ru_g27 h, ru_g28 h, ru_g29 h, ru_n3 h, ru_m3 h, ru_n5 h, ru_m5 h, ru_n6 h, ru_m6 h, ru_n7 h, ru_m7 h, ru_n9 h, ru_m9 h, ru_n10 h, ru_m10 h, ru_n11 h, ru_m11 h, ru_n12 h, ru_m12 h, ru_n13 h, ru_m13 h, ru_n14 h, ru_m14 h, ru_n15 h, ru_m15 h, ru_n16 h, ru_m16 h, ru_n17 h, ru_m17 h, ru_n18 h, ru_m18 h, ru_n19 h, ru_m19 h, ru_n20 h, ru_m20 h, ru_n21 h, ru_m21 h, ru_n22 h, ru_m22 h, ru_n23 h, ru_m23 h, ru_n24 h, ru_m24 h, ru_n25 h, ru_m25 h, ru_n26 h, ru_m26 h, ru_n27 h, ru_m27 h, ru_n28 h, ru_m28 h, ru_n29 h, ru_m29 h, Option.bind_some, Option.toList_some, Option.toList_none, List.cons_append, List.nil_append, rm_coin_y h hn hc, hc8, hn.2.1, ↓reduceIte]
  by_cases e1 : f 41 0 c = 0
  · simp [e1]
  · obtain ⟨hx4, hxe⟩ := hx e1
    by_cases e2 : f 20 0 2 - f 45 0 c < f 20 0 1
    · have e2' : ¬ f 20 0 1 ≤ f 20 0 2 - f 45 0 c := Int32.not_le.mpr e2
      simp [e1, e2, e2']
    · have e2' : f 20 0 1 ≤ f 20 0 2 - f 45 0 c := Int32.not_lt.mp e2
      have go : jx_run Z jX_RM_finalise (jx_m Z (d + 1)) (78, [some (.inr (some (K.2.1 20 0))), some (.inl (nI c)), some (.inl (nI (vr_lst f n c))), some (.inl (nI 0))], [], jy_w K f g) = some (if 0 < vr_lst f n c then (some (.inl 0), jy_w K (vr_can f n c (vr_ch f c (vr_lst f n c))) g) else (some (.inl 1), jy_w K (vo_fin f c x) g)) := by
        rcases jq_dn_in (P := vr_std f c) (a := 0) n 0 with q | ⟨q1, q2, q3⟩
        · have q : vr_lst f n c = 0 := q
          have e0 : nI 0 ≤ 0 := by decide
          rw [q]
          simp only [x_RM_finalise_78, x_RM_finalise_79, x_RM_finalise_82, x_RM_finalise_83, x_RM_finalise_84, x_RM_finalise_85, x_RM_finalise_88, x_RM_finalise_90, x_RM_finalise_91, x_RM_finalise_92, x_RM_finalise_93, x_RM_finalise_94, x_RM_finalise_95, x_RM_finalise_98, x_RM_finalise_99, x_RM_finalise_100, x_RM_finalise_101, x_RM_finalise_104, x_RM_finalise_105, x_RM_finalise_106, x_RM_finalise_107, x_RM_finalise_108, x_RM_finalise_111, x_RM_finalise_112, x_RM_finalise_113, x_RM_finalise_114, x_RM_finalise_115, x_RM_finalise_118, x_RM_finalise_119, x_RM_finalise_122, x_RM_finalise_123, x_RM_finalise_124, x_RM_finalise_125, x_RM_finalise_126, x_RM_finalise_127, x_RM_finalise_130, x_RM_finalise_131, x_RM_finalise_132, x_RM_finalise_134, x_RM_finalise_135, x_RM_finalise_136, x_RM_finalise_137, x_RM_finalise_138, ru_is h, ru_g0 h, ru_s0 h, ru_g1 h, ru_s1 h, ru_g2 h, ru_s2 h, ru_g3 h, ru_g4 h, ru_s4 h, ru_g5 h, ru_g6 h, ru_g7 h, ru_g8 h, ru_s8 h, ru_g9 h, ru_g10 h, ru_g11 h, ru_g12 h, ru_g13 h, ru_g14 h, ru_g15 h, ru_g16 h, ru_g17 h, ru_g18 h, ru_g19 h, ru_g20 h, ru_g21 h, ru_g22 h, ru_g23 h, ru_g24 h, ru_g25 h, ru_g26 h, ru_g27 h, ru_g28 h, ru_g29 h, ru_n3 h, ru_m3 h, ru_n5 h, ru_m5 h, ru_n6 h, ru_m6 h, ru_n7 h, ru_m7 h, ru_n9 h, ru_m9 h, ru_n10 h, ru_m10 h, ru_n11 h, ru_m11 h, ru_n12 h, ru_m12 h, ru_n13 h, ru_m13 h, ru_n14 h, ru_m14 h, ru_n15 h, ru_m15 h, ru_n16 h, ru_m16 h, ru_n17 h, ru_m17 h, ru_n18 h, ru_m18 h, ru_n19 h, ru_m19 h, ru_n20 h, ru_m20 h, ru_n21 h, ru_m21 h, ru_n22 h, ru_m22 h, ru_n23 h, ru_m23 h, ru_n24 h, ru_m24 h, ru_n25 h, ru_m25 h, ru_n26 h, ru_m26 h, ru_n27 h, ru_m27 h, ru_n28 h, ru_m28 h, ru_n29 h, ru_m29 h, Option.bind_some, Option.toList_some, Option.toList_none, List.cons_append, List.nil_append, e0, hc8, hxe, hx4, jy_up_self, jy_up_k, jy_up_j, Nat.reduceEqDiff, not_false_eq_true, reduceCtorEq, Nat.reduceAdd, ↓reduceIte, true_or, or_true, Nat.lt_irrefl]
          rfl
        · have q1 : 0 < vr_lst f n c := q1
          have q2 : vr_lst f n c ≤ n := q2
          obtain ⟨u, hu, hcu⟩ := hk _ q1 q2 q3
          have hcc : vr_ch f c (vr_lst f n c) = u := by unfold vr_ch; exact jz_of hcu (by omega)
          have hcu : f 48 0 (25 * c + vr_lst f n c) = nI u := hcu
          have e0 : ¬ nI (vr_lst f n c) ≤ 0 := nI_nle q1 (by omega)
          have hkk : 25 * c + vr_lst f n c < 200 := by omega
          rw [hcc]
          simp only [x_RM_finalise_78, x_RM_finalise_79, x_RM_finalise_82, x_RM_finalise_83, x_RM_finalise_84, x_RM_finalise_85, x_RM_finalise_88, x_RM_finalise_90, x_RM_finalise_91, x_RM_finalise_92, x_RM_finalise_93, x_RM_finalise_94, x_RM_finalise_95, x_RM_finalise_98, x_RM_finalise_99, x_RM_finalise_100, x_RM_finalise_101, x_RM_finalise_104, x_RM_finalise_105, x_RM_finalise_106, x_RM_finalise_107, x_RM_finalise_108, x_RM_finalise_111, x_RM_finalise_112, x_RM_finalise_113, x_RM_finalise_114, x_RM_finalise_115, x_RM_finalise_118, x_RM_finalise_119, x_RM_finalise_122, x_RM_finalise_123, x_RM_finalise_124, x_RM_finalise_125, x_RM_finalise_126, x_RM_finalise_127, x_RM_finalise_130, x_RM_finalise_131, x_RM_finalise_132, x_RM_finalise_134, x_RM_finalise_135, x_RM_finalise_136, x_RM_finalise_137, x_RM_finalise_138, ru_is h, ru_g0 h, ru_s0 h, ru_g1 h, ru_s1 h, ru_g2 h, ru_s2 h, ru_g3 h, ru_g4 h, ru_s4 h, ru_g5 h, ru_g6 h, ru_g7 h, ru_g8 h, ru_s8 h, ru_g9 h, ru_g10 h, ru_g11 h, ru_g12 h, ru_g13 h, ru_g14 h, ru_g15 h, ru_g16 h, ru_g17 h, ru_g18 h, ru_g19 h, ru_g20 h, ru_g21 h, ru_g22 h, ru_g23 h, ru_g24 h, ru_g25 h, ru_g26 h, ru_g27 h, ru_g28 h, ru_g29 h, ru_n3 h, ru_m3 h, ru_n5 h, ru_m5 h, ru_n6 h, ru_m6 h, ru_n7 h, ru_m7 h, ru_n9 h, ru_m9 h, ru_n10 h, ru_m10 h, ru_n11 h, ru_m11 h, ru_n12 h, ru_m12 h, ru_n13 h, ru_m13 h, ru_n14 h, ru_m14 h, ru_n15 h, ru_m15 h, ru_n16 h, ru_m16 h, ru_n17 h, ru_m17 h, ru_n18 h, ru_m18 h, ru_n19 h, ru_m19 h, ru_n20 h, ru_m20 h, ru_n21 h, ru_m21 h, ru_n22 h, ru_m22 h, ru_n23 h, ru_m23 h, ru_n24 h, ru_m24 h, ru_n25 h, ru_m25 h, ru_n26 h, ru_m26 h, ru_n27 h, ru_m27 h, ru_n28 h, ru_m28 h, ru_n29 h, ru_m29 h, Option.bind_some, Option.toList_some, Option.toList_none, List.cons_append, List.nil_append, e0, hkk, hcu, jz_25i, rm_cancel h hn hc8 hu hk, q1, ↓reduceIte]
      simp [e1, e2, e2']
      exact L.trans go
end RI
