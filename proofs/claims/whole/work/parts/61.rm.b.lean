/-! the reference: entries, what is good, what spends; next and latest -/
theorem jz_mul (a b : Nat) : nI a * nI b = nI (a * b) := (Int32.ofNat_mul a b).symm
theorem jz_add (a b : Nat) : nI a + nI b = nI (a + b) := (Int32.ofNat_add a b).symm
theorem jz_8i (b c : Nat) : (8 : Int32) * nI b + nI c = nI (8 * b + c) := by
  show nI 8 * nI b + nI c = _
  rw [jz_mul, jz_add]
theorem jz_25i (b c : Nat) : (25 : Int32) * nI b + nI c = nI (25 * b + c) := by
  show nI 25 * nI b + nI c = _
  rw [jz_mul, jz_add]
theorem jz_inc (n : Nat) : nI n + 1 = nI (n + 1) := (nI_succ n).symm
theorem jz_dec (n : Nat) : nI (n + 1) + (-1) = nI n := by
  rw [nI_succ]
  show nI n + 1 + -1 = nI n
  rw [Int32.add_assoc]
  show nI n + 0 = nI n
  rw [Int32.add_zero]
def jq_b (b : Bool) : Int32 := if b = true then 1 else 0
abbrev jq_T : Type := Int32 × Int32 × Int32 × Int32 × Int32
abbrev jq_E : Type := Int32 → Nat → Option jq_T
/-- the reference's entry: deposit, prev, from (0 for a deposit), to, good -/
def vr_e (f : jy_I) (b c : Nat) : Option jq_T := if f 30 0 (8 * b + c) = 0 then none else some (f 31 0 (8 * b + c), f 32 0 (8 * b + c), if f 31 0 (8 * b + c) = 0 then f 33 0 (8 * b + c) else 0, f 34 0 (8 * b + c), jq_b (decide (¬ f 31 0 (8 * b + c) = 0 ∨ f 35 0 (8 * b + c) = jq_sig (f 20 0 0) (f 33 0 (8 * b + c)) (nI c) (f 32 0 (8 * b + c)) (f 34 0 (8 * b + c)))))
def vr_E (f : jy_I) : jq_E := fun b c => if b < 1 ∨ f 20 0 8 < b then none else vr_e f b.toNatClampNeg c
def jq_gd (E : jq_E) (b : Int32) (c : Nat) : Bool := match E b c with
  | none => false
  | some e => decide (¬ e.2.2.2.2 = 0)
def jq_sp (E : jq_E) (c : Nat) (b a : Int32) : Bool := match E b c with
  | none => false
  | some e => match E a c with
    | none => false
    | some e' => decide (e.1 = 0 ∧ ¬ e.2.2.2.2 = 0 ∧ e.2.1 = a ∧ a < b ∧ ¬ e'.2.2.2.2 = 0 ∧ e'.2.2.2.1 = e.2.2.1)
/-- the numbers of coins and blocks -/
def jn_R (f : jy_I) (cc n : Nat) : Prop := f 20 0 4 = nI cc ∧ f 20 0 8 = nI n ∧ cc ≤ 8 ∧ n ≤ 24
theorem jz_blk {f : jy_I} {n : Nat} {b : Int32} (hn : f 20 0 8 = nI n) (h24 : n ≤ 24) (h : ¬ (b < 1 ∨ f 20 0 8 < b)) : ∃ k : Nat, b = nI k ∧ 1 ≤ k ∧ k ≤ n := by
  rw [hn, Int32.lt_iff_toInt_lt, Int32.lt_iff_toInt_lt, nI_toInt (by omega), jz_1] at h
  exact ⟨b.toNatClampNeg, (jz_nI (by omega)).symm, by rw [jz_cl]; omega, by rw [jz_cl]; omega⟩
section RB
variable {Z : jx_Sc} {d : Nat} {K : jy_K} {f : jy_I} {g : jy_R}
theorem rm_good (h : jl_R K g) {cc n c : Nat} {b : Int32} (hn : jn_R f cc n) (hc : c < 8) : jx_m Z (d + 3) 84 [.inr (some (K.2.1 20 0)), .inl b, .inl (nI c)] (jy_w K f g) = some (some (.inl (jq_b (jq_gd (vr_E f) b c))), jy_w K f g) := by
  by_cases hb : b < 1 ∨ f 20 0 8 < b
  · simp only [e_RM_good, x_RM_good_0, x_RM_good_2, x_RM_good_3, x_RM_good_4, x_RM_good_5, x_RM_good_6, x_RM_good_7, x_RM_good_8, x_RM_good_9, x_RM_good_12, x_RM_good_15, x_RM_good_16, x_RM_good_19, x_RM_good_20, x_RM_good_21, x_RM_good_24, x_RM_good_25, x_RM_good_28, x_RM_good_29, x_RM_good_30, x_RM_good_33, x_RM_good_34, x_RM_good_37, x_RM_good_38, x_RM_good_39, x_RM_good_40, x_RM_good_41, x_RM_good_44, x_RM_good_45, x_RM_good_46, x_RM_good_47, x_RM_good_48, x_RM_good_51, x_RM_good_52, x_RM_good_53, x_RM_good_54, x_RM_good_57, x_RM_good_58, x_RM_good_59, x_RM_good_62, x_RM_good_65, x_RM_good_66, x_RM_good_69, x_RM_good_70, ru_is h, ru_g0 h, ru_s0 h, ru_g1 h, ru_s1 h, ru_g2 h, ru_s2 h, ru_g3 h, ru_g4 h, ru_s4 h, ru_g5 h, ru_g6 h, ru_g7 h, ru_g8 h, ru_s8 h, ru_g9 h, ru_g10 h, ru_g11 h, ru_g12 h, ru_g13 h, ru_g14 h, ru_g15 h, ru_g16 h, ru_g17 h, ru_g18 h, ru_g19 h, ru_g20 h, ru_g21 h, ru_g22 h, ru_g23 h, ru_g24 h, ru_g25 h, ru_g26 h, ru_g27 h, ru_g28 h, ru_g29 h, rm_isBlock h, Option.bind_some, Option.toList_some, List.cons_append, List.nil_append, hb, if_true]
    simp [jq_gd, vr_E, hb, jq_b]
  · obtain ⟨k, rfl, h1, h2⟩ := jz_blk hn.2.1 hn.2.2.2 hb
    have hk : 8 * k + c < 200 := by have := hn.2.2.2; omega
    have hkc : (nI k).toNatClampNeg = k := nI_clamp (by omega)
    simp only [e_RM_good, x_RM_good_0, x_RM_good_2, x_RM_good_3, x_RM_good_4, x_RM_good_5, x_RM_good_6, x_RM_good_7, x_RM_good_8, x_RM_good_9, x_RM_good_12, x_RM_good_15, x_RM_good_16, x_RM_good_19, x_RM_good_20, x_RM_good_21, x_RM_good_24, x_RM_good_25, x_RM_good_28, x_RM_good_29, x_RM_good_30, x_RM_good_33, x_RM_good_34, x_RM_good_37, x_RM_good_38, x_RM_good_39, x_RM_good_40, x_RM_good_41, x_RM_good_44, x_RM_good_45, x_RM_good_46, x_RM_good_47, x_RM_good_48, x_RM_good_51, x_RM_good_52, x_RM_good_53, x_RM_good_54, x_RM_good_57, x_RM_good_58, x_RM_good_59, x_RM_good_62, x_RM_good_65, x_RM_good_66, x_RM_good_69, x_RM_good_70, ru_is h, ru_g0 h, ru_s0 h, ru_g1 h, ru_s1 h, ru_g2 h, ru_s2 h, ru_g3 h, ru_g4 h, ru_s4 h, ru_g5 h, ru_g6 h, ru_g7 h, ru_g8 h, ru_s8 h, ru_g9 h, ru_g10 h, ru_g11 h, ru_g12 h, ru_g13 h, ru_g14 h, ru_g15 h, ru_g16 h, ru_g17 h, ru_g18 h, ru_g19 h, ru_g20 h, ru_g21 h, ru_g22 h, ru_g23 h, ru_g24 h, ru_g25 h, ru_g26 h, ru_g27 h, ru_g28 h, ru_g29 h, ru_n3 h, ru_m3 h, ru_n5 h, ru_m5 h, ru_n6 h, ru_m6 h, ru_n7 h, ru_m7 h, ru_n9 h, ru_m9 h, ru_n10 h, ru_m10 h, ru_n11 h, ru_m11 h, ru_n12 h, ru_m12 h, ru_n13 h, ru_m13 h, ru_n14 h, ru_m14 h, ru_n15 h, ru_m15 h, ru_n16 h, ru_m16 h, ru_n17 h, ru_m17 h, ru_n18 h, ru_m18 h, ru_n19 h, ru_m19 h, ru_n20 h, ru_m20 h, ru_n21 h, ru_m21 h, ru_n22 h, ru_m22 h, ru_n23 h, ru_m23 h, ru_n24 h, ru_m24 h, ru_n25 h, ru_m25 h, ru_n26 h, ru_m26 h, ru_n27 h, ru_m27 h, ru_n28 h, ru_m28 h, ru_n29 h, ru_m29 h, rm_isBlock h, rm_sig h, Option.bind_some, Option.toList_some, List.cons_append, List.nil_append, hb, if_false, jz_8i, hk]
    simp only [jq_gd, vr_E, hb, if_false, hkc, vr_e, jq_b]
    by_cases e1 : f 30 0 (8 * k + c) = 0
    · simp [e1]
    · by_cases e2 : f 31 0 (8 * k + c) = 0
      · by_cases e3 : f 35 0 (8 * k + c) = jq_sig (f 20 0 0) (f 33 0 (8 * k + c)) (nI c) (f 32 0 (8 * k + c)) (f 34 0 (8 * k + c))
        · simp [e1, e2, ← e3]
        · simp [e1, e2, e3]
      · simp [e1, e2]
theorem rm_spends (h : jl_R K g) {cc n c : Nat} {b a : Int32} (hn : jn_R f cc n) (hc : c < 8) : jx_m Z (d + 4) 83 [.inr (some (K.2.1 20 0)), .inl b, .inl (nI c), .inl a] (jy_w K f g) = some (some (.inl (jq_b (jq_sp (vr_E f) c b a))), jy_w K f g) := by
  by_cases hg : jq_gd (vr_E f) b c = true
  · have hb : ¬ (b < 1 ∨ f 20 0 8 < b) := by
      intro hb
      simp [jq_gd, vr_E, hb] at hg
    obtain ⟨k, rfl, h1, h2⟩ := jz_blk hn.2.1 hn.2.2.2 hb
    have hk : 8 * k + c < 200 := by have := hn.2.2.2; omega
    have hkc : (nI k).toNatClampNeg = k := nI_clamp (by omega)
    by_cases hga : jq_gd (vr_E f) a c = true
    · have ha : ¬ (a < 1 ∨ f 20 0 8 < a) := by
        intro ha
        simp [jq_gd, vr_E, ha] at hga
      obtain ⟨q, rfl, h3, h4⟩ := jz_blk hn.2.1 hn.2.2.2 ha
      have hq : 8 * q + c < 200 := by have := hn.2.2.2; omega
      have hqc : (nI q).toNatClampNeg = q := nI_clamp (by omega)
      simp only [e_RM_spends, x_RM_spends_0, x_RM_spends_2, x_RM_spends_3, x_RM_spends_4, x_RM_spends_5, x_RM_spends_6, x_RM_spends_8, x_RM_spends_9, x_RM_spends_10, x_RM_spends_11, x_RM_spends_14, x_RM_spends_17, x_RM_spends_18, x_RM_spends_21, x_RM_spends_23, x_RM_spends_24, x_RM_spends_27, x_RM_spends_28, x_RM_spends_31, x_RM_spends_33, x_RM_spends_34, x_RM_spends_35, x_RM_spends_38, x_RM_spends_39, x_RM_spends_40, x_RM_spends_43, x_RM_spends_44, x_RM_spends_47, x_RM_spends_48, x_RM_spends_50, x_RM_spends_52, x_RM_spends_55, x_RM_spends_56, x_RM_spends_57, x_RM_spends_58, x_RM_spends_61, x_RM_spends_64, x_RM_spends_65, x_RM_spends_68, x_RM_spends_70, x_RM_spends_71, x_RM_spends_72, x_RM_spends_73, x_RM_spends_74, x_RM_spends_75, x_RM_spends_76, x_RM_spends_79, x_RM_spends_81, x_RM_spends_82, x_RM_spends_85, x_RM_spends_86, x_RM_spends_89, x_RM_spends_90, ru_is h, ru_g0 h, ru_s0 h, ru_g1 h, ru_s1 h, ru_g2 h, ru_s2 h, ru_g3 h, ru_g4 h, ru_s4 h, ru_g5 h, ru_g6 h, ru_g7 h, ru_g8 h, ru_s8 h, ru_g9 h, ru_g10 h, ru_g11 h, ru_g12 h, ru_g13 h, ru_g14 h, ru_g15 h, ru_g16 h, ru_g17 h, ru_g18 h, ru_g19 h, ru_g20 h, ru_g21 h, ru_g22 h, ru_g23 h, ru_g24 h, ru_g25 h, ru_g26 h, ru_g27 h, ru_g28 h, ru_g29 h, ru_n3 h, ru_m3 h, ru_n5 h, ru_m5 h, ru_n6 h, ru_m6 h, ru_n7 h, ru_m7 h, ru_n9 h, ru_m9 h, ru_n10 h, ru_m10 h, ru_n11 h, ru_m11 h, ru_n12 h, ru_m12 h, ru_n13 h, ru_m13 h, ru_n14 h, ru_m14 h, ru_n15 h, ru_m15 h, ru_n16 h, ru_m16 h, ru_n17 h, ru_m17 h, ru_n18 h, ru_m18 h, ru_n19 h, ru_m19 h, ru_n20 h, ru_m20 h, ru_n21 h, ru_m21 h, ru_n22 h, ru_m22 h, ru_n23 h, ru_m23 h, ru_n24 h, ru_m24 h, ru_n25 h, ru_m25 h, ru_n26 h, ru_m26 h, ru_n27 h, ru_m27 h, ru_n28 h, ru_m28 h, ru_n29 h, ru_m29 h, rm_good h hn hc, hg, hga, jq_b, Option.bind_some, Option.toList_some, List.cons_append, List.nil_append, if_true, jz_8i, hk, hq]
      simp only [jq_gd, vr_E, hb, ha, if_false, hkc, hqc] at hg hga
      simp only [jq_sp, vr_E, hb, ha, if_false, hkc, hqc]
      unfold vr_e at hg hga ⊢
      by_cases e1 : f 30 0 (8 * k + c) = 0
      · simp [e1] at hg
      · by_cases e2 : f 30 0 (8 * q + c) = 0
        · simp [e2] at hga
        · simp only [e1, e2, if_false] at hg hga ⊢
          by_cases e3 : f 31 0 (8 * k + c) = 0
          · by_cases e4 : f 32 0 (8 * k + c) = nI q
            · by_cases e5 : nI k ≤ nI q
              · have e5' : ¬ nI q < nI k := Int32.not_lt.mpr e5
                simp [e3, e4, e5, e5']
              · have e5' : nI q < nI k := Int32.not_le.mp e5
                by_cases e6 : f 34 0 (8 * q + c) = f 33 0 (8 * k + c)
                · simp_all
                · simp_all
            · simp [e3, e4]
          · simp [e3]
    · have hga : jq_gd (vr_E f) a c = false := by simpa using hga
      have hz : jq_sp (vr_E f) c (nI k) a = false := by
        unfold jq_sp
        unfold jq_gd at hga
        split
        · rfl
        · split
          · rfl
          · rename_i e' he'
            rw [he'] at hga
            have : e'.2.2.2.2 = 0 := by simpa using hga
            simp [this]
      simp only [e_RM_spends, x_RM_spends_0, x_RM_spends_2, x_RM_spends_3, x_RM_spends_4, x_RM_spends_5, x_RM_spends_6, x_RM_spends_8, x_RM_spends_9, x_RM_spends_10, x_RM_spends_11, x_RM_spends_14, x_RM_spends_17, x_RM_spends_18, x_RM_spends_21, x_RM_spends_23, x_RM_spends_24, x_RM_spends_27, x_RM_spends_28, x_RM_spends_31, x_RM_spends_33, x_RM_spends_34, x_RM_spends_35, x_RM_spends_38, x_RM_spends_39, x_RM_spends_40, x_RM_spends_43, x_RM_spends_44, x_RM_spends_47, x_RM_spends_48, x_RM_spends_50, x_RM_spends_52, x_RM_spends_55, x_RM_spends_56, x_RM_spends_57, x_RM_spends_58, x_RM_spends_61, x_RM_spends_64, x_RM_spends_65, x_RM_spends_68, x_RM_spends_70, x_RM_spends_71, x_RM_spends_72, x_RM_spends_73, x_RM_spends_74, x_RM_spends_75, x_RM_spends_76, x_RM_spends_79, x_RM_spends_81, x_RM_spends_82, x_RM_spends_85, x_RM_spends_86, x_RM_spends_89, x_RM_spends_90, ru_is h, ru_g0 h, ru_s0 h, ru_g1 h, ru_s1 h, ru_g2 h, ru_s2 h, ru_g3 h, ru_g4 h, ru_s4 h, ru_g5 h, ru_g6 h, ru_g7 h, ru_g8 h, ru_s8 h, ru_g9 h, ru_g10 h, ru_g11 h, ru_g12 h, ru_g13 h, ru_g14 h, ru_g15 h, ru_g16 h, ru_g17 h, ru_g18 h, ru_g19 h, ru_g20 h, ru_g21 h, ru_g22 h, ru_g23 h, ru_g24 h, ru_g25 h, ru_g26 h, ru_g27 h, ru_g28 h, ru_g29 h, ru_n3 h, ru_m3 h, ru_n5 h, ru_m5 h, ru_n6 h, ru_m6 h, ru_n7 h, ru_m7 h, ru_n9 h, ru_m9 h, ru_n10 h, ru_m10 h, ru_n11 h, ru_m11 h, ru_n12 h, ru_m12 h, ru_n13 h, ru_m13 h, ru_n14 h, ru_m14 h, ru_n15 h, ru_m15 h, ru_n16 h, ru_m16 h, ru_n17 h, ru_m17 h, ru_n18 h, ru_m18 h, ru_n19 h, ru_m19 h, ru_n20 h, ru_m20 h, ru_n21 h, ru_m21 h, ru_n22 h, ru_m22 h, ru_n23 h, ru_m23 h, ru_n24 h, ru_m24 h, ru_n25 h, ru_m25 h, ru_n26 h, ru_m26 h, ru_n27 h, ru_m27 h, ru_n28 h, ru_m28 h, ru_n29 h, ru_m29 h, rm_good h hn hc, hg, hga, hz, jq_b, Option.bind_some, Option.toList_some, List.cons_append, List.nil_append, if_true, jz_8i, hk]
      simp
  · have hg : jq_gd (vr_E f) b c = false := by simpa using hg
    have hz : jq_sp (vr_E f) c b a = false := by
      unfold jq_sp
      unfold jq_gd at hg
      split
      · rfl
      · rename_i e' he'
        rw [he'] at hg
        have : e'.2.2.2.2 = 0 := by simpa using hg
        split
        · rfl
        · simp [this]
    simp only [e_RM_spends, x_RM_spends_0, x_RM_spends_2, x_RM_spends_3, x_RM_spends_4, x_RM_spends_5, x_RM_spends_6, x_RM_spends_8, x_RM_spends_9, x_RM_spends_10, x_RM_spends_11, x_RM_spends_14, x_RM_spends_17, x_RM_spends_18, x_RM_spends_21, x_RM_spends_23, x_RM_spends_24, x_RM_spends_27, x_RM_spends_28, x_RM_spends_31, x_RM_spends_33, x_RM_spends_34, x_RM_spends_35, x_RM_spends_38, x_RM_spends_39, x_RM_spends_40, x_RM_spends_43, x_RM_spends_44, x_RM_spends_47, x_RM_spends_48, x_RM_spends_50, x_RM_spends_52, x_RM_spends_55, x_RM_spends_56, x_RM_spends_57, x_RM_spends_58, x_RM_spends_61, x_RM_spends_64, x_RM_spends_65, x_RM_spends_68, x_RM_spends_70, x_RM_spends_71, x_RM_spends_72, x_RM_spends_73, x_RM_spends_74, x_RM_spends_75, x_RM_spends_76, x_RM_spends_79, x_RM_spends_81, x_RM_spends_82, x_RM_spends_85, x_RM_spends_86, x_RM_spends_89, x_RM_spends_90, ru_is h, ru_g0 h, ru_s0 h, ru_g1 h, ru_s1 h, ru_g2 h, ru_s2 h, ru_g3 h, ru_g4 h, ru_s4 h, ru_g5 h, ru_g6 h, ru_g7 h, ru_g8 h, ru_s8 h, ru_g9 h, ru_g10 h, ru_g11 h, ru_g12 h, ru_g13 h, ru_g14 h, ru_g15 h, ru_g16 h, ru_g17 h, ru_g18 h, ru_g19 h, ru_g20 h, ru_g21 h, ru_g22 h, ru_g23 h, ru_g24 h, ru_g25 h, ru_g26 h, ru_g27 h, ru_g28 h, ru_g29 h, rm_good h hn hc, hg, hz, jq_b, Option.bind_some, Option.toList_some, List.cons_append, List.nil_append]
    simp
end RB
