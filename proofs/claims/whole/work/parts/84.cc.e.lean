/-! the class: what is asked -/
def vc_coin (f : jy_I) (cc c k : Nat) : Int32 := if cc ≤ c then 0 else if k = 0 then (if f 7 c 1 = 0 then 1 else 2) else if k = 1 then f 7 c 0 else vc_look f c k
def vc_lk (f : jy_I) (cc c : Nat) : Int32 := if cc ≤ c then 0 else if f 7 c 1 = 0 then f 7 c 0 + (if f 8 c 0 = 0 then 0 else 10 + 2 * nI (jq_cnt (vc_std f c) 24 1 0)) else 0
theorem jz_iy : ∀ c, c < 8 → ∀ q, q < 3 → ((8 : Int32) + nI c) >>> (nI q &&& 31) ^^^ 1 = nI (((8 + c) / 2 ^ q) ^^^ 1) ∧ ((8 + c) / 2 ^ q) ^^^ 1 < 16 := by decide
/-- what a block's tree answers -/
def vc_bl (f : jy_I) (b : Nat) (k : Int32) : Int32 := if k = 0 then f 12 b 1 else if k = 1 then (if f 10 b 2 = 0 then 0 else 1) else if f 10 b 2 = 0 then 0 else if k < 2 ∨ 33 < k then 0 else if k < 10 then f 12 b (8 + (k.toNatClampNeg - 2)) else f 12 b (((8 + (k.toNatClampNeg - 10) / 3) / 2 ^ ((k.toNatClampNeg - 10) % 3)) ^^^ 1)
section CE
variable {Z : jx_Sc} {d : Nat} {K : jy_K} {f : jy_I} {g : jy_R} {w : jx_W} {cc n : Nat} {call : jx_C}
theorem cc_tick (h : jl_C K g cc n) {x : Int32} : jx_m Z (d + 1) 53 [.inr (some (K.2.1 0 0)), .inl x] (jy_w K f g) = some (some (.inl (f 0 0 10 + if x < 0 ∨ 100 < x then 0 else x)), jy_w K (jy_up f 0 0 10 (f 0 0 10 + if x < 0 ∨ 100 < x then 0 else x)) g) := by
  have e : jy_up f 0 0 10 (f 0 0 10) = f := by
    rw [jy_up_row']
    have : va_up (f 0 0) 10 (f 0 0 10) = f 0 0 := by
      funext j
      unfold va_up
      by_cases e : j = 10 <;> simp [e]
    rw [this, jy_row_id]
  simp only [e_CC_tick, x_CC_tick_0, x_CC_tick_1, x_CC_tick_4, x_CC_tick_5, x_CC_tick_7, x_CC_tick_10, x_CC_tick_11, x_CC_tick_12, x_CC_tick_15, x_CC_tick_16, x_CC_tick_17, x_CC_tick_20, x_CC_tick_21, x_CC_tick_24, cu_is h, cu_g0 h, cu_g1 h, cu_g2 h, cu_g3 h, cu_g4 h, cu_g5 h, cu_g6 h, cu_g7 h, cu_g8 h, cu_g9 h, cu_g10 h, cu_s5 h, cu_s7 h, cu_s10 h, cu_n1 h, cu_m1 h, cu_n2 h, cu_m2 h, cu_n3 h, cu_n4 h, cu_n5 h, cu_n6 h, Option.bind_some, Option.toList_some, Option.toList_none, List.cons_append, List.nil_append, ↓reduceIte]
  by_cases h1 : x < 0
  · simp [h1, e, Int32.add_zero]
  · by_cases h2 : 100 < x
    · simp [h1, h2, e, Int32.add_zero]
    · simp [h1, h2, jy_up_self]
theorem cc_usr_n {r : Option Nat} {u k : Int32} (hb : (u < 0 ∨ 4 ≤ u) ∨ k < 0 ∨ 8 < k) : jx_m Z (d + 2) 54 [.inr r, .inl u, .inl k] w = some (some (.inl (-1)), w) := by
  simp only [e_CC_user, x_CC_user_0, x_CC_user_1, x_CC_user_4, x_CC_user_7, x_CC_user_8, x_CC_user_11, x_CC_user_12, x_CC_user_14, x_CC_user_17, x_CC_user_18, Option.bind_some, Option.toList_some, Option.toList_none, List.cons_append, List.nil_append, cc_isUser]
  by_cases e1 : u < 0 ∨ 4 ≤ u
  · simp [e1]
  · by_cases e2 : k < 0
    · simp [e1, e2]
    · have e3 : ¬ k ≤ 8 := Int32.not_le.mpr (by
        rcases hb with hb | hb | hb
        · exact absurd hb e1
        · exact absurd hb e2
        · exact hb)
      simp [e1, e2, e3]
theorem cc_usr (h : jl_C K g cc n) {u k : Nat} (hu : u < 4) (hk : k ≤ 8) : jx_m Z (d + 3) 54 [.inr (some (K.2.1 0 0)), .inl (nI u), .inl (nI k)] (jy_w K f g) = some (some (.inl (if k = 0 then f 1 0 u else f 2 0 (8 * u + (k - 1)))), jy_w K f g) := by
  have e1 : ¬ nI k < 0 := nI_pos (by omega)
  have e2 : nI k ≤ 8 := nI_le (b := 8) hk (by omega)
  have e10 : ¬ (1 : Int32) = 0 := by decide
  cases k with
  | zero =>
    have e0 : nI 0 = 0 := nI_0
    simp only [e0] at e1 e2
    simp only [e0, e_CC_user, x_CC_user_0, x_CC_user_1, x_CC_user_4, x_CC_user_7, x_CC_user_8, x_CC_user_11, x_CC_user_12, x_CC_user_14, x_CC_user_17, x_CC_user_18, x_CC_user_19, x_CC_user_20, x_CC_user_23, x_CC_user_24, x_CC_user_27, x_CC_user_28, x_CC_user_29, x_CC_user_32, x_CC_user_33, x_CC_user_34, x_CC_user_35, x_CC_user_36, x_CC_user_37, x_CC_user_40, cu_is h, cu_g0 h, cu_g1 h, cu_g2 h, cu_g3 h, cu_g4 h, cu_g5 h, cu_g6 h, cu_g7 h, cu_g8 h, cu_g9 h, cu_g10 h, cu_s5 h, cu_s7 h, cu_s10 h, cu_n1 h, cu_m1 h, cu_n2 h, cu_m2 h, cu_n3 h, cu_n4 h, cu_n5 h, cu_n6 h, cc_user_y hu, hu, e1, e2, e10, Option.bind_some, Option.toList_some, Option.toList_none, List.cons_append, List.nil_append, ↓reduceIte, not_true_eq_false]
  | succ j =>
    have e0 : ¬ nI (j + 1) = 0 := nI_ne0 (by omega) (by omega)
    have e3 : nI (j + 1) - 1 = nI j := nI_pred _
    simp only [e_CC_user, x_CC_user_0, x_CC_user_1, x_CC_user_4, x_CC_user_7, x_CC_user_8, x_CC_user_11, x_CC_user_12, x_CC_user_14, x_CC_user_17, x_CC_user_18, x_CC_user_19, x_CC_user_20, x_CC_user_23, x_CC_user_24, x_CC_user_27, x_CC_user_28, x_CC_user_29, x_CC_user_32, x_CC_user_33, x_CC_user_34, x_CC_user_35, x_CC_user_36, x_CC_user_37, x_CC_user_40, cu_is h, cu_g0 h, cu_g1 h, cu_g2 h, cu_g3 h, cu_g4 h, cu_g5 h, cu_g6 h, cu_g7 h, cu_g8 h, cu_g9 h, cu_g10 h, cu_s5 h, cu_s7 h, cu_s10 h, cu_n1 h, cu_m1 h, cu_n2 h, cu_m2 h, cu_n3 h, cu_n4 h, cu_n5 h, cu_n6 h, cc_user_y hu, cc_held h hu (show j < 8 by omega), e0, e1, e2, e3, e10, Option.bind_some, Option.toList_some, Option.toList_none, List.cons_append, List.nil_append, ↓reduceIte, not_false_eq_true]
    simp
theorem cc_coi_n {r : Option Nat} {c k : Int32} (hb : c < 0 ∨ 8 ≤ c ∨ k < 0 ∨ 6 < k) : jx_m Z (d + 1) 55 [.inr r, .inl c, .inl k] w = some (some (.inl (-1)), w) := by
  simp only [e_CC_coin, x_CC_coin_0, x_CC_coin_1, x_CC_coin_4, x_CC_coin_5, x_CC_coin_7, x_CC_coin_10, x_CC_coin_11, x_CC_coin_14, x_CC_coin_15, x_CC_coin_17, x_CC_coin_20, x_CC_coin_21]
  by_cases e1 : c < 0
  · simp [e1]
  · by_cases e2 : 8 ≤ c
    · simp [e1, e2]
    · by_cases e3 : k < 0
      · simp [e1, e2, e3]
      · have e4 : ¬ k ≤ 6 := Int32.not_le.mpr (by
          rcases hb with hb | hb | hb | hb
          · exact absurd hb e1
          · exact absurd hb e2
          · exact absurd hb e3
          · exact hb)
        simp [e1, e2, e3, e4]
theorem cc_coi (h : jl_C K g cc n) (hn : jn_C f cc n) {c k : Nat} (hc : c < 8) (hk : k ≤ 6) : jx_m Z (d + 5) 55 [.inr (some (K.2.1 0 0)), .inl (nI c), .inl (nI k)] (jy_w K f g) = some (some (.inl (vc_coin f cc c k)), jy_w K f g) := by
  have hcc := hn.2.2.1
  have e1 : ¬ nI c < 0 := nI_pos (by omega)
  have e2 : ¬ (8 : Int32) ≤ nI c := nI_ge (b := 8) hc (by omega)
  have e3 : ¬ nI k < 0 := nI_pos (by omega)
  have e4 : nI k ≤ 6 := nI_le (b := 6) hk (by omega)
  have k0 : (nI k = 0) = (k = 0) := propext ⟨fun q => nI_inj (b := 0) (by omega) (by omega) q, fun q => by rw [q]; rfl⟩
  have k1 : (nI k = 1) = (k = 1) := propext ⟨fun q => nI_inj (b := 1) (by omega) (by omega) q, fun q => by rw [q]; rfl⟩
  unfold vc_coin
  by_cases q : cc ≤ c
  · have qq : nI c < 0 ∨ f 0 0 5 ≤ nI c := Or.inr (by rw [hn.1]; exact nI_le q (by omega))
    simp only [e_CC_coin, x_CC_coin_0, x_CC_coin_1, x_CC_coin_4, x_CC_coin_5, x_CC_coin_7, x_CC_coin_10, x_CC_coin_11, x_CC_coin_14, x_CC_coin_15, x_CC_coin_17, x_CC_coin_20, x_CC_coin_21, x_CC_coin_22, x_CC_coin_23, x_CC_coin_24, x_CC_coin_27, x_CC_coin_28, x_CC_coin_29, x_CC_coin_32, x_CC_coin_33, x_CC_coin_34, x_CC_coin_35, x_CC_coin_38, x_CC_coin_39, x_CC_coin_42, x_CC_coin_45, x_CC_coin_46, x_CC_coin_49, x_CC_coin_50, x_CC_coin_51, x_CC_coin_52, x_CC_coin_53, x_CC_coin_56, x_CC_coin_57, x_CC_coin_60, x_CC_coin_63, x_CC_coin_64, x_CC_coin_67, x_CC_coin_68, x_CC_coin_71, cu_is h, cu_g0 h, cu_g1 h, cu_g2 h, cu_g3 h, cu_g4 h, cu_g5 h, cu_g6 h, cu_g7 h, cu_g8 h, cu_g9 h, cu_g10 h, cu_s5 h, cu_s7 h, cu_s10 h, cu_n1 h, cu_m1 h, cu_n2 h, cu_m2 h, cu_n3 h, cu_n4 h, cu_n5 h, cu_n6 h, cc_coinAt_n h qq, e1, e2, e3, e4, q, Option.bind_some, Option.toList_some, Option.toList_none, List.cons_append, List.nil_append, ↓reduceIte]
  · have hcl := h.2.2.1 c (by omega)
    by_cases q2 : 2 ≤ k
    · have z0 : ¬ k = 0 := by omega
      have z1 : ¬ k = 1 := by omega
      simp only [e_CC_coin, x_CC_coin_0, x_CC_coin_1, x_CC_coin_4, x_CC_coin_5, x_CC_coin_7, x_CC_coin_10, x_CC_coin_11, x_CC_coin_14, x_CC_coin_15, x_CC_coin_17, x_CC_coin_20, x_CC_coin_21, x_CC_coin_22, x_CC_coin_23, x_CC_coin_24, x_CC_coin_27, x_CC_coin_28, x_CC_coin_29, x_CC_coin_32, x_CC_coin_33, x_CC_coin_34, x_CC_coin_35, x_CC_coin_38, x_CC_coin_39, x_CC_coin_42, x_CC_coin_45, x_CC_coin_46, x_CC_coin_49, x_CC_coin_50, x_CC_coin_51, x_CC_coin_52, x_CC_coin_53, x_CC_coin_56, x_CC_coin_57, x_CC_coin_60, x_CC_coin_63, x_CC_coin_64, x_CC_coin_67, x_CC_coin_68, x_CC_coin_71, cu_is h, cu_g0 h, cu_g1 h, cu_g2 h, cu_g3 h, cu_g4 h, cu_g5 h, cu_g6 h, cu_g7 h, cu_g8 h, cu_g9 h, cu_g10 h, cu_s5 h, cu_s7 h, cu_s10 h, cu_n1 h, cu_m1 h, cu_n2 h, cu_m2 h, cu_n3 h, cu_n4 h, cu_n5 h, cu_n6 h, cc_coinAt_y h hn (show c < cc by omega), cu_c0 hcl, cu_c1 hcl, cu_c2 hcl, cu_e0 hcl, cu_e1 hcl, cu_e2 hcl, cu_e3 hcl, cu_e4 hcl, cu_e5 hcl, cu_eis hcl, cu_n9 hcl, cu_l9 hcl, ex_look hcl q2 hk, e1, e2, e3, e4, k0, k1, z0, z1, q, Option.bind_some, Option.toList_some, Option.toList_none, List.cons_append, List.nil_append, ↓reduceIte, reduceCtorEq, not_false_eq_true]
    · simp only [e_CC_coin, x_CC_coin_0, x_CC_coin_1, x_CC_coin_4, x_CC_coin_5, x_CC_coin_7, x_CC_coin_10, x_CC_coin_11, x_CC_coin_14, x_CC_coin_15, x_CC_coin_17, x_CC_coin_20, x_CC_coin_21, x_CC_coin_22, x_CC_coin_23, x_CC_coin_24, x_CC_coin_27, x_CC_coin_28, x_CC_coin_29, x_CC_coin_32, x_CC_coin_33, x_CC_coin_34, x_CC_coin_35, x_CC_coin_38, x_CC_coin_39, x_CC_coin_42, x_CC_coin_45, x_CC_coin_46, x_CC_coin_49, x_CC_coin_50, x_CC_coin_51, x_CC_coin_52, x_CC_coin_53, x_CC_coin_56, x_CC_coin_57, x_CC_coin_60, x_CC_coin_63, x_CC_coin_64, x_CC_coin_67, x_CC_coin_68, x_CC_coin_71, cu_is h, cu_g0 h, cu_g1 h, cu_g2 h, cu_g3 h, cu_g4 h, cu_g5 h, cu_g6 h, cu_g7 h, cu_g8 h, cu_g9 h, cu_g10 h, cu_s5 h, cu_s7 h, cu_s10 h, cu_n1 h, cu_m1 h, cu_n2 h, cu_m2 h, cu_n3 h, cu_n4 h, cu_n5 h, cu_n6 h, cc_coinAt_y h hn (show c < cc by omega), cu_c0 hcl, cu_c1 hcl, cu_c2 hcl, cu_e0 hcl, cu_e1 hcl, cu_e2 hcl, cu_e3 hcl, cu_e4 hcl, cu_e5 hcl, cu_eis hcl, cu_n9 hcl, cu_l9 hcl, e1, e2, e3, e4, k0, k1, q, Option.bind_some, Option.toList_some, Option.toList_none, List.cons_append, List.nil_append, ↓reduceIte, reduceCtorEq]
      by_cases z0 : k = 0
      · by_cases z2 : f 7 c 1 = 0 <;> simp [z0, z2]
      · have z1 : k = 1 := by omega
        simp [z1]
theorem bl_look {b : Nat} (hb : jl_b K g b) {k : Int32} (h0 : ¬ k = 0) (h1 : ¬ k = 1) (h2 : ¬ f 10 b 2 = 0) : jx_m Z (d + 1) 60 [.inr (some (K.2.1 10 b)), .inl k] (jy_w K f g) = some (some (.inl (vc_bl f b k)), jy_w K f g) := by
  unfold vc_bl
  rw [if_neg h0, if_neg h1, if_neg h2]
  by_cases e1 : k < 2
  · have e2 : k - 2 - 8 < 0 ∨ (24 : Int32) ≤ k - 2 - 8 := by
      have : k - 2 - 8 = k - 10 := by
        rw [Int32.sub_sub]
        rfl
      rw [this]
      rcases Int32.lt_or_le k (-2147483638) with q | q
      · right
        have hk : k.toInt < -2147483638 := by
          have := Int32.lt_iff_toInt_lt.mp q
          have e : (-2147483638 : Int32).toInt = -2147483638 := by decide
          omega
        have hlo : -2147483648 ≤ k.toInt := by
          have := Int32.le_toInt k
          omega
        rw [Int32.le_iff_toInt_le, Int32.toInt_sub, jz_24, jz_10, Int.bmod_eq_emod]
        have e : (k.toInt - 10) % ((2 ^ 32 : Nat) : Int) = k.toInt - 10 + 4294967296 := by omega
        rw [e]
        split <;> omega
      · left
        have hk : -2147483638 ≤ k.toInt := by
          have := Int32.le_iff_toInt_le.mp q
          have e : (-2147483638 : Int32).toInt = -2147483638 := by decide
          omega
        have hk2 : k.toInt < 2 := by
          have := Int32.lt_iff_toInt_lt.mp e1
          rw [jz_2] at this
          exact this
        rw [Int32.lt_iff_toInt_lt, Int32.toInt_sub, jz_0, jz_10, Int.bmod_eq_emod]
        split <;> omega
    rw [if_pos (Or.inl e1)]
    rcases e2 with e2 | e2
    · simp only [e_Bl_look, x_Bl_look_0, x_Bl_look_1, x_Bl_look_2, x_Bl_look_5, x_Bl_look_6, x_Bl_look_8, x_Bl_look_11, x_Bl_look_12, x_Bl_look_15, x_Bl_look_17, x_Bl_look_18, x_Bl_look_19, x_Bl_look_20, x_Bl_look_21, x_Bl_look_22, x_Bl_look_23, x_Bl_look_24, x_Bl_look_25, x_Bl_look_26, x_Bl_look_28, x_Bl_look_29, x_Bl_look_30, x_Bl_look_31, x_Bl_look_34, x_Bl_look_35, x_Bl_look_37, x_Bl_look_40, x_Bl_look_41, x_Bl_look_42, x_Bl_look_44, x_Bl_look_45, x_Bl_look_46, x_Bl_look_47, x_Bl_look_48, x_Bl_look_49, x_Bl_look_50, x_Bl_look_51, x_Bl_look_52, x_Bl_look_53, x_Bl_look_54, x_Bl_look_57, x_Bl_look_58, x_Bl_look_59, x_Bl_look_60, x_Bl_look_61, e1, e2, ↓reduceIte]
    · have e2' : ¬ k - 2 - 8 < 24 := Int32.not_lt.mpr e2
      simp only [e_Bl_look, x_Bl_look_0, x_Bl_look_1, x_Bl_look_2, x_Bl_look_5, x_Bl_look_6, x_Bl_look_8, x_Bl_look_11, x_Bl_look_12, x_Bl_look_15, x_Bl_look_17, x_Bl_look_18, x_Bl_look_19, x_Bl_look_20, x_Bl_look_21, x_Bl_look_22, x_Bl_look_23, x_Bl_look_24, x_Bl_look_25, x_Bl_look_26, x_Bl_look_28, x_Bl_look_29, x_Bl_look_30, x_Bl_look_31, x_Bl_look_34, x_Bl_look_35, x_Bl_look_37, x_Bl_look_40, x_Bl_look_41, x_Bl_look_42, x_Bl_look_44, x_Bl_look_45, x_Bl_look_46, x_Bl_look_47, x_Bl_look_48, x_Bl_look_49, x_Bl_look_50, x_Bl_look_51, x_Bl_look_52, x_Bl_look_53, x_Bl_look_54, x_Bl_look_57, x_Bl_look_58, x_Bl_look_59, x_Bl_look_60, x_Bl_look_61, e1, e2', ↓reduceIte]
      by_cases e3 : k - 2 - 8 < 0 <;> simp [e3]
  · have hk2 : 2 ≤ k.toInt := by
      have e := e1
      rw [Int32.lt_iff_toInt_lt, jz_2] at e
      omega
    have hkk : k = nI k.toNatClampNeg := (jz_nI (by omega)).symm
    have hub := Int32.toInt_lt k
    generalize hm : k.toNatClampNeg = m at hkk
    have hm2 : 2 ≤ m := by rw [← hm, jz_cl]; omega
    have hmb : m < 2 ^ 31 := by rw [← hm, jz_cl]; omega
    subst hkk
    have s2 : nI m - 2 = nI (m - 2) := jz_sub m 2 hm2
    by_cases e3 : m < 10
    · have c10 : ¬ (10 : Int32) ≤ nI m := nI_ge (b := 10) e3 (by omega)
      have c10' : nI m < 10 := nI_lt (b := 10) e3 (by omega)
      have c33 : ¬ (33 : Int32) < nI m := nI_nlt (a := 33) (by omega) (by omega)
      have s8 : (8 : Int32) + nI m - 2 = nI (8 + (m - 2)) := by
        show nI 8 + nI m - nI 2 = _
        rw [jz_add, jz_sub _ _ (by omega)]
        congr 1
        omega
      have hix : 8 + (m - 2) < 16 := by omega
      rw [if_neg (by simp [e1, c33]), if_pos c10']
      simp only [e_Bl_look, x_Bl_look_0, x_Bl_look_1, x_Bl_look_2, x_Bl_look_5, x_Bl_look_6, x_Bl_look_8, x_Bl_look_11, x_Bl_look_12, x_Bl_look_15, x_Bl_look_17, x_Bl_look_18, x_Bl_look_19, x_Bl_look_20, x_Bl_look_21, x_Bl_look_22, x_Bl_look_23, x_Bl_look_24, x_Bl_look_25, x_Bl_look_26, x_Bl_look_28, x_Bl_look_29, x_Bl_look_30, x_Bl_look_31, x_Bl_look_34, x_Bl_look_35, x_Bl_look_37, x_Bl_look_40, x_Bl_look_41, x_Bl_look_42, x_Bl_look_44, x_Bl_look_45, x_Bl_look_46, x_Bl_look_47, x_Bl_look_48, x_Bl_look_49, x_Bl_look_50, x_Bl_look_51, x_Bl_look_52, x_Bl_look_53, x_Bl_look_54, x_Bl_look_57, x_Bl_look_58, x_Bl_look_59, x_Bl_look_60, x_Bl_look_61, cu_b0 hb, cu_b1 hb, cu_b2 hb, cu_bis hb, cu_n11 hb, cu_n12 hb, e1, c10, s8, hix, Option.bind_some, Option.toList_some, Option.toList_none, List.cons_append, List.nil_append, ↓reduceIte]
    · have c10 : (10 : Int32) ≤ nI m := nI_le (a := 10) (by omega) hmb
      have c10' : ¬ nI m < 10 := nI_nlt (b := 10) (by omega) hmb
      have s8 : nI (m - 2) - 8 = nI (m - 10) := by
        show nI (m - 2) - nI 8 = _
        rw [jz_sub _ _ (by omega)]
        congr 1
      have p0 : ¬ nI (m - 10) < 0 := nI_pos (by omega)
      by_cases e4 : 33 < m
      · have c33 : (33 : Int32) < nI m := nI_lt (a := 33) e4 hmb
        have c24 : ¬ nI (m - 10) < 24 := nI_nlt (b := 24) (by omega) (by omega)
        rw [if_pos (Or.inr c33)]
        simp only [e_Bl_look, x_Bl_look_0, x_Bl_look_1, x_Bl_look_2, x_Bl_look_5, x_Bl_look_6, x_Bl_look_8, x_Bl_look_11, x_Bl_look_12, x_Bl_look_15, x_Bl_look_17, x_Bl_look_18, x_Bl_look_19, x_Bl_look_20, x_Bl_look_21, x_Bl_look_22, x_Bl_look_23, x_Bl_look_24, x_Bl_look_25, x_Bl_look_26, x_Bl_look_28, x_Bl_look_29, x_Bl_look_30, x_Bl_look_31, x_Bl_look_34, x_Bl_look_35, x_Bl_look_37, x_Bl_look_40, x_Bl_look_41, x_Bl_look_42, x_Bl_look_44, x_Bl_look_45, x_Bl_look_46, x_Bl_look_47, x_Bl_look_48, x_Bl_look_49, x_Bl_look_50, x_Bl_look_51, x_Bl_look_52, x_Bl_look_53, x_Bl_look_54, x_Bl_look_57, x_Bl_look_58, x_Bl_look_59, x_Bl_look_60, x_Bl_look_61, e1, c10, s2, s8, p0, c24, ↓reduceIte]
      · have c33 : ¬ (33 : Int32) < nI m := nI_nlt (a := 33) (by omega) (by omega)
        have c24 : nI (m - 10) < 24 := nI_lt (b := 24) (by omega) (by omega)
        have e20 : ¬ (3 : Int32) = 0 := by decide
        obtain ⟨d1, d2⟩ := jz_d3 (m - 10) (by omega)
        rw [d1] at d2
        have m3 : (m - 10) % 3 < 3 := Nat.mod_lt _ (by omega)
        obtain ⟨i1, i2⟩ := jz_iy ((m - 10) / 3) (by omega) ((m - 10) % 3) m3
        rw [if_neg (by simp [e1, c33]), if_neg c10']
        simp only [e_Bl_look, x_Bl_look_0, x_Bl_look_1, x_Bl_look_2, x_Bl_look_5, x_Bl_look_6, x_Bl_look_8, x_Bl_look_11, x_Bl_look_12, x_Bl_look_15, x_Bl_look_17, x_Bl_look_18, x_Bl_look_19, x_Bl_look_20, x_Bl_look_21, x_Bl_look_22, x_Bl_look_23, x_Bl_look_24, x_Bl_look_25, x_Bl_look_26, x_Bl_look_28, x_Bl_look_29, x_Bl_look_30, x_Bl_look_31, x_Bl_look_34, x_Bl_look_35, x_Bl_look_37, x_Bl_look_40, x_Bl_look_41, x_Bl_look_42, x_Bl_look_44, x_Bl_look_45, x_Bl_look_46, x_Bl_look_47, x_Bl_look_48, x_Bl_look_49, x_Bl_look_50, x_Bl_look_51, x_Bl_look_52, x_Bl_look_53, x_Bl_look_54, x_Bl_look_57, x_Bl_look_58, x_Bl_look_59, x_Bl_look_60, x_Bl_look_61, cu_b0 hb, cu_b1 hb, cu_b2 hb, cu_bis hb, cu_n11 hb, cu_n12 hb, e1, c10, s2, s8, p0, c24, e20, d1, d2, i1, i2, Option.bind_some, Option.toList_some, Option.toList_none, List.cons_append, List.nil_append, ↓reduceIte]
theorem cc_blk_n (h : jl_C K g cc n) {b k : Int32} (hb : b < 1 ∨ f 0 0 7 < b) : jx_m Z (d + 2) 58 [.inr (some (K.2.1 0 0)), .inl b, .inl k] (jy_w K f g) = some (some (.inl 0), jy_w K f g) := by
  simp only [e_CC_block, x_CC_block_0, x_CC_block_1, x_CC_block_2, x_CC_block_5, x_CC_block_6, x_CC_block_7, x_CC_block_10, x_CC_block_11, cu_is h, cu_g0 h, cu_g1 h, cu_g2 h, cu_g3 h, cu_g4 h, cu_g5 h, cu_g6 h, cu_g7 h, cu_g8 h, cu_g9 h, cu_g10 h, cu_s5 h, cu_s7 h, cu_s10 h, cu_n1 h, cu_m1 h, cu_n2 h, cu_m2 h, cu_n3 h, cu_n4 h, cu_n5 h, cu_n6 h, cc_blockAt_n h hb, Option.bind_some, Option.toList_some, Option.toList_none, List.cons_append, List.nil_append, ↓reduceIte]
theorem cc_blk (h : jl_C K g cc n) (hn : jn_C f cc n) {b : Nat} {k : Int32} (h1 : 1 ≤ b) (h2 : b ≤ n) : jx_m Z (d + 2) 58 [.inr (some (K.2.1 0 0)), .inl (nI b), .inl k] (jy_w K f g) = some (some (.inl (vc_bl f b k)), jy_w K f g) := by
  have hbl := h.2.2.2.1 b h1 h2
  by_cases e0 : k = 0
  · subst e0
    simp only [e_CC_block, x_CC_block_0, x_CC_block_1, x_CC_block_2, x_CC_block_5, x_CC_block_6, x_CC_block_7, x_CC_block_10, x_CC_block_11, x_CC_block_12, x_CC_block_13, x_CC_block_16, x_CC_block_17, x_CC_block_20, x_CC_block_21, x_CC_block_22, x_CC_block_23, x_CC_block_26, x_CC_block_27, x_CC_block_30, x_CC_block_33, x_CC_block_34, x_CC_block_37, x_CC_block_38, x_CC_block_39, x_CC_block_40, x_CC_block_43, x_CC_block_46, x_CC_block_47, x_CC_block_48, x_CC_block_51, x_CC_block_54, x_CC_block_55, cu_is h, cu_g0 h, cu_g1 h, cu_g2 h, cu_g3 h, cu_g4 h, cu_g5 h, cu_g6 h, cu_g7 h, cu_g8 h, cu_g9 h, cu_g10 h, cu_s5 h, cu_s7 h, cu_s10 h, cu_n1 h, cu_m1 h, cu_n2 h, cu_m2 h, cu_n3 h, cu_n4 h, cu_n5 h, cu_n6 h, cc_blockAt_y h hn h1 h2, cu_b0 hbl, cu_b1 hbl, cu_b2 hbl, cu_bis hbl, cu_n11 hbl, cu_n12 hbl, bl_root hbl, Option.bind_some, Option.toList_some, Option.toList_none, List.cons_append, List.nil_append, ↓reduceIte, reduceCtorEq, not_true_eq_false]
    rfl
  · by_cases e1 : k = 1
    · subst e1
      have e10 : ¬ (1 : Int32) = 0 := by decide
      simp only [e_CC_block, x_CC_block_0, x_CC_block_1, x_CC_block_2, x_CC_block_5, x_CC_block_6, x_CC_block_7, x_CC_block_10, x_CC_block_11, x_CC_block_12, x_CC_block_13, x_CC_block_16, x_CC_block_17, x_CC_block_20, x_CC_block_21, x_CC_block_22, x_CC_block_23, x_CC_block_26, x_CC_block_27, x_CC_block_30, x_CC_block_33, x_CC_block_34, x_CC_block_37, x_CC_block_38, x_CC_block_39, x_CC_block_40, x_CC_block_43, x_CC_block_46, x_CC_block_47, x_CC_block_48, x_CC_block_51, x_CC_block_54, x_CC_block_55, cu_is h, cu_g0 h, cu_g1 h, cu_g2 h, cu_g3 h, cu_g4 h, cu_g5 h, cu_g6 h, cu_g7 h, cu_g8 h, cu_g9 h, cu_g10 h, cu_s5 h, cu_s7 h, cu_s10 h, cu_n1 h, cu_m1 h, cu_n2 h, cu_m2 h, cu_n3 h, cu_n4 h, cu_n5 h, cu_n6 h, cc_blockAt_y h hn h1 h2, cu_b0 hbl, cu_b1 hbl, cu_b2 hbl, cu_bis hbl, cu_n11 hbl, cu_n12 hbl, e10, Option.bind_some, Option.toList_some, Option.toList_none, List.cons_append, List.nil_append, ↓reduceIte, reduceCtorEq, not_true_eq_false, not_false_eq_true]
      unfold vc_bl
      by_cases e2 : f 10 b 2 = 0 <;> simp [e2]
    · by_cases e2 : f 10 b 2 = 0
      · simp only [e_CC_block, x_CC_block_0, x_CC_block_1, x_CC_block_2, x_CC_block_5, x_CC_block_6, x_CC_block_7, x_CC_block_10, x_CC_block_11, x_CC_block_12, x_CC_block_13, x_CC_block_16, x_CC_block_17, x_CC_block_20, x_CC_block_21, x_CC_block_22, x_CC_block_23, x_CC_block_26, x_CC_block_27, x_CC_block_30, x_CC_block_33, x_CC_block_34, x_CC_block_37, x_CC_block_38, x_CC_block_39, x_CC_block_40, x_CC_block_43, x_CC_block_46, x_CC_block_47, x_CC_block_48, x_CC_block_51, x_CC_block_54, x_CC_block_55, cu_is h, cu_g0 h, cu_g1 h, cu_g2 h, cu_g3 h, cu_g4 h, cu_g5 h, cu_g6 h, cu_g7 h, cu_g8 h, cu_g9 h, cu_g10 h, cu_s5 h, cu_s7 h, cu_s10 h, cu_n1 h, cu_m1 h, cu_n2 h, cu_m2 h, cu_n3 h, cu_n4 h, cu_n5 h, cu_n6 h, cc_blockAt_y h hn h1 h2, cu_b0 hbl, cu_b1 hbl, cu_b2 hbl, cu_bis hbl, cu_n11 hbl, cu_n12 hbl, e0, e1, e2, Option.bind_some, Option.toList_some, Option.toList_none, List.cons_append, List.nil_append, ↓reduceIte, reduceCtorEq, not_false_eq_true]
        unfold vc_bl
        simp [e0, e1, e2]
      · simp only [e_CC_block, x_CC_block_0, x_CC_block_1, x_CC_block_2, x_CC_block_5, x_CC_block_6, x_CC_block_7, x_CC_block_10, x_CC_block_11, x_CC_block_12, x_CC_block_13, x_CC_block_16, x_CC_block_17, x_CC_block_20, x_CC_block_21, x_CC_block_22, x_CC_block_23, x_CC_block_26, x_CC_block_27, x_CC_block_30, x_CC_block_33, x_CC_block_34, x_CC_block_37, x_CC_block_38, x_CC_block_39, x_CC_block_40, x_CC_block_43, x_CC_block_46, x_CC_block_47, x_CC_block_48, x_CC_block_51, x_CC_block_54, x_CC_block_55, cu_is h, cu_g0 h, cu_g1 h, cu_g2 h, cu_g3 h, cu_g4 h, cu_g5 h, cu_g6 h, cu_g7 h, cu_g8 h, cu_g9 h, cu_g10 h, cu_s5 h, cu_s7 h, cu_s10 h, cu_n1 h, cu_m1 h, cu_n2 h, cu_m2 h, cu_n3 h, cu_n4 h, cu_n5 h, cu_n6 h, cc_blockAt_y h hn h1 h2, cu_b0 hbl, cu_b1 hbl, cu_b2 hbl, cu_bis hbl, cu_n11 hbl, cu_n12 hbl, bl_look hbl e0 e1 e2, e0, e1, e2, Option.bind_some, Option.toList_some, Option.toList_none, List.cons_append, List.nil_append, ↓reduceIte, reduceCtorEq, not_false_eq_true]
theorem cc_prv_n (h : jl_C K g cc n) (hn : jn_C f cc n) {b c l x y z : Int32} (hb : (b < 1 ∨ f 0 0 7 < b) ∨ c < 0 ∨ 8 ≤ c) : jx_m Z (d + 2) 61 [.inr (some (K.2.1 0 0)), .inl b, .inl c, .inl l, .inl x, .inl y, .inl z] (jy_w K f g) = some (some (.inl 0), jy_w K f g) := by
  by_cases e1 : b < 1 ∨ f 0 0 7 < b
  · simp only [e_CC_proves, x_CC_proves_0, x_CC_proves_1, x_CC_proves_2, x_CC_proves_5, x_CC_proves_7, x_CC_proves_9, x_CC_proves_12, x_CC_proves_13, x_CC_proves_16, x_CC_proves_17, x_CC_proves_19, x_CC_proves_22, x_CC_proves_23, cu_is h, cu_g0 h, cu_g1 h, cu_g2 h, cu_g3 h, cu_g4 h, cu_g5 h, cu_g6 h, cu_g7 h, cu_g8 h, cu_g9 h, cu_g10 h, cu_s5 h, cu_s7 h, cu_s10 h, cu_n1 h, cu_m1 h, cu_n2 h, cu_m2 h, cu_n3 h, cu_n4 h, cu_n5 h, cu_n6 h, cc_blockAt_n h e1, Option.bind_some, Option.toList_some, Option.toList_none, List.cons_append, List.nil_append, ↓reduceIte]
    simp
  · obtain ⟨q, rfl, q1, q2⟩ := jz_blkC hn.2.1 hn.2.2.2 e1
    simp only [e_CC_proves, x_CC_proves_0, x_CC_proves_1, x_CC_proves_2, x_CC_proves_5, x_CC_proves_7, x_CC_proves_9, x_CC_proves_12, x_CC_proves_13, x_CC_proves_16, x_CC_proves_17, x_CC_proves_19, x_CC_proves_22, x_CC_proves_23, cu_is h, cu_g0 h, cu_g1 h, cu_g2 h, cu_g3 h, cu_g4 h, cu_g5 h, cu_g6 h, cu_g7 h, cu_g8 h, cu_g9 h, cu_g10 h, cu_s5 h, cu_s7 h, cu_s10 h, cu_n1 h, cu_m1 h, cu_n2 h, cu_m2 h, cu_n3 h, cu_n4 h, cu_n5 h, cu_n6 h, cc_blockAt_y h hn q1 q2, Option.bind_some, Option.toList_some, Option.toList_none, List.cons_append, List.nil_append, ↓reduceIte, reduceCtorEq]
    by_cases e2 : c < 0
    · simp [e2]
    · have e3 : ¬ c < 8 := Int32.not_lt.mpr ((hb.resolve_left e1).resolve_left e2)
      simp [e2, e3]
theorem cc_prv (h : jl_C K g cc n) (hn : jn_C f cc n) {b : Nat} {c l x y z : Int32} (h1 : 1 ≤ b) (h2 : b ≤ n) (hc : ¬ (c < 0 ∨ 8 ≤ c)) : jx_m Z (d + 4) 61 [.inr (some (K.2.1 0 0)), .inl (nI b), .inl c, .inl l, .inl x, .inl y, .inl z] (jy_w K f g) = some (some (.inl (jq_b (decide (jq_over (jq_over (jq_over l x 1) y 2) z 3 = f 12 b 1)))), jy_w K f g) := by
  have hbl := h.2.2.2.1 b h1 h2
  have e2 : ¬ c < 0 := fun q => hc (Or.inl q)
  have e3 : c < 8 := Int32.not_le.mp (fun q => hc (Or.inr q))
  simp only [e_CC_proves, x_CC_proves_0, x_CC_proves_1, x_CC_proves_2, x_CC_proves_5, x_CC_proves_7, x_CC_proves_9, x_CC_proves_12, x_CC_proves_13, x_CC_proves_16, x_CC_proves_17, x_CC_proves_19, x_CC_proves_22, x_CC_proves_23, x_CC_proves_24, x_CC_proves_25, x_CC_proves_27, x_CC_proves_28, x_CC_proves_29, x_CC_proves_32, x_CC_proves_34, x_CC_proves_36, x_CC_proves_38, x_CC_proves_39, x_CC_proves_40, x_CC_proves_41, x_CC_proves_42, x_CC_proves_45, x_CC_proves_47, x_CC_proves_49, x_CC_proves_51, x_CC_proves_52, x_CC_proves_53, x_CC_proves_54, x_CC_proves_55, x_CC_proves_58, x_CC_proves_60, x_CC_proves_62, x_CC_proves_64, x_CC_proves_67, x_CC_proves_70, x_CC_proves_71, x_CC_proves_74, x_CC_proves_75, cu_is h, cu_g0 h, cu_g1 h, cu_g2 h, cu_g3 h, cu_g4 h, cu_g5 h, cu_g6 h, cu_g7 h, cu_g8 h, cu_g9 h, cu_g10 h, cu_s5 h, cu_s7 h, cu_s10 h, cu_n1 h, cu_m1 h, cu_n2 h, cu_m2 h, cu_n3 h, cu_n4 h, cu_n5 h, cu_n6 h, cc_blockAt_y h hn h1 h2, cu_b0 hbl, cu_b1 hbl, cu_b2 hbl, cu_bis hbl, cu_n11 hbl, cu_n12 hbl, bl_root hbl, cc_climb, e2, e3, Option.bind_some, Option.toList_some, Option.toList_none, List.cons_append, List.nil_append, ↓reduceIte, reduceCtorEq]
  by_cases q : jq_over (jq_over (jq_over l x 1) y 2) z 3 = f 12 b 1 <;> simp [q, jq_b]
theorem cc_lck_l (h : jl_C K g cc n) (hn : jn_C f cc n) : ∀ (m c : Nat) (s : Int32) (l3 : Option jx_V), 8 - c = m → c ≤ 8 → jx_run Z jX_CC_locked (jx_m Z (d + 4)) (4, [some (.inr (some (K.2.1 0 0))), some (.inl s), some (.inl (nI c)), l3], [], jy_w K f g) = some (some (.inl (jq_sum (vc_lk f cc) m c s)), jy_w K f g) := by
  have h8 := hn.2.2.1
  intro m
  induction m with
  | zero =>
    intro c s l3 hm hc
    have e : c = 8 := by omega
    subst e
    have h0 : (8 : Int32) ≤ nI 8 := by decide
    rw [x_CC_locked_4]
    simp only [x_CC_locked_0, x_CC_locked_1, x_CC_locked_2, x_CC_locked_3, x_CC_locked_5, x_CC_locked_7, x_CC_locked_10, x_CC_locked_11, x_CC_locked_12, x_CC_locked_15, x_CC_locked_16, x_CC_locked_17, x_CC_locked_20, x_CC_locked_21, x_CC_locked_24, x_CC_locked_27, x_CC_locked_28, x_CC_locked_29, x_CC_locked_32, x_CC_locked_33, x_CC_locked_36, x_CC_locked_39, x_CC_locked_40, x_CC_locked_41, x_CC_locked_42, x_CC_locked_45, x_CC_locked_48, x_CC_locked_49, h0, ↓reduceIte]
    rfl
  | succ m ih =>
    intro c s l3 hm hc
    have h0 : ¬ (8 : Int32) ≤ nI c := nI_ge (b := 8) (by omega) (by omega)
    have I := fun l3 => ih (c + 1) (s + vc_lk f cc c) l3 (by omega) (by omega)
    rw [x_CC_locked_4]
    simp only [jq_sum]
    unfold vc_lk at I ⊢
    by_cases q : cc ≤ c
    · have qq : nI c < 0 ∨ f 0 0 5 ≤ nI c := Or.inr (by rw [hn.1]; exact nI_le q (by omega))
      simp only [x_CC_locked_0, x_CC_locked_1, x_CC_locked_2, x_CC_locked_3, x_CC_locked_5, x_CC_locked_7, x_CC_locked_10, x_CC_locked_11, x_CC_locked_12, x_CC_locked_15, x_CC_locked_16, x_CC_locked_17, x_CC_locked_20, x_CC_locked_21, x_CC_locked_24, x_CC_locked_27, x_CC_locked_28, x_CC_locked_29, x_CC_locked_32, x_CC_locked_33, x_CC_locked_36, x_CC_locked_39, x_CC_locked_40, x_CC_locked_41, x_CC_locked_42, x_CC_locked_45, x_CC_locked_48, x_CC_locked_49, cu_is h, cu_g0 h, cu_g1 h, cu_g2 h, cu_g3 h, cu_g4 h, cu_g5 h, cu_g6 h, cu_g7 h, cu_g8 h, cu_g9 h, cu_g10 h, cu_s5 h, cu_s7 h, cu_s10 h, cu_n1 h, cu_m1 h, cu_n2 h, cu_m2 h, cu_n3 h, cu_n4 h, cu_n5 h, cu_n6 h, cc_coinAt_n h qq, h0, jz_inc, q, Option.bind_some, Option.toList_some, Option.toList_none, List.cons_append, List.nil_append, ↓reduceIte, Int32.add_zero] at I ⊢
      exact I _
    · have hcl := h.2.2.1 c (by omega)
      by_cases q2 : f 7 c 1 = 0
      · simp only [x_CC_locked_0, x_CC_locked_1, x_CC_locked_2, x_CC_locked_3, x_CC_locked_5, x_CC_locked_7, x_CC_locked_10, x_CC_locked_11, x_CC_locked_12, x_CC_locked_15, x_CC_locked_16, x_CC_locked_17, x_CC_locked_20, x_CC_locked_21, x_CC_locked_24, x_CC_locked_27, x_CC_locked_28, x_CC_locked_29, x_CC_locked_32, x_CC_locked_33, x_CC_locked_36, x_CC_locked_39, x_CC_locked_40, x_CC_locked_41, x_CC_locked_42, x_CC_locked_45, x_CC_locked_48, x_CC_locked_49, cu_is h, cu_g0 h, cu_g1 h, cu_g2 h, cu_g3 h, cu_g4 h, cu_g5 h, cu_g6 h, cu_g7 h, cu_g8 h, cu_g9 h, cu_g10 h, cu_s5 h, cu_s7 h, cu_s10 h, cu_n1 h, cu_m1 h, cu_n2 h, cu_m2 h, cu_n3 h, cu_n4 h, cu_n5 h, cu_n6 h, cc_coinAt_y h hn (show c < cc by omega), cu_c0 hcl, cu_c1 hcl, cu_c2 hcl, cu_e0 hcl, cu_e1 hcl, cu_e2 hcl, cu_e3 hcl, cu_e4 hcl, cu_e5 hcl, cu_eis hcl, cu_n9 hcl, cu_l9 hcl, ex_bonds hcl, h0, jz_inc, q, q2, Option.bind_some, Option.toList_some, Option.toList_none, List.cons_append, List.nil_append, ↓reduceIte, reduceCtorEq, not_true_eq_false] at I ⊢
        exact I _
      · simp only [x_CC_locked_0, x_CC_locked_1, x_CC_locked_2, x_CC_locked_3, x_CC_locked_5, x_CC_locked_7, x_CC_locked_10, x_CC_locked_11, x_CC_locked_12, x_CC_locked_15, x_CC_locked_16, x_CC_locked_17, x_CC_locked_20, x_CC_locked_21, x_CC_locked_24, x_CC_locked_27, x_CC_locked_28, x_CC_locked_29, x_CC_locked_32, x_CC_locked_33, x_CC_locked_36, x_CC_locked_39, x_CC_locked_40, x_CC_locked_41, x_CC_locked_42, x_CC_locked_45, x_CC_locked_48, x_CC_locked_49, cu_is h, cu_g0 h, cu_g1 h, cu_g2 h, cu_g3 h, cu_g4 h, cu_g5 h, cu_g6 h, cu_g7 h, cu_g8 h, cu_g9 h, cu_g10 h, cu_s5 h, cu_s7 h, cu_s10 h, cu_n1 h, cu_m1 h, cu_n2 h, cu_m2 h, cu_n3 h, cu_n4 h, cu_n5 h, cu_n6 h, cc_coinAt_y h hn (show c < cc by omega), cu_c0 hcl, cu_c1 hcl, cu_c2 hcl, cu_e0 hcl, cu_e1 hcl, cu_e2 hcl, cu_e3 hcl, cu_e4 hcl, cu_e5 hcl, cu_eis hcl, cu_n9 hcl, cu_l9 hcl, h0, jz_inc, q, q2, Option.bind_some, Option.toList_some, Option.toList_none, List.cons_append, List.nil_append, ↓reduceIte, reduceCtorEq, not_false_eq_true, Int32.add_zero] at I ⊢
        exact I _
theorem cc_lck (h : jl_C K g cc n) (hn : jn_C f cc n) : jx_m Z (d + 5) 63 [.inr (some (K.2.1 0 0))] (jy_w K f g) = some (some (.inl (jq_sum (vc_lk f cc) 8 0 0)), jy_w K f g) := by
  simp only [e_CC_locked, x_CC_locked_0, x_CC_locked_1, x_CC_locked_2, x_CC_locked_3, x_CC_locked_5, x_CC_locked_7, x_CC_locked_10, x_CC_locked_11, x_CC_locked_12, x_CC_locked_15, x_CC_locked_16, x_CC_locked_17, x_CC_locked_20, x_CC_locked_21, x_CC_locked_24, x_CC_locked_27, x_CC_locked_28, x_CC_locked_29, x_CC_locked_32, x_CC_locked_33, x_CC_locked_36, x_CC_locked_39, x_CC_locked_40, x_CC_locked_41, x_CC_locked_42, x_CC_locked_45, x_CC_locked_48, x_CC_locked_49]
  exact cc_lck_l h hn 8 0 0 none (by omega) (by omega)
end CE
