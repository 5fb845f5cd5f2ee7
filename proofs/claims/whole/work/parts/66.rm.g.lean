/-! the reference: calls -/
theorem jq_upl_le {P : Nat → Bool} : ∀ m k r : Nat, r < k + m → 0 < k → jq_upl P m k r < k + m
  | 0, k, r, h, _ => h
  | m + 1, k, r, h, h0 => by
    have := jq_upl_le (P := P) m (k + 1) (if P k = true then k else r) (by split <;> omega) (by omega)
    simp only [jq_upl]
    omega
def vo_dep (f : jy_I) (cc n u : Nat) (v : Int32) : jy_I := jy_up (jy_up (jy_up (jy_up (jy_up (jy_up (jy_up (jy_up (jy_up f 20 0 8 (nI (n + 1))) 29 0 (n + 1) 0) 30 0 (8 * (n + 1) + cc) 1) 31 0 (8 * (n + 1) + cc) 1) 34 0 (8 * (n + 1) + cc) (nI u)) 23 0 u (f 23 0 u - v)) 25 0 cc v) 27 0 (8 * u + cc) (nI (n + 1))) 20 0 4 (nI (cc + 1))
section RG
variable {Z : jx_Sc} {d : Nat} {K : jy_K} {f : jy_I} {g : jy_R} {call : jx_C} {w : jx_W}
theorem rm_dep_bad {r : Option Nat} {u v : Int32} (hb : (u < 0 ∨ 3 < u) ∨ v < 1 ∨ 50 < v) : jx_m Z (d + 2) 67 [.inr r, .inl u, .inl v] w = some (some (.inl (-1)), w) := by
  simp only [e_RM_deposit, x_RM_deposit_0, x_RM_deposit_1, x_RM_deposit_4, x_RM_deposit_7, x_RM_deposit_8, x_RM_deposit_9, x_RM_deposit_12, x_RM_deposit_13, x_RM_deposit_15, x_RM_deposit_18, x_RM_deposit_19, x_RM_deposit_20, x_RM_deposit_21, x_RM_deposit_24, x_RM_deposit_26, x_RM_deposit_29, x_RM_deposit_30, x_RM_deposit_33, x_RM_deposit_35, x_RM_deposit_38, x_RM_deposit_40, x_RM_deposit_41, x_RM_deposit_42, x_RM_deposit_45, x_RM_deposit_46, x_RM_deposit_47, x_RM_deposit_48, x_RM_deposit_51, x_RM_deposit_53, x_RM_deposit_54, x_RM_deposit_55, x_RM_deposit_56, x_RM_deposit_59, x_RM_deposit_61, x_RM_deposit_62, x_RM_deposit_65, x_RM_deposit_66, x_RM_deposit_67, x_RM_deposit_70, x_RM_deposit_71, x_RM_deposit_72, x_RM_deposit_73, x_RM_deposit_76, x_RM_deposit_77, x_RM_deposit_78, x_RM_deposit_79, x_RM_deposit_80, x_RM_deposit_83, x_RM_deposit_84, x_RM_deposit_85, x_RM_deposit_86, x_RM_deposit_87, x_RM_deposit_90, x_RM_deposit_91, x_RM_deposit_92, x_RM_deposit_93, x_RM_deposit_94, x_RM_deposit_97, x_RM_deposit_98, x_RM_deposit_99, x_RM_deposit_100, x_RM_deposit_101, x_RM_deposit_102, x_RM_deposit_103, x_RM_deposit_104, x_RM_deposit_107, x_RM_deposit_108, x_RM_deposit_111, x_RM_deposit_112, x_RM_deposit_113, x_RM_deposit_114, x_RM_deposit_117, x_RM_deposit_119, x_RM_deposit_120, x_RM_deposit_121, x_RM_deposit_122, x_RM_deposit_125, x_RM_deposit_126, x_RM_deposit_127, x_RM_deposit_130, x_RM_deposit_131, x_RM_deposit_132, x_RM_deposit_133, x_RM_deposit_136, x_RM_deposit_137, x_RM_deposit_138, x_RM_deposit_141, x_RM_deposit_142, x_RM_deposit_145, x_RM_deposit_146, x_RM_deposit_147, Option.bind_some, Option.toList_some, Option.toList_none, List.cons_append, List.nil_append, rm_isUser]
  by_cases e1 : u < 0 ∨ 3 < u
  · simp [e1]
  · by_cases e2 : v < 1
    · simp [e1, e2]
    · have e3 : ¬ v ≤ 50 := Int32.not_le.mpr (by
        rcases hb with hb | hb | hb
        · exact absurd hb e1
        · exact absurd hb e2
        · exact hb)
      simp [e1, e2, e3]
theorem rm_dep (h : jl_R K g) {cc n u : Nat} {v : Int32} (hn : jn_R f cc n) (hu : u < 4) (hv : ¬ (v < 1 ∨ 50 < v)) : jx_m Z (d + 2) 67 [.inr (some (K.2.1 20 0)), .inl (nI u), .inl v] (jy_w K f g) = some (if cc = 8 ∨ n = 24 then (some (.inl (-2)), jy_w K f g) else if f 23 0 u < v then (some (.inl (-3)), jy_w K f g) else (some (.inl (nI cc)), jy_w K (vo_dep f cc n u v) g)) := by
  have e1 : ¬ v < 1 := fun q => hv (Or.inl q)
  have e2 : v ≤ 50 := Int32.not_lt.mp (fun q => hv (Or.inr q))
  have hcc := hn.2.2.1
  have hnn := hn.2.2.2
  simp only [e_RM_deposit, x_RM_deposit_0, x_RM_deposit_1, x_RM_deposit_4, x_RM_deposit_7, x_RM_deposit_8, x_RM_deposit_9, x_RM_deposit_12, x_RM_deposit_13, x_RM_deposit_15, x_RM_deposit_18, x_RM_deposit_19, x_RM_deposit_20, x_RM_deposit_21, x_RM_deposit_24, x_RM_deposit_26, x_RM_deposit_29, x_RM_deposit_30, x_RM_deposit_33, x_RM_deposit_35, x_RM_deposit_38, x_RM_deposit_40, x_RM_deposit_41, x_RM_deposit_42, x_RM_deposit_45, x_RM_deposit_46, x_RM_deposit_47, x_RM_deposit_48, x_RM_deposit_51, x_RM_deposit_53, x_RM_deposit_54, x_RM_deposit_55, x_RM_deposit_56, x_RM_deposit_59, x_RM_deposit_61, x_RM_deposit_62, x_RM_deposit_65, x_RM_deposit_66, x_RM_deposit_67, x_RM_deposit_70, x_RM_deposit_71, x_RM_deposit_72, x_RM_deposit_73, x_RM_deposit_76, x_RM_deposit_77, x_RM_deposit_78, x_RM_deposit_79, x_RM_deposit_80, x_RM_deposit_83, x_RM_deposit_84, x_RM_deposit_85, x_RM_deposit_86, x_RM_deposit_87, x_RM_deposit_90, x_RM_deposit_91, x_RM_deposit_92, x_RM_deposit_93, x_RM_deposit_94, x_RM_deposit_97, x_RM_deposit_98, x_RM_deposit_99, x_RM_deposit_100, x_RM_deposit_101, x_RM_deposit_102, x_RM_deposit_103, x_RM_deposit_104, x_RM_deposit_107, x_RM_deposit_108, x_RM_deposit_111, x_RM_deposit_112, x_RM_deposit_113, x_RM_deposit_114, x_RM_deposit_117, x_RM_deposit_119, x_RM_deposit_120, x_RM_deposit_121, x_RM_deposit_122, x_RM_deposit_125, x_RM_deposit_126, x_RM_deposit_127, x_RM_deposit_130, x_RM_deposit_131, x_RM_deposit_132, x_RM_deposit_133, x_RM_deposit_136, x_RM_deposit_137, x_RM_deposit_138, x_RM_deposit_141, x_RM_deposit_142, x_RM_deposit_145, x_RM_deposit_146, x_RM_deposit_147, ru_is h, ru_g0 h, ru_s0 h, ru_g1 h, ru_s1 h, ru_g2 h, ru_s2 h, ru_g3 h, ru_g4 h, ru_s4 h, ru_g5 h, ru_g6 h, ru_g7 h, ru_g8 h, ru_s8 h, ru_g9 h, ru_g10 h, ru_g11 h, ru_g12 h, ru_g13 h, ru_g14 h, ru_g15 h, ru_g16 h, ru_g17 h, ru_g18 h, ru_g19 h, ru_g20 h, ru_g21 h, ru_g22 h, ru_g23 h, ru_g24 h, ru_g25 h, ru_g26 h, ru_g27 h, ru_g28 h, ru_g29 h, ru_n3 h, ru_m3 h, ru_n5 h, ru_m5 h, ru_n6 h, ru_m6 h, ru_n7 h, ru_m7 h, ru_n9 h, ru_m9 h, ru_n10 h, ru_m10 h, ru_n11 h, ru_m11 h, ru_n12 h, ru_m12 h, ru_n13 h, ru_m13 h, ru_n14 h, ru_m14 h, ru_n15 h, ru_m15 h, ru_n16 h, ru_m16 h, ru_n17 h, ru_m17 h, ru_n18 h, ru_m18 h, ru_n19 h, ru_m19 h, ru_n20 h, ru_m20 h, ru_n21 h, ru_m21 h, ru_n22 h, ru_m22 h, ru_n23 h, ru_m23 h, ru_n24 h, ru_m24 h, ru_n25 h, ru_m25 h, ru_n26 h, ru_m26 h, ru_n27 h, ru_m27 h, ru_n28 h, ru_m28 h, ru_n29 h, ru_m29 h, Option.bind_some, Option.toList_some, Option.toList_none, List.cons_append, List.nil_append, rm_user_y hu, hn.1, hn.2.1, hu, e1, e2, ↓reduceIte]
  by_cases c1 : cc = 8
  · subst c1
    have : nI 8 = 8 := rfl
    simp [this]
  · have c1' : ¬ nI cc = 8 := fun q => c1 (by have := congrArg Int32.toNatClampNeg q; rwa [nI_clamp (by omega)] at this)
    by_cases c2 : n = 24
    · subst c2
      have : nI 24 = 24 := rfl
      simp [this, c1']
    · have c2' : ¬ nI n = 24 := fun q => c2 (by have := congrArg Int32.toNatClampNeg q; rwa [nI_clamp (by omega)] at this)
      by_cases c3 : f 23 0 u < v
      · have c3' : ¬ v ≤ f 23 0 u := Int32.not_le.mpr c3
        simp [c1, c2, c1', c2', c3, c3']
      · have c3' : v ≤ f 23 0 u := Int32.not_lt.mp c3
        have hk : 8 * (n + 1) + cc < 200 := by omega
        have hs : 8 * u + cc < 32 := by omega
        have hc8 : cc < 8 := by omega
        have e0 : ¬ (1 : Int32) = 0 := by decide
        simp only [c1, c2, c1', c2', c3, c3', ↓reduceIte, not_false_eq_true, not_true_eq_false, or_self, e_RM_deposit, x_RM_deposit_0, x_RM_deposit_1, x_RM_deposit_4, x_RM_deposit_7, x_RM_deposit_8, x_RM_deposit_9, x_RM_deposit_12, x_RM_deposit_13, x_RM_deposit_15, x_RM_deposit_18, x_RM_deposit_19, x_RM_deposit_20, x_RM_deposit_21, x_RM_deposit_24, x_RM_deposit_26, x_RM_deposit_29, x_RM_deposit_30, x_RM_deposit_33, x_RM_deposit_35, x_RM_deposit_38, x_RM_deposit_40, x_RM_deposit_41, x_RM_deposit_42, x_RM_deposit_45, x_RM_deposit_46, x_RM_deposit_47, x_RM_deposit_48, x_RM_deposit_51, x_RM_deposit_53, x_RM_deposit_54, x_RM_deposit_55, x_RM_deposit_56, x_RM_deposit_59, x_RM_deposit_61, x_RM_deposit_62, x_RM_deposit_65, x_RM_deposit_66, x_RM_deposit_67, x_RM_deposit_70, x_RM_deposit_71, x_RM_deposit_72, x_RM_deposit_73, x_RM_deposit_76, x_RM_deposit_77, x_RM_deposit_78, x_RM_deposit_79, x_RM_deposit_80, x_RM_deposit_83, x_RM_deposit_84, x_RM_deposit_85, x_RM_deposit_86, x_RM_deposit_87, x_RM_deposit_90, x_RM_deposit_91, x_RM_deposit_92, x_RM_deposit_93, x_RM_deposit_94, x_RM_deposit_97, x_RM_deposit_98, x_RM_deposit_99, x_RM_deposit_100, x_RM_deposit_101, x_RM_deposit_102, x_RM_deposit_103, x_RM_deposit_104, x_RM_deposit_107, x_RM_deposit_108, x_RM_deposit_111, x_RM_deposit_112, x_RM_deposit_113, x_RM_deposit_114, x_RM_deposit_117, x_RM_deposit_119, x_RM_deposit_120, x_RM_deposit_121, x_RM_deposit_122, x_RM_deposit_125, x_RM_deposit_126, x_RM_deposit_127, x_RM_deposit_130, x_RM_deposit_131, x_RM_deposit_132, x_RM_deposit_133, x_RM_deposit_136, x_RM_deposit_137, x_RM_deposit_138, x_RM_deposit_141, x_RM_deposit_142, x_RM_deposit_145, x_RM_deposit_146, x_RM_deposit_147, ru_is h, ru_g0 h, ru_s0 h, ru_g1 h, ru_s1 h, ru_g2 h, ru_s2 h, ru_g3 h, ru_g4 h, ru_s4 h, ru_g5 h, ru_g6 h, ru_g7 h, ru_g8 h, ru_s8 h, ru_g9 h, ru_g10 h, ru_g11 h, ru_g12 h, ru_g13 h, ru_g14 h, ru_g15 h, ru_g16 h, ru_g17 h, ru_g18 h, ru_g19 h, ru_g20 h, ru_g21 h, ru_g22 h, ru_g23 h, ru_g24 h, ru_g25 h, ru_g26 h, ru_g27 h, ru_g28 h, ru_g29 h, ru_n3 h, ru_m3 h, ru_n5 h, ru_m5 h, ru_n6 h, ru_m6 h, ru_n7 h, ru_m7 h, ru_n9 h, ru_m9 h, ru_n10 h, ru_m10 h, ru_n11 h, ru_m11 h, ru_n12 h, ru_m12 h, ru_n13 h, ru_m13 h, ru_n14 h, ru_m14 h, ru_n15 h, ru_m15 h, ru_n16 h, ru_m16 h, ru_n17 h, ru_m17 h, ru_n18 h, ru_m18 h, ru_n19 h, ru_m19 h, ru_n20 h, ru_m20 h, ru_n21 h, ru_m21 h, ru_n22 h, ru_m22 h, ru_n23 h, ru_m23 h, ru_n24 h, ru_m24 h, ru_n25 h, ru_m25 h, ru_n26 h, ru_m26 h, ru_n27 h, ru_m27 h, ru_n28 h, ru_m28 h, ru_n29 h, ru_m29 h, Option.bind_some, Option.toList_some, Option.toList_none, List.cons_append, List.nil_append, rm_newBlock h hn (show n < 24 by omega), e0, jy_up_self, jy_up_k, jy_up_j, Nat.reduceEqDiff, not_false_eq_true, reduceCtorEq, Nat.reduceAdd, hn.1, hn.2.1, jz_8i, jz_inc, hk, hs, hc8, hu, or_true]
        have : nI (cc + 1) - 1 = nI cc := nI_pred cc
        simp only [this]
        rfl
def vo_note (f : jy_I) (k : Nat) (a b c e : Int32) : jy_I := jy_up (jy_up (jy_up (jy_up (jy_up f 36 0 k 1) 37 0 k a) 38 0 k b) 39 0 k c) 40 0 k e
theorem rm_send_n (h : jl_R K g) {u c t : Int32} (hb : (u < 0 ∨ 3 < u) ∨ (t < 0 ∨ 3 < t) ∨ u = t ∨ (c < 0 ∨ f 20 0 4 ≤ c)) : jx_m Z (d + 3) 70 [.inr (some (K.2.1 20 0)), .inl u, .inl c, .inl t] (jy_w K f g) = some (some (.inl 0), jy_w K f g) := by
  simp only [e_RM_send, x_RM_send_0, x_RM_send_1, x_RM_send_4, x_RM_send_7, x_RM_send_8, x_RM_send_11, x_RM_send_14, x_RM_send_15, x_RM_send_16, x_RM_send_19, x_RM_send_20, x_RM_send_21, x_RM_send_24, x_RM_send_27, x_RM_send_28, Option.bind_some, Option.toList_some, Option.toList_none, List.cons_append, List.nil_append, ru_is h, ↓reduceIte, rm_isUser, rm_isCoin h]
  by_cases e1 : u < 0 ∨ 3 < u
  · simp [e1]
  · by_cases e2 : t < 0 ∨ 3 < t
    · simp [e1, e2]
    · by_cases e3 : u = t
      · simp [e1, e2, e3]
      · have e4 : c < 0 ∨ f 20 0 4 ≤ c := by
          rcases hb with hb | hb | hb | hb
          · exact absurd hb e1
          · exact absurd hb e2
          · exact absurd hb e3
          · exact hb
        simp [e1, e2, e3, e4]
theorem nI_inj {a b : Nat} (ha : a < 2 ^ 31) (hb : b < 2 ^ 31) (h : nI a = nI b) : a = b := by
  have := congrArg Int32.toNatClampNeg h
  rwa [nI_clamp ha, nI_clamp hb] at this
theorem rm_send (h : jl_R K g) {cc n u c t : Nat} (hn : jn_R f cc n) (hu : u < 4) (ht : t < 4) (hut : ¬ u = t) (hc : c < cc) : jx_m Z (d + 3) 70 [.inr (some (K.2.1 20 0)), .inl (nI u), .inl (nI c), .inl (nI t)] (jy_w K f g) = some (if f 27 0 (8 * u + c) = 0 then (some (.inl 0), jy_w K f g) else (some (.inl 1), jy_w K (jy_up (vo_note f c (f 27 0 (8 * u + c)) (nI u) (nI t) (jq_sig (f 20 0 0) (nI u) (nI c) (f 27 0 (8 * u + c)) (nI t))) 27 0 (8 * u + c) 0) g)) := by
  have hcc := hn.2.2.1
  have e1 : ¬ nI u = nI t := fun q => hut (nI_inj (by omega) (by omega) q)
  have hs : 8 * u + c < 32 := by omega
  have hc16 : c < 16 := by omega
  simp only [e_RM_send, x_RM_send_0, x_RM_send_1, x_RM_send_4, x_RM_send_7, x_RM_send_8, x_RM_send_11, x_RM_send_14, x_RM_send_15, x_RM_send_16, x_RM_send_19, x_RM_send_20, x_RM_send_21, x_RM_send_24, x_RM_send_27, x_RM_send_28, x_RM_send_29, x_RM_send_30, x_RM_send_33, x_RM_send_35, x_RM_send_36, x_RM_send_37, x_RM_send_38, x_RM_send_39, x_RM_send_40, x_RM_send_42, x_RM_send_44, x_RM_send_47, x_RM_send_48, x_RM_send_49, x_RM_send_50, x_RM_send_51, x_RM_send_52, x_RM_send_54, x_RM_send_55, x_RM_send_58, x_RM_send_60, x_RM_send_61, x_RM_send_62, x_RM_send_64, x_RM_send_65, x_RM_send_66, x_RM_send_68, x_RM_send_71, x_RM_send_72, x_RM_send_75, x_RM_send_77, x_RM_send_78, x_RM_send_79, x_RM_send_80, x_RM_send_81, x_RM_send_82, x_RM_send_83, x_RM_send_84, ru_is h, ru_g0 h, ru_s0 h, ru_g1 h, ru_s1 h, ru_g2 h, ru_s2 h, ru_g3 h, ru_g4 h, ru_s4 h, ru_g5 h, ru_g6 h, ru_g7 h, ru_g8 h, ru_s8 h, ru_g9 h, ru_g10 h, ru_g11 h, ru_g12 h, ru_g13 h, ru_g14 h, ru_g15 h, ru_g16 h, ru_g17 h, ru_g18 h, ru_g19 h, ru_g20 h, ru_g21 h, ru_g22 h, ru_g23 h, ru_g24 h, ru_g25 h, ru_g26 h, ru_g27 h, ru_g28 h, ru_g29 h, ru_n3 h, ru_m3 h, ru_n5 h, ru_m5 h, ru_n6 h, ru_m6 h, ru_n7 h, ru_m7 h, ru_n9 h, ru_m9 h, ru_n10 h, ru_m10 h, ru_n11 h, ru_m11 h, ru_n12 h, ru_m12 h, ru_n13 h, ru_m13 h, ru_n14 h, ru_m14 h, ru_n15 h, ru_m15 h, ru_n16 h, ru_m16 h, ru_n17 h, ru_m17 h, ru_n18 h, ru_m18 h, ru_n19 h, ru_m19 h, ru_n20 h, ru_m20 h, ru_n21 h, ru_m21 h, ru_n22 h, ru_m22 h, ru_n23 h, ru_m23 h, ru_n24 h, ru_m24 h, ru_n25 h, ru_m25 h, ru_n26 h, ru_m26 h, ru_n27 h, ru_m27 h, ru_n28 h, ru_m28 h, ru_n29 h, ru_m29 h, Option.bind_some, Option.toList_some, Option.toList_none, List.cons_append, List.nil_append, rm_user_y hu, rm_user_y ht, rm_coin_y h hn hc, rm_sig h, rm_note h hc16, e1, hs, jz_8i, ↓reduceIte]
  by_cases e : f 27 0 (8 * u + c) = 0
  · simp [e]
  · simp [e]
    rfl
theorem rm_forge_n (h : jl_R K g) {c p a t s : Int32} (hb : (c < 0 ∨ f 20 0 4 ≤ c) ∨ p < 0 ∨ 31 < p ∨ (a < 0 ∨ 3 < a) ∨ (t < 0 ∨ 3 < t) ∨ (s < 0 ∨ 3 < s)) : jx_m Z (d + 3) 75 [.inr (some (K.2.1 20 0)), .inl c, .inl p, .inl a, .inl t, .inl s] (jy_w K f g) = some (some (.inl 0), jy_w K f g) := by
  simp only [e_RM_forge, x_RM_forge_0, x_RM_forge_1, x_RM_forge_2, x_RM_forge_5, x_RM_forge_8, x_RM_forge_9, x_RM_forge_12, x_RM_forge_13, x_RM_forge_15, x_RM_forge_18, x_RM_forge_19, x_RM_forge_22, x_RM_forge_25, x_RM_forge_27, x_RM_forge_30, x_RM_forge_33, x_RM_forge_35, x_RM_forge_38, x_RM_forge_41, x_RM_forge_42, Option.bind_some, Option.toList_some, Option.toList_none, List.cons_append, List.nil_append, ru_is h, ↓reduceIte, rm_isUser, rm_isCoin h]
  by_cases e1 : c < 0 ∨ f 20 0 4 ≤ c
  · simp [e1]
  · by_cases e2 : p < 0
    · simp [e1, e2]
    · by_cases e3 : 31 < p
      · simp [e1, e2, e3]
      · by_cases e4 : a < 0 ∨ 3 < a
        · simp [e1, e2, e3, e4]
        · by_cases e5 : t < 0 ∨ 3 < t
          · simp [e1, e2, e3, e4, e5]
          · have e6 : s < 0 ∨ 3 < s := by
              rcases hb with hb | hb | hb | hb | hb | hb
              · exact absurd hb e1
              · exact absurd hb e2
              · exact absurd hb e3
              · exact absurd hb e4
              · exact absurd hb e5
              · exact hb
            simp [e1, e2, e3, e4, e5, e6]
theorem rm_forge (h : jl_R K g) {cc n c a t s : Nat} {p : Int32} (hn : jn_R f cc n) (hc : c < cc) (hp : ¬ (p < 0 ∨ 31 < p)) (ha : a < 4) (ht : t < 4) (hs : s < 4) : jx_m Z (d + 3) 75 [.inr (some (K.2.1 20 0)), .inl (nI c), .inl p, .inl (nI a), .inl (nI t), .inl (nI s)] (jy_w K f g) = some (some (.inl 1), jy_w K (vo_note f (8 + c) p (nI a) (nI t) (jq_sig (f 20 0 0) (nI s) (nI c) p (nI t))) g) := by
  have hcc := hn.2.2.1
  have e1 : ¬ p < 0 := fun q => hp (Or.inl q)
  have e2 : ¬ 31 < p := fun q => hp (Or.inr q)
  have hc16 : 8 + c < 16 := by omega
  have e3 : (8 : Int32) + nI c = nI (8 + c) := jz_add 8 c
  simp only [e_RM_forge, x_RM_forge_0, x_RM_forge_1, x_RM_forge_2, x_RM_forge_5, x_RM_forge_8, x_RM_forge_9, x_RM_forge_12, x_RM_forge_13, x_RM_forge_15, x_RM_forge_18, x_RM_forge_19, x_RM_forge_22, x_RM_forge_25, x_RM_forge_27, x_RM_forge_30, x_RM_forge_33, x_RM_forge_35, x_RM_forge_38, x_RM_forge_41, x_RM_forge_42, x_RM_forge_43, x_RM_forge_44, x_RM_forge_46, x_RM_forge_47, x_RM_forge_48, x_RM_forge_50, x_RM_forge_53, x_RM_forge_55, x_RM_forge_56, x_RM_forge_58, x_RM_forge_59, x_RM_forge_60, x_RM_forge_61, x_RM_forge_62, x_RM_forge_64, x_RM_forge_66, x_RM_forge_69, x_RM_forge_70, ru_is h, ru_g0 h, ru_s0 h, ru_g1 h, ru_s1 h, ru_g2 h, ru_s2 h, ru_g3 h, ru_g4 h, ru_s4 h, ru_g5 h, ru_g6 h, ru_g7 h, ru_g8 h, ru_s8 h, ru_g9 h, ru_g10 h, ru_g11 h, ru_g12 h, ru_g13 h, ru_g14 h, ru_g15 h, ru_g16 h, ru_g17 h, ru_g18 h, ru_g19 h, ru_g20 h, ru_g21 h, ru_g22 h, ru_g23 h, ru_g24 h, ru_g25 h, ru_g26 h, ru_g27 h, ru_g28 h, ru_g29 h, Option.bind_some, Option.toList_some, Option.toList_none, List.cons_append, List.nil_append, rm_user_y ha, rm_user_y ht, rm_user_y hs, rm_coin_y h hn hc, rm_sig h, e1, e2, e3, rm_note h hc16, ↓reduceIte]
  rfl
theorem rm_show_n (h : jl_R K g) {b : Int32} (hb : b < 1 ∨ f 20 0 8 < b) : jx_m Z (d + 2) 79 [.inr (some (K.2.1 20 0)), .inl b] (jy_w K f g) = some (some (.inl 0), jy_w K f g) := by
  simp only [e_RM_show, x_RM_show_0, x_RM_show_1, x_RM_show_2, x_RM_show_5, x_RM_show_8, x_RM_show_9, x_RM_show_12, x_RM_show_13, x_RM_show_14, x_RM_show_17, x_RM_show_18, Option.bind_some, Option.toList_some, Option.toList_none, List.cons_append, List.nil_append, ru_is h, ↓reduceIte, rm_isBlock h]
  simp [hb]
theorem rm_show (h : jl_R K g) {cc n b : Nat} (hn : jn_R f cc n) (h1 : 1 ≤ b) (h2 : b ≤ n) : jx_m Z (d + 2) 79 [.inr (some (K.2.1 20 0)), .inl (nI b)] (jy_w K f g) = some (if f 29 0 b = 0 then (some (.inl 0), jy_w K f g) else (some (.inl 1), jy_w K (jy_up f 29 0 b 0) g)) := by
  have := hn.2.2.2
  have hb : b < 25 := by omega
  simp only [e_RM_show, x_RM_show_0, x_RM_show_1, x_RM_show_2, x_RM_show_5, x_RM_show_8, x_RM_show_9, x_RM_show_12, x_RM_show_13, x_RM_show_14, x_RM_show_17, x_RM_show_18, x_RM_show_19, x_RM_show_20, x_RM_show_23, x_RM_show_24, x_RM_show_25, x_RM_show_26, x_RM_show_27, ru_is h, ru_g0 h, ru_s0 h, ru_g1 h, ru_s1 h, ru_g2 h, ru_s2 h, ru_g3 h, ru_g4 h, ru_s4 h, ru_g5 h, ru_g6 h, ru_g7 h, ru_g8 h, ru_s8 h, ru_g9 h, ru_g10 h, ru_g11 h, ru_g12 h, ru_g13 h, ru_g14 h, ru_g15 h, ru_g16 h, ru_g17 h, ru_g18 h, ru_g19 h, ru_g20 h, ru_g21 h, ru_g22 h, ru_g23 h, ru_g24 h, ru_g25 h, ru_g26 h, ru_g27 h, ru_g28 h, ru_g29 h, ru_n3 h, ru_m3 h, ru_n5 h, ru_m5 h, ru_n6 h, ru_m6 h, ru_n7 h, ru_m7 h, ru_n9 h, ru_m9 h, ru_n10 h, ru_m10 h, ru_n11 h, ru_m11 h, ru_n12 h, ru_m12 h, ru_n13 h, ru_m13 h, ru_n14 h, ru_m14 h, ru_n15 h, ru_m15 h, ru_n16 h, ru_m16 h, ru_n17 h, ru_m17 h, ru_n18 h, ru_m18 h, ru_n19 h, ru_m19 h, ru_n20 h, ru_m20 h, ru_n21 h, ru_m21 h, ru_n22 h, ru_m22 h, ru_n23 h, ru_m23 h, ru_n24 h, ru_m24 h, ru_n25 h, ru_m25 h, ru_n26 h, ru_m26 h, ru_n27 h, ru_m27 h, ru_n28 h, ru_m28 h, ru_n29 h, ru_m29 h, Option.bind_some, Option.toList_some, Option.toList_none, List.cons_append, List.nil_append, rm_block_y h hn h1 h2, hb]
  by_cases e : f 29 0 b = 0 <;> simp [e]
end RG
