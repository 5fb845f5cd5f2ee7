/-! the reference: what is asked -/
theorem jz_d3 : ∀ a, a < 24 → nI a / 3 = nI (a / 3) ∧ nI a - nI a / 3 * 3 = nI (a % 3) := by decide
theorem jz_ix : ∀ c, c < 8 → ∀ q, q < 3 → (nI c >>> (nI q &&& 31)) ^^^ 1 = nI ((c / 2 ^ q) ^^^ 1) ∧ (c / 2 ^ q) ^^^ 1 < 8 := by decide
theorem jz_sub (a b : Nat) (h : b ≤ a) : nI a - nI b = nI (a - b) := by
  have : nI a = nI (a - b) + nI b := by rw [jz_add]; congr 1; omega
  rw [this, Int32.add_sub_cancel]
theorem jq_mix_cm (a b v : Int32) : jq_mix a b v = jq_mix b a v := by
  unfold jq_mix
  rw [Int32.xor_comm]
theorem jq_over_cm (a b v : Int32) : jq_over a b v = jq_over b a v := by
  unfold jq_over
  rw [jq_mix_cm]
  by_cases h1 : a = 0 <;> by_cases h2 : b = 0 <;> simp [h1, h2]
/-- the sum of what is locked -/
def jq_sum (t : Nat → Int32) : Nat → Nat → Int32 → Int32
  | 0, _, s => s
  | m + 1, k, s => jq_sum t m (k + 1) (s + t k)
def vr_lk (f : jy_I) (n c : Nat) : Int32 := (if f 26 0 c = 0 then f 25 0 c else 0) + (if f 41 0 c = 0 then 0 else 10 + 2 * nI (jq_cnt (vr_std f c) n 1 0))
def vr_coin (f : jy_I) (cc n c k : Nat) : Int32 := if k = 0 then (if cc ≤ c then 0 else if f 26 0 c = 0 then 1 else 2) else if k = 1 then f 25 0 c else if f 41 0 c = 0 then 0 else if k = 2 then f 42 0 c + 1 else if k = 3 then f 43 0 c else if k = 4 then f 44 0 c else if k = 5 then f 45 0 c else nI (jq_cnt (vr_std f c) n 1 0)
def vr_root (f : jy_I) (b : Nat) : Int32 := jq_lev (vr_row f b 8) 3 0
section RJ
variable {Z : jx_Sc} {d : Nat} {K : jy_K} {f : jy_I} {g : jy_R} {call : jx_C} {w : jx_W}
theorem rm_usr_n {r : Option Nat} {u k : Int32} (hb : (u < 0 ∨ 3 < u) ∨ k < 0 ∨ 8 < k) : jx_m Z (d + 2) 98 [.inr r, .inl u, .inl k] w = some (some (.inl (-1)), w) := by
  simp only [e_RM_user, x_RM_user_0, x_RM_user_1, x_RM_user_4, x_RM_user_7, x_RM_user_8, x_RM_user_11, x_RM_user_12, x_RM_user_14, x_RM_user_17, x_RM_user_18, Option.bind_some, Option.toList_some, Option.toList_none, List.cons_append, List.nil_append, rm_isUser]
  by_cases e1 : u < 0 ∨ 3 < u
  · simp [e1]
  · by_cases e2 : k < 0
    · simp [e1, e2]
    · have e3 : ¬ k ≤ 8 := Int32.not_le.mpr (by
        rcases hb with hb | hb | hb
        · exact absurd hb e1
        · exact absurd hb e2
        · exact hb)
      simp [e1, e2, e3]
theorem rm_usr (h : jl_R K g) {u k : Nat} (hu : u < 4) (hk : k ≤ 8) : jx_m Z (d + 2) 98 [.inr (some (K.2.1 20 0)), .inl (nI u), .inl (nI k)] (jy_w K f g) = some (some (.inl (if k = 0 then f 23 0 u else f 27 0 (8 * u + (k - 1)))), jy_w K f g) := by
  have e1 : ¬ nI k < 0 := nI_pos (by omega)
  have e2 : nI k ≤ 8 := nI_le (b := 8) hk (by omega)
  cases k with
  | zero =>
    have e0 : nI 0 = 0 := nI_0
    simp only [e_RM_user, x_RM_user_0, x_RM_user_1, x_RM_user_4, x_RM_user_7, x_RM_user_8, x_RM_user_11, x_RM_user_12, x_RM_user_14, x_RM_user_17, x_RM_user_18, x_RM_user_19, x_RM_user_20, x_RM_user_23, x_RM_user_24, x_RM_user_27, x_RM_user_28, x_RM_user_29, x_RM_user_32, x_RM_user_33, x_RM_user_36, x_RM_user_38, x_RM_user_39, x_RM_user_40, x_RM_user_41, x_RM_user_42, x_RM_user_43, x_RM_user_44, x_RM_user_45, ru_is h, ru_g0 h, ru_s0 h, ru_g1 h, ru_s1 h, ru_g2 h, ru_s2 h, ru_g3 h, ru_g4 h, ru_s4 h, ru_g5 h, ru_g6 h, ru_g7 h, ru_g8 h, ru_s8 h, ru_g9 h, ru_g10 h, ru_g11 h, ru_g12 h, ru_g13 h, ru_g14 h, ru_g15 h, ru_g16 h, ru_g17 h, ru_g18 h, ru_g19 h, ru_g20 h, ru_g21 h, ru_g22 h, ru_g23 h, ru_g24 h, ru_g25 h, ru_g26 h, ru_g27 h, ru_g28 h, ru_g29 h, ru_n3 h, ru_m3 h, ru_n5 h, ru_m5 h, ru_n6 h, ru_m6 h, ru_n7 h, ru_m7 h, ru_n9 h, ru_m9 h, ru_n10 h, ru_m10 h, ru_n11 h, ru_m11 h, ru_n12 h, ru_m12 h, ru_n13 h, ru_m13 h, ru_n14 h, ru_m14 h, ru_n15 h, ru_m15 h, ru_n16 h, ru_m16 h, ru_n17 h, ru_m17 h, ru_n18 h, ru_m18 h, ru_n19 h, ru_m19 h, ru_n20 h, ru_m20 h, ru_n21 h, ru_m21 h, ru_n22 h, ru_m22 h, ru_n23 h, ru_m23 h, ru_n24 h, ru_m24 h, ru_n25 h, ru_m25 h, ru_n26 h, ru_m26 h, ru_n27 h, ru_m27 h, ru_n28 h, ru_m28 h, ru_n29 h, ru_m29 h, Option.bind_some, Option.toList_some, Option.toList_none, List.cons_append, List.nil_append, rm_user_y hu, hu, e1, e2, ↓reduceIte]
    simp [e0]
  | succ j =>
    have e0 : ¬ nI (j + 1) = 0 := nI_ne0 (by omega) (by omega)
    have hs : 8 * u + j < 32 := by omega
    have e3 : nI (8 * u + (j + 1)) - 1 = nI (8 * u + j) := nI_pred _
    simp only [e_RM_user, x_RM_user_0, x_RM_user_1, x_RM_user_4, x_RM_user_7, x_RM_user_8, x_RM_user_11, x_RM_user_12, x_RM_user_14, x_RM_user_17, x_RM_user_18, x_RM_user_19, x_RM_user_20, x_RM_user_23, x_RM_user_24, x_RM_user_27, x_RM_user_28, x_RM_user_29, x_RM_user_32, x_RM_user_33, x_RM_user_36, x_RM_user_38, x_RM_user_39, x_RM_user_40, x_RM_user_41, x_RM_user_42, x_RM_user_43, x_RM_user_44, x_RM_user_45, ru_is h, ru_g0 h, ru_s0 h, ru_g1 h, ru_s1 h, ru_g2 h, ru_s2 h, ru_g3 h, ru_g4 h, ru_s4 h, ru_g5 h, ru_g6 h, ru_g7 h, ru_g8 h, ru_s8 h, ru_g9 h, ru_g10 h, ru_g11 h, ru_g12 h, ru_g13 h, ru_g14 h, ru_g15 h, ru_g16 h, ru_g17 h, ru_g18 h, ru_g19 h, ru_g20 h, ru_g21 h, ru_g22 h, ru_g23 h, ru_g24 h, ru_g25 h, ru_g26 h, ru_g27 h, ru_g28 h, ru_g29 h, ru_n3 h, ru_m3 h, ru_n5 h, ru_m5 h, ru_n6 h, ru_m6 h, ru_n7 h, ru_m7 h, ru_n9 h, ru_m9 h, ru_n10 h, ru_m10 h, ru_n11 h, ru_m11 h, ru_n12 h, ru_m12 h, ru_n13 h, ru_m13 h, ru_n14 h, ru_m14 h, ru_n15 h, ru_m15 h, ru_n16 h, ru_m16 h, ru_n17 h, ru_m17 h, ru_n18 h, ru_m18 h, ru_n19 h, ru_m19 h, ru_n20 h, ru_m20 h, ru_n21 h, ru_m21 h, ru_n22 h, ru_m22 h, ru_n23 h, ru_m23 h, ru_n24 h, ru_m24 h, ru_n25 h, ru_m25 h, ru_n26 h, ru_m26 h, ru_n27 h, ru_m27 h, ru_n28 h, ru_m28 h, ru_n29 h, ru_m29 h, Option.bind_some, Option.toList_some, Option.toList_none, List.cons_append, List.nil_append, rm_user_y hu, e1, e2, jz_8i, e3, hs, ↓reduceIte]
    simp [e0]
theorem rm_coi_n {r : Option Nat} {c k : Int32} (hb : c < 0 ∨ 7 < c ∨ k < 0 ∨ 6 < k) : jx_m Z (d + 1) 99 [.inr r, .inl c, .inl k] w = some (some (.inl (-1)), w) := by
  simp only [e_RM_coin, x_RM_coin_0, x_RM_coin_1, x_RM_coin_4, x_RM_coin_5, x_RM_coin_7, x_RM_coin_10, x_RM_coin_11, x_RM_coin_14, x_RM_coin_15, x_RM_coin_17, x_RM_coin_20, x_RM_coin_21]
  by_cases e1 : c < 0
  · simp [e1]
  · by_cases e2 : 7 < c
    · simp [e1, e2]
    · by_cases e3 : k < 0
      · simp [e1, e2, e3]
      · have e4 : ¬ k ≤ 6 := Int32.not_le.mpr (by
          rcases hb with hb | hb | hb | hb
          · exact absurd hb e1
          · exact absurd hb e2
          · exact absurd hb e3
          · exact hb)
        simp [e1, e2, e3, e4]
theorem nI_ne {a b : Nat} (ha : a < 2 ^ 31) (hb : b < 2 ^ 31) (h : ¬ a = b) : ¬ nI a = nI b := fun q => h (nI_inj ha hb q)
theorem rm_coi (h : jl_R K g) {cc n c k : Nat} (hn : jn_R f cc n) (hc : c < 8) (hk : k ≤ 6) : jx_m Z (d + 2) 99 [.inr (some (K.2.1 20 0)), .inl (nI c), .inl (nI k)] (jy_w K f g) = some (some (.inl (vr_coin f cc n c k)), jy_w K f g) := by
  have hcc := hn.2.2.1
  have e1 : ¬ nI c < 0 := nI_pos (by omega)
  have e2 : ¬ (7 : Int32) < nI c := nI_nlt (a := 7) (b := c) (by omega) (by omega)
  have e3 : ¬ nI k < 0 := nI_pos (by omega)
  have e4 : nI k ≤ 6 := nI_le (b := 6) hk (by omega)
  have k0 : (nI k = 0) = (k = 0) := propext ⟨fun q => nI_inj (b := 0) (by omega) (by omega) q, fun q => by rw [q]; rfl⟩
  have k1 : (nI k = 1) = (k = 1) := propext ⟨fun q => nI_inj (b := 1) (by omega) (by omega) q, fun q => by rw [q]; rfl⟩
  have k2 : (nI k = 2) = (k = 2) := propext ⟨fun q => nI_inj (b := 2) (by omega) (by omega) q, fun q => by rw [q]; rfl⟩
  have k3 : (nI k = 3) = (k = 3) := propext ⟨fun q => nI_inj (b := 3) (by omega) (by omega) q, fun q => by rw [q]; rfl⟩
  have k4 : (nI k = 4) = (k = 4) := propext ⟨fun q => nI_inj (b := 4) (by omega) (by omega) q, fun q => by rw [q]; rfl⟩
  have k5 : (nI k = 5) = (k = 5) := propext ⟨fun q => nI_inj (b := 5) (by omega) (by omega) q, fun q => by rw [q]; rfl⟩
  have kc : (nI c < nI cc) = (¬ cc ≤ c) := propext ⟨fun q z => nI_nlt z (by omega) q, fun q => nI_lt (by omega) (by omega)⟩
  simp only [e_RM_coin, x_RM_coin_0, x_RM_coin_1, x_RM_coin_4, x_RM_coin_5, x_RM_coin_7, x_RM_coin_10, x_RM_coin_11, x_RM_coin_14, x_RM_coin_15, x_RM_coin_17, x_RM_coin_20, x_RM_coin_21, x_RM_coin_22, x_RM_coin_23, x_RM_coin_26, x_RM_coin_27, x_RM_coin_28, x_RM_coin_31, x_RM_coin_34, x_RM_coin_35, x_RM_coin_38, x_RM_coin_39, x_RM_coin_42, x_RM_coin_43, x_RM_coin_44, x_RM_coin_47, x_RM_coin_48, x_RM_coin_51, x_RM_coin_52, x_RM_coin_53, x_RM_coin_54, x_RM_coin_55, x_RM_coin_58, x_RM_coin_59, x_RM_coin_62, x_RM_coin_63, x_RM_coin_64, x_RM_coin_65, x_RM_coin_66, x_RM_coin_69, x_RM_coin_70, x_RM_coin_71, x_RM_coin_74, x_RM_coin_75, x_RM_coin_76, x_RM_coin_77, x_RM_coin_78, x_RM_coin_81, x_RM_coin_82, x_RM_coin_85, x_RM_coin_86, x_RM_coin_87, x_RM_coin_88, x_RM_coin_89, x_RM_coin_92, x_RM_coin_93, x_RM_coin_94, x_RM_coin_97, x_RM_coin_98, x_RM_coin_101, x_RM_coin_102, x_RM_coin_103, x_RM_coin_106, x_RM_coin_107, x_RM_coin_108, x_RM_coin_111, x_RM_coin_112, x_RM_coin_115, x_RM_coin_116, x_RM_coin_117, x_RM_coin_120, x_RM_coin_121, x_RM_coin_122, x_RM_coin_125, x_RM_coin_126, x_RM_coin_129, x_RM_coin_130, x_RM_coin_131, x_RM_coin_134, x_RM_coin_135, x_RM_coin_136, x_RM_coin_139, ru_is h, ru_g0 h, ru_s0 h, ru_g1 h, ru_s1 h, ru_g2 h, ru_s2 h, ru_g3 h, ru_g4 h, ru_s4 h, ru_g5 h, ru_g6 h, ru_g7 h, ru_g8 h, ru_s8 h, ru_g9 h, ru_g10 h, ru_g11 h, ru_g12 h, ru_g13 h, ru_g14 h, ru_g15 h, ru_g16 h, ru_g17 h, ru_g18 h, ru_g19 h, ru_g20 h, ru_g21 h, ru_g22 h, ru_g23 h, ru_g24 h, ru_g25 h, ru_g26 h, ru_g27 h, ru_g28 h, ru_g29 h, ru_n3 h, ru_m3 h, ru_n5 h, ru_m5 h, ru_n6 h, ru_m6 h, ru_n7 h, ru_m7 h, ru_n9 h, ru_m9 h, ru_n10 h, ru_m10 h, ru_n11 h, ru_m11 h, ru_n12 h, ru_m12 h, ru_n13 h, ru_m13 h, ru_n14 h, ru_m14 h, ru_n15 h, ru_m15 h, ru_n16 h, ru_m16 h, ru_n17 h, ru_m17 h, ru_n18 h, ru_m18 h, ru_n19 h, ru_m19 h, ru_n20 h, ru_m20 h, ru_n21 h, ru_m21 h, ru_n22 h, ru_m22 h, ru_n23 h, ru_m23 h, ru_n24 h, ru_m24 h, ru_n25 h, ru_m25 h, ru_n26 h, ru_m26 h, ru_n27 h, ru_m27 h, ru_n28 h, ru_m28 h, ru_n29 h, ru_m29 h, Option.bind_some, Option.toList_some, Option.toList_none, List.cons_append, List.nil_append, rm_std h hn hc, hn.1, hc, e1, e2, e3, e4, k0, k1, k2, k3, k4, k5, kc, ↓reduceIte]
  unfold vr_coin
  by_cases q0 : k = 0
  · by_cases q1 : cc ≤ c
    · simp [q0, q1]
    · by_cases q2 : f 26 0 c = 0 <;> simp [q0, q1, q2]
  · by_cases q1 : k = 1
    · simp [q1]
    · by_cases q2 : f 41 0 c = 0
      · simp [q0, q1, q2]
      · by_cases q3 : k = 2
        · simp [q2, q3]
        · by_cases q4 : k = 3
          · simp [q2, q4]
          · by_cases q5 : k = 4
            · simp [q2, q5]
            · by_cases q6 : k = 5 <;> simp [q0, q1, q2, q3, q4, q5, q6]
theorem rm_blk_n (h : jl_R K g) {b k : Int32} (hb : (b < 1 ∨ f 20 0 8 < b) ∨ k < 0 ∨ 33 < k) : jx_m Z (d + 2) 101 [.inr (some (K.2.1 20 0)), .inl b, .inl k] (jy_w K f g) = some (some (.inl 0), jy_w K f g) := by
  simp only [e_RM_block, x_RM_block_0, x_RM_block_1, x_RM_block_2, x_RM_block_5, x_RM_block_8, x_RM_block_9, x_RM_block_12, x_RM_block_13, x_RM_block_15, x_RM_block_18, x_RM_block_19, Option.bind_some, Option.toList_some, Option.toList_none, List.cons_append, List.nil_append, ru_is h, ↓reduceIte, rm_isBlock h]
  by_cases e1 : b < 1 ∨ f 20 0 8 < b
  · simp [e1]
  · by_cases e2 : k < 0
    · simp [e1, e2]
    · have e3 : ¬ k ≤ 33 := Int32.not_le.mpr (by
        rcases hb with hb | hb | hb
        · exact absurd hb e1
        · exact absurd hb e2
        · exact hb)
      simp [e1, e2, e3]
/-- what a block is asked: the answer, and the row that is left -/
def vr_blk (f : jy_I) (b k : Nat) : Int32 × jy_I := if k = 0 then (vr_root f b, jy_row f 49 0 (jq_lev (vr_row f b 8) 3)) else if ¬ f 29 0 b = 0 then (0, f) else if k = 1 then (1, f) else if k < 10 then (vr_leaf f b (k - 2), f) else (jq_lev (vr_row f b 8) ((k - 10) % 3) (((k - 10) / 3 / 2 ^ ((k - 10) % 3)) ^^^ 1), jy_row f 49 0 (jq_lev (vr_row f b 8) ((k - 10) % 3)))
theorem rm_blk (h : jl_R K g) {cc n b k : Nat} (hn : jn_R f cc n) (h1 : 1 ≤ b) (h2 : b ≤ n) (hk : k ≤ 33) : jx_m Z (d + 4) 101 [.inr (some (K.2.1 20 0)), .inl (nI b), .inl (nI k)] (jy_w K f g) = some (some (.inl (vr_blk f b k).1), jy_w K (vr_blk f b k).2 g) := by
  have hnn := hn.2.2.2
  have hb25 : b < 25 := by omega
  have hb24 : b ≤ 24 := by omega
  have e3 : ¬ nI k < 0 := nI_pos (by omega)
  have e4 : nI k ≤ 33 := nI_le (b := 33) hk (by omega)
  have k0 : (nI k = 0) = (k = 0) := propext ⟨fun q => nI_inj (b := 0) (by omega) (by omega) q, fun q => by rw [q]; rfl⟩
  have k1 : (nI k = 1) = (k = 1) := propext ⟨fun q => nI_inj (b := 1) (by omega) (by omega) q, fun q => by rw [q]; rfl⟩
  have kc : ((10 : Int32) ≤ nI k) = (¬ k < 10) := propext ⟨fun q z => nI_ge (b := 10) z (by omega) q, fun q => nI_le (a := 10) (by omega) (by omega)⟩
  unfold vr_blk
  by_cases q0 : k = 0
  · have z0 : (0 : Nat) < 8 := by omega
    have r0 : jx_gI Z 0 (jy_w K (jy_row f 49 0 (jq_lev (vr_row f b 8) 3)) g) (K.2.1 49 0) 0 = some (jq_lev (vr_row f b 8) 3 0) := by
      have := ru_n29 (Z := Z) (f := jy_row f 49 0 (jq_lev (vr_row f b 8) 3)) h z0
      rw [jy_row_at] at this
      exact this
    have l3 := rm_level (Z := Z) (d := d) (f := f) h hb24 (u := 3) (by omega)
    have l3 : jx_m Z (d + 3) 102 [.inr (some (K.2.1 20 0)), .inl (nI b), .inl 3] (jy_w K f g) = some (none, jy_w K (jy_row f 49 0 (jq_lev (vr_row f b 8) 3)) g) := l3
    simp only [e_RM_block, x_RM_block_0, x_RM_block_1, x_RM_block_2, x_RM_block_5, x_RM_block_8, x_RM_block_9, x_RM_block_12, x_RM_block_13, x_RM_block_15, x_RM_block_18, x_RM_block_19, x_RM_block_20, x_RM_block_21, x_RM_block_24, x_RM_block_25, x_RM_block_26, x_RM_block_27, x_RM_block_30, x_RM_block_31, x_RM_block_34, x_RM_block_35, x_RM_block_36, ru_is h, ru_g0 h, ru_s0 h, ru_g1 h, ru_s1 h, ru_g2 h, ru_s2 h, ru_g3 h, ru_g4 h, ru_s4 h, ru_g5 h, ru_g6 h, ru_g7 h, ru_g8 h, ru_s8 h, ru_g9 h, ru_g10 h, ru_g11 h, ru_g12 h, ru_g13 h, ru_g14 h, ru_g15 h, ru_g16 h, ru_g17 h, ru_g18 h, ru_g19 h, ru_g20 h, ru_g21 h, ru_g22 h, ru_g23 h, ru_g24 h, ru_g25 h, ru_g26 h, ru_g27 h, ru_g28 h, ru_g29 h, Option.bind_some, Option.toList_some, Option.toList_none, List.cons_append, List.nil_append, rm_block_y h hn h1 h2, e3, e4, k0, l3, r0, ↓reduceIte]
    simp [q0, vr_root]
  · by_cases q1 : f 29 0 b = 0
    · by_cases q2 : k = 1
      · simp only [e_RM_block, x_RM_block_0, x_RM_block_1, x_RM_block_2, x_RM_block_5, x_RM_block_8, x_RM_block_9, x_RM_block_12, x_RM_block_13, x_RM_block_15, x_RM_block_18, x_RM_block_19, x_RM_block_20, x_RM_block_21, x_RM_block_24, x_RM_block_25, x_RM_block_26, x_RM_block_27, x_RM_block_30, x_RM_block_31, x_RM_block_34, x_RM_block_35, x_RM_block_36, x_RM_block_37, x_RM_block_38, x_RM_block_41, x_RM_block_42, x_RM_block_43, x_RM_block_46, x_RM_block_47, x_RM_block_48, x_RM_block_49, x_RM_block_50, x_RM_block_53, x_RM_block_54, x_RM_block_55, x_RM_block_56, x_RM_block_58, x_RM_block_61, x_RM_block_62, x_RM_block_63, x_RM_block_64, x_RM_block_65, x_RM_block_66, x_RM_block_69, x_RM_block_70, x_RM_block_71, x_RM_block_73, x_RM_block_74, x_RM_block_75, x_RM_block_76, x_RM_block_77, x_RM_block_78, x_RM_block_80, x_RM_block_81, x_RM_block_82, x_RM_block_83, x_RM_block_85, x_RM_block_86, x_RM_block_87, x_RM_block_89, x_RM_block_92, x_RM_block_93, x_RM_block_96, x_RM_block_97, x_RM_block_99, x_RM_block_100, x_RM_block_101, x_RM_block_102, x_RM_block_103, ru_is h, ru_g0 h, ru_s0 h, ru_g1 h, ru_s1 h, ru_g2 h, ru_s2 h, ru_g3 h, ru_g4 h, ru_s4 h, ru_g5 h, ru_g6 h, ru_g7 h, ru_g8 h, ru_s8 h, ru_g9 h, ru_g10 h, ru_g11 h, ru_g12 h, ru_g13 h, ru_g14 h, ru_g15 h, ru_g16 h, ru_g17 h, ru_g18 h, ru_g19 h, ru_g20 h, ru_g21 h, ru_g22 h, ru_g23 h, ru_g24 h, ru_g25 h, ru_g26 h, ru_g27 h, ru_g28 h, ru_g29 h, ru_n3 h, ru_m3 h, ru_n5 h, ru_m5 h, ru_n6 h, ru_m6 h, ru_n7 h, ru_m7 h, ru_n9 h, ru_m9 h, ru_n10 h, ru_m10 h, ru_n11 h, ru_m11 h, ru_n12 h, ru_m12 h, ru_n13 h, ru_m13 h, ru_n14 h, ru_m14 h, ru_n15 h, ru_m15 h, ru_n16 h, ru_m16 h, ru_n17 h, ru_m17 h, ru_n18 h, ru_m18 h, ru_n19 h, ru_m19 h, ru_n20 h, ru_m20 h, ru_n21 h, ru_m21 h, ru_n22 h, ru_m22 h, ru_n23 h, ru_m23 h, ru_n24 h, ru_m24 h, ru_n25 h, ru_m25 h, ru_n26 h, ru_m26 h, ru_n27 h, ru_m27 h, ru_n28 h, ru_m28 h, ru_n29 h, ru_m29 h, Option.bind_some, Option.toList_some, Option.toList_none, List.cons_append, List.nil_append, rm_block_y h hn h1 h2, e3, e4, k0, k1, kc, hb25, ↓reduceIte]
        simp [q1, q2]
      · by_cases q3 : k < 10
        · have e5 : nI k - 2 = nI (k - 2) := jz_sub k 2 (by omega)
          have e6 : k - 2 < 8 := by omega
          simp only [e_RM_block, x_RM_block_0, x_RM_block_1, x_RM_block_2, x_RM_block_5, x_RM_block_8, x_RM_block_9, x_RM_block_12, x_RM_block_13, x_RM_block_15, x_RM_block_18, x_RM_block_19, x_RM_block_20, x_RM_block_21, x_RM_block_24, x_RM_block_25, x_RM_block_26, x_RM_block_27, x_RM_block_30, x_RM_block_31, x_RM_block_34, x_RM_block_35, x_RM_block_36, x_RM_block_37, x_RM_block_38, x_RM_block_41, x_RM_block_42, x_RM_block_43, x_RM_block_46, x_RM_block_47, x_RM_block_48, x_RM_block_49, x_RM_block_50, x_RM_block_53, x_RM_block_54, x_RM_block_55, x_RM_block_56, x_RM_block_58, x_RM_block_61, x_RM_block_62, x_RM_block_63, x_RM_block_64, x_RM_block_65, x_RM_block_66, x_RM_block_69, ru_is h, ru_g0 h, ru_s0 h, ru_g1 h, ru_s1 h, ru_g2 h, ru_s2 h, ru_g3 h, ru_g4 h, ru_s4 h, ru_g5 h, ru_g6 h, ru_g7 h, ru_g8 h, ru_s8 h, ru_g9 h, ru_g10 h, ru_g11 h, ru_g12 h, ru_g13 h, ru_g14 h, ru_g15 h, ru_g16 h, ru_g17 h, ru_g18 h, ru_g19 h, ru_g20 h, ru_g21 h, ru_g22 h, ru_g23 h, ru_g24 h, ru_g25 h, ru_g26 h, ru_g27 h, ru_g28 h, ru_g29 h, ru_n3 h, ru_m3 h, ru_n5 h, ru_m5 h, ru_n6 h, ru_m6 h, ru_n7 h, ru_m7 h, ru_n9 h, ru_m9 h, ru_n10 h, ru_m10 h, ru_n11 h, ru_m11 h, ru_n12 h, ru_m12 h, ru_n13 h, ru_m13 h, ru_n14 h, ru_m14 h, ru_n15 h, ru_m15 h, ru_n16 h, ru_m16 h, ru_n17 h, ru_m17 h, ru_n18 h, ru_m18 h, ru_n19 h, ru_m19 h, ru_n20 h, ru_m20 h, ru_n21 h, ru_m21 h, ru_n22 h, ru_m22 h, ru_n23 h, ru_m23 h, ru_n24 h, ru_m24 h, ru_n25 h, ru_m25 h, ru_n26 h, ru_m26 h, ru_n27 h, ru_m27 h, ru_n28 h, ru_m28 h, ru_n29 h, ru_m29 h, Option.bind_some, Option.toList_some, Option.toList_none, List.cons_append, List.nil_append, rm_block_y h hn h1 h2, rm_leaf h hb24 e6, e3, e4, e5, k0, k1, kc, hb25, ↓reduceIte]
          simp [q0, q1, q2, q3]
        · have e5 : nI k - 10 = nI (k - 10) := jz_sub k 10 (by omega)
          have e20 : ¬ (3 : Int32) = 0 := by decide
          obtain ⟨d1, d2⟩ := jz_d3 (k - 10) (by omega)
          rw [d1] at d2
          have m3 : (k - 10) % 3 < 3 := Nat.mod_lt _ (by omega)
          obtain ⟨i1, i2⟩ := jz_ix ((k - 10) / 3) (by omega) ((k - 10) % 3) m3
          have l3 := rm_level (Z := Z) (d := d) (f := f) h hb24 (u := (k - 10) % 3) (by omega)
          simp only [e_RM_block, x_RM_block_0, x_RM_block_1, x_RM_block_2, x_RM_block_5, x_RM_block_8, x_RM_block_9, x_RM_block_12, x_RM_block_13, x_RM_block_15, x_RM_block_18, x_RM_block_19, x_RM_block_20, x_RM_block_21, x_RM_block_24, x_RM_block_25, x_RM_block_26, x_RM_block_27, x_RM_block_30, x_RM_block_31, x_RM_block_34, x_RM_block_35, x_RM_block_36, x_RM_block_37, x_RM_block_38, x_RM_block_41, x_RM_block_42, x_RM_block_43, x_RM_block_46, x_RM_block_47, x_RM_block_48, x_RM_block_49, x_RM_block_50, x_RM_block_53, x_RM_block_54, x_RM_block_55, x_RM_block_56, x_RM_block_58, x_RM_block_61, x_RM_block_62, x_RM_block_63, x_RM_block_64, x_RM_block_65, x_RM_block_66, x_RM_block_69, x_RM_block_70, x_RM_block_71, x_RM_block_73, x_RM_block_74, x_RM_block_75, x_RM_block_76, x_RM_block_77, x_RM_block_78, x_RM_block_80, x_RM_block_81, x_RM_block_82, x_RM_block_83, x_RM_block_85, x_RM_block_86, x_RM_block_87, x_RM_block_89, x_RM_block_92, x_RM_block_93, x_RM_block_96, x_RM_block_97, x_RM_block_99, x_RM_block_100, x_RM_block_101, x_RM_block_102, x_RM_block_103, ru_is h, ru_g0 h, ru_s0 h, ru_g1 h, ru_s1 h, ru_g2 h, ru_s2 h, ru_g3 h, ru_g4 h, ru_s4 h, ru_g5 h, ru_g6 h, ru_g7 h, ru_g8 h, ru_s8 h, ru_g9 h, ru_g10 h, ru_g11 h, ru_g12 h, ru_g13 h, ru_g14 h, ru_g15 h, ru_g16 h, ru_g17 h, ru_g18 h, ru_g19 h, ru_g20 h, ru_g21 h, ru_g22 h, ru_g23 h, ru_g24 h, ru_g25 h, ru_g26 h, ru_g27 h, ru_g28 h, ru_g29 h, ru_n3 h, ru_m3 h, ru_n5 h, ru_m5 h, ru_n6 h, ru_m6 h, ru_n7 h, ru_m7 h, ru_n9 h, ru_m9 h, ru_n10 h, ru_m10 h, ru_n11 h, ru_m11 h, ru_n12 h, ru_m12 h, ru_n13 h, ru_m13 h, ru_n14 h, ru_m14 h, ru_n15 h, ru_m15 h, ru_n16 h, ru_m16 h, ru_n17 h, ru_m17 h, ru_n18 h, ru_m18 h, ru_n19 h, ru_m19 h, ru_n20 h, ru_m20 h, ru_n21 h, ru_m21 h, ru_n22 h, ru_m22 h, ru_n23 h, ru_m23 h, ru_n24 h, ru_m24 h, ru_n25 h, ru_m25 h, ru_n26 h, ru_m26 h, ru_n27 h, ru_m27 h, ru_n28 h, ru_m28 h, ru_n29 h, ru_m29 h, Option.bind_some, Option.toList_some, Option.toList_none, List.cons_append, List.nil_append, rm_block_y h hn h1 h2, e3, e4, e5, e20, d1, d2, i1, i2, l3, k0, k1, kc, hb25, jy_row_at, ↓reduceIte]
          simp [q0, q1, q2, q3]
    · simp only [e_RM_block, x_RM_block_0, x_RM_block_1, x_RM_block_2, x_RM_block_5, x_RM_block_8, x_RM_block_9, x_RM_block_12, x_RM_block_13, x_RM_block_15, x_RM_block_18, x_RM_block_19, x_RM_block_20, x_RM_block_21, x_RM_block_24, x_RM_block_25, x_RM_block_26, x_RM_block_27, x_RM_block_30, x_RM_block_31, x_RM_block_34, x_RM_block_35, x_RM_block_36, x_RM_block_37, x_RM_block_38, x_RM_block_41, x_RM_block_42, x_RM_block_43, x_RM_block_46, x_RM_block_47, x_RM_block_48, x_RM_block_49, x_RM_block_50, x_RM_block_53, x_RM_block_54, ru_is h, ru_g0 h, ru_s0 h, ru_g1 h, ru_s1 h, ru_g2 h, ru_s2 h, ru_g3 h, ru_g4 h, ru_s4 h, ru_g5 h, ru_g6 h, ru_g7 h, ru_g8 h, ru_s8 h, ru_g9 h, ru_g10 h, ru_g11 h, ru_g12 h, ru_g13 h, ru_g14 h, ru_g15 h, ru_g16 h, ru_g17 h, ru_g18 h, ru_g19 h, ru_g20 h, ru_g21 h, ru_g22 h, ru_g23 h, ru_g24 h, ru_g25 h, ru_g26 h, ru_g27 h, ru_g28 h, ru_g29 h, ru_n3 h, ru_m3 h, ru_n5 h, ru_m5 h, ru_n6 h, ru_m6 h, ru_n7 h, ru_m7 h, ru_n9 h, ru_m9 h, ru_n10 h, ru_m10 h, ru_n11 h, ru_m11 h, ru_n12 h, ru_m12 h, ru_n13 h, ru_m13 h, ru_n14 h, ru_m14 h, ru_n15 h, ru_m15 h, ru_n16 h, ru_m16 h, ru_n17 h, ru_m17 h, ru_n18 h, ru_m18 h, ru_n19 h, ru_m19 h, ru_n20 h, ru_m20 h, ru_n21 h, ru_m21 h, ru_n22 h, ru_m22 h, ru_n23 h, ru_m23 h, ru_n24 h, ru_m24 h, ru_n25 h, ru_m25 h, ru_n26 h, ru_m26 h, ru_n27 h, ru_m27 h, ru_n28 h, ru_m28 h, ru_n29 h, ru_m29 h, Option.bind_some, Option.toList_some, Option.toList_none, List.cons_append, List.nil_append, rm_block_y h hn h1 h2, e3, e4, k0, hb25, ↓reduceIte]
      simp [q0, q1]
theorem rm_prv_n (h : jl_R K g) {b c l x y z : Int32} (hb : (b < 1 ∨ f 20 0 8 < b) ∨ c < 0 ∨ 7 < c) : jx_m Z (d + 2) 105 [.inr (some (K.2.1 20 0)), .inl b, .inl c, .inl l, .inl x, .inl y, .inl z] (jy_w K f g) = some (some (.inl 0), jy_w K f g) := by
  simp only [e_RM_proves, x_RM_proves_0, x_RM_proves_1, x_RM_proves_2, x_RM_proves_5, x_RM_proves_8, x_RM_proves_9, x_RM_proves_12, x_RM_proves_13, x_RM_proves_15, x_RM_proves_18, x_RM_proves_19, Option.bind_some, Option.toList_some, Option.toList_none, List.cons_append, List.nil_append, ru_is h, ↓reduceIte, rm_isBlock h]
  by_cases e1 : b < 1 ∨ f 20 0 8 < b
  · simp [e1]
  · by_cases e2 : c < 0
    · simp [e1, e2]
    · have e3 : ¬ c ≤ 7 := Int32.not_le.mpr (by
        rcases hb with hb | hb | hb
        · exact absurd hb e1
        · exact absurd hb e2
        · exact hb)
      simp [e1, e2, e3]
theorem rm_prv (h : jl_R K g) {cc n b : Nat} {c l x y z : Int32} (hn : jn_R f cc n) (h1 : 1 ≤ b) (h2 : b ≤ n) (hc : ¬ (c < 0 ∨ 7 < c)) : jx_m Z (d + 4) 105 [.inr (some (K.2.1 20 0)), .inl (nI b), .inl c, .inl l, .inl x, .inl y, .inl z] (jy_w K f g) = some (some (.inl (jq_b (decide (jq_over (jq_over (jq_over l x 1) y 2) z 3 = vr_root f b)))), jy_w K (jy_row f 49 0 (jq_lev (vr_row f b 8) 3)) g) := by
  have hnn := hn.2.2.2
  have hb24 : b ≤ 24 := by omega
  have e1 : ¬ c < 0 := fun q => hc (Or.inl q)
  have e2 : c ≤ 7 := Int32.not_lt.mp (fun q => hc (Or.inr q))
  have z0 : (0 : Nat) < 8 := by omega
  have r0 : jx_gI Z 0 (jy_w K (jy_row f 49 0 (jq_lev (vr_row f b 8) 3)) g) (K.2.1 49 0) 0 = some (jq_lev (vr_row f b 8) 3 0) := by
    have := ru_n29 (Z := Z) (f := jy_row f 49 0 (jq_lev (vr_row f b 8) 3)) h z0
    rw [jy_row_at] at this
    exact this
  have l3 : jx_m Z (d + 3) 102 [.inr (some (K.2.1 20 0)), .inl (nI b), .inl 3] (jy_w K f g) = some (none, jy_w K (jy_row f 49 0 (jq_lev (vr_row f b 8) 3)) g) := rm_level (Z := Z) (d := d) (f := f) h hb24 (u := 3) (by omega)
  simp only [e_RM_proves, x_RM_proves_0, x_RM_proves_1, x_RM_proves_2, x_RM_proves_5, x_RM_proves_8, x_RM_proves_9, x_RM_proves_12, x_RM_proves_13, x_RM_proves_15, x_RM_proves_18, x_RM_proves_19, x_RM_proves_20, x_RM_proves_21, x_RM_proves_22, x_RM_proves_23, x_RM_proves_26, x_RM_proves_27, x_RM_proves_29, x_RM_proves_30, x_RM_proves_33, x_RM_proves_36, x_RM_proves_38, x_RM_proves_39, x_RM_proves_40, x_RM_proves_43, x_RM_proves_45, x_RM_proves_46, x_RM_proves_47, x_RM_proves_48, x_RM_proves_51, x_RM_proves_53, x_RM_proves_55, x_RM_proves_56, x_RM_proves_59, x_RM_proves_62, x_RM_proves_64, x_RM_proves_66, x_RM_proves_67, x_RM_proves_70, x_RM_proves_72, x_RM_proves_73, x_RM_proves_74, x_RM_proves_75, x_RM_proves_78, x_RM_proves_80, x_RM_proves_82, x_RM_proves_83, x_RM_proves_86, x_RM_proves_89, x_RM_proves_91, x_RM_proves_93, x_RM_proves_94, x_RM_proves_97, x_RM_proves_99, x_RM_proves_100, x_RM_proves_101, x_RM_proves_102, x_RM_proves_105, x_RM_proves_107, x_RM_proves_108, x_RM_proves_111, x_RM_proves_112, x_RM_proves_113, x_RM_proves_116, x_RM_proves_117, x_RM_proves_120, x_RM_proves_121, ru_is h, ru_g0 h, ru_s0 h, ru_g1 h, ru_s1 h, ru_g2 h, ru_s2 h, ru_g3 h, ru_g4 h, ru_s4 h, ru_g5 h, ru_g6 h, ru_g7 h, ru_g8 h, ru_s8 h, ru_g9 h, ru_g10 h, ru_g11 h, ru_g12 h, ru_g13 h, ru_g14 h, ru_g15 h, ru_g16 h, ru_g17 h, ru_g18 h, ru_g19 h, ru_g20 h, ru_g21 h, ru_g22 h, ru_g23 h, ru_g24 h, ru_g25 h, ru_g26 h, ru_g27 h, ru_g28 h, ru_g29 h, Option.bind_some, Option.toList_some, Option.toList_none, List.cons_append, List.nil_append, rm_block_y h hn h1 h2, rm_over, e1, e2, l3, r0, ↓reduceIte]
  rw [show jq_lev (vr_row f b 8) 3 0 = vr_root f b from rfl]
  by_cases a1 : c &&& 1 = 0 <;> by_cases a2 : c &&& 2 = 0 <;> by_cases a4 : c &&& 4 = 0 <;> simp only [a1, a2, a4, ↓reduceIte, not_true_eq_false, not_false_eq_true, jq_over_cm x l, jq_over_cm y, jq_over_cm z] <;> (by_cases q : jq_over (jq_over (jq_over l x 1) y 2) z 3 = vr_root f b <;> simp [q, jq_b])
theorem rm_lck_l (h : jl_R K g) {cc n : Nat} (hn : jn_R f cc n) : ∀ (m c : Nat) (s : Int32), cc - c = m → c ≤ cc → jx_run Z jX_RM_locked (jx_m Z (d + 1)) (4, [some (.inr (some (K.2.1 20 0))), some (.inl s), some (.inl (nI c))], [], jy_w K f g) = some (some (.inl (jq_sum (vr_lk f n) m c s)), jy_w K f g) := by
  have hcc := hn.2.2.1
  intro m
  induction m with
  | zero =>
    intro c s hm hc
    have e : c = cc := by omega
    subst e
    have h0 : nI c ≤ nI c := nI_le (Nat.le_refl _) (by omega)
    rw [x_RM_locked_4]
    simp only [x_RM_locked_0, x_RM_locked_1, x_RM_locked_2, x_RM_locked_3, x_RM_locked_5, x_RM_locked_6, x_RM_locked_9, x_RM_locked_12, x_RM_locked_13, x_RM_locked_14, x_RM_locked_17, x_RM_locked_18, x_RM_locked_19, x_RM_locked_22, x_RM_locked_23, x_RM_locked_26, x_RM_locked_27, x_RM_locked_30, x_RM_locked_31, x_RM_locked_32, x_RM_locked_33, x_RM_locked_34, x_RM_locked_35, x_RM_locked_36, x_RM_locked_39, x_RM_locked_40, x_RM_locked_41, x_RM_locked_44, x_RM_locked_46, x_RM_locked_47, x_RM_locked_48, x_RM_locked_49, x_RM_locked_52, x_RM_locked_53, x_RM_locked_54, x_RM_locked_57, x_RM_locked_58, x_RM_locked_59, x_RM_locked_60, x_RM_locked_63, x_RM_locked_66, x_RM_locked_67, ru_is h, ru_g0 h, ru_s0 h, ru_g1 h, ru_s1 h, ru_g2 h, ru_s2 h, ru_g3 h, ru_g4 h, ru_s4 h, ru_g5 h, ru_g6 h, ru_g7 h, ru_g8 h, ru_s8 h, ru_g9 h, ru_g10 h, ru_g11 h, ru_g12 h, ru_g13 h, ru_g14 h, ru_g15 h, ru_g16 h, ru_g17 h, ru_g18 h, ru_g19 h, ru_g20 h, ru_g21 h, ru_g22 h, ru_g23 h, ru_g24 h, ru_g25 h, ru_g26 h, ru_g27 h, ru_g28 h, ru_g29 h, Option.bind_some, Option.toList_some, Option.toList_none, List.cons_append, List.nil_append, hn.1, h0, ↓reduceIte]
    rfl
  | succ m ih =>
    intro c s hm hc
    have h0 : ¬ nI cc ≤ nI c := nI_ge (by omega) (by omega)
    have hc8 : c < 8 := by omega
    have I := ih (c + 1) (s + vr_lk f n c) (by omega) (by omega)
    rw [x_RM_locked_4]
    simp only [x_RM_locked_0, x_RM_locked_1, x_RM_locked_2, x_RM_locked_3, x_RM_locked_5, x_RM_locked_6, x_RM_locked_9, x_RM_locked_12, x_RM_locked_13, x_RM_locked_14, x_RM_locked_17, x_RM_locked_18, x_RM_locked_19, x_RM_locked_22, x_RM_locked_23, x_RM_locked_26, x_RM_locked_27, x_RM_locked_30, x_RM_locked_31, x_RM_locked_32, x_RM_locked_33, x_RM_locked_34, x_RM_locked_35, x_RM_locked_36, x_RM_locked_39, x_RM_locked_40, x_RM_locked_41, x_RM_locked_44, x_RM_locked_46, x_RM_locked_47, x_RM_locked_48, x_RM_locked_49, x_RM_locked_52, x_RM_locked_53, x_RM_locked_54, x_RM_locked_57, x_RM_locked_58, x_RM_locked_59, x_RM_locked_60, x_RM_locked_63, x_RM_locked_66, x_RM_locked_67, ru_is h, ru_g0 h, ru_s0 h, ru_g1 h, ru_s1 h, ru_g2 h, ru_s2 h, ru_g3 h, ru_g4 h, ru_s4 h, ru_g5 h, ru_g6 h, ru_g7 h, ru_g8 h, ru_s8 h, ru_g9 h, ru_g10 h, ru_g11 h, ru_g12 h, ru_g13 h, ru_g14 h, ru_g15 h, ru_g16 h, ru_g17 h, ru_g18 h, ru_g19 h, ru_g20 h, ru_g21 h, ru_g22 h, ru_g23 h, ru_g24 h, ru_g25 h, ru_g26 h, ru_g27 h, ru_g28 h, ru_g29 h, ru_n3 h, ru_m3 h, ru_n5 h, ru_m5 h, ru_n6 h, ru_m6 h, ru_n7 h, ru_m7 h, ru_n9 h, ru_m9 h, ru_n10 h, ru_m10 h, ru_n11 h, ru_m11 h, ru_n12 h, ru_m12 h, ru_n13 h, ru_m13 h, ru_n14 h, ru_m14 h, ru_n15 h, ru_m15 h, ru_n16 h, ru_m16 h, ru_n17 h, ru_m17 h, ru_n18 h, ru_m18 h, ru_n19 h, ru_m19 h, ru_n20 h, ru_m20 h, ru_n21 h, ru_m21 h, ru_n22 h, ru_m22 h, ru_n23 h, ru_m23 h, ru_n24 h, ru_m24 h, ru_n25 h, ru_m25 h, ru_n26 h, ru_m26 h, ru_n27 h, ru_m27 h, ru_n28 h, ru_m28 h, ru_n29 h, ru_m29 h, Option.bind_some, Option.toList_some, Option.toList_none, List.cons_append, List.nil_append, rm_std h hn hc8, hn.1, h0, hc8, jz_inc, ↓reduceIte]
    simp only [jq_sum]
    unfold vr_lk at I ⊢
    by_cases q1 : f 26 0 c = 0 <;> by_cases q2 : f 41 0 c = 0 <;> simp only [q1, q2, ↓reduceIte, Int32.add_assoc, Int32.add_zero, Int32.zero_add] at I ⊢ <;> exact I
theorem rm_lck (h : jl_R K g) {cc n : Nat} (hn : jn_R f cc n) : jx_m Z (d + 2) 106 [.inr (some (K.2.1 20 0))] (jy_w K f g) = some (some (.inl (jq_sum (vr_lk f n) cc 0 0)), jy_w K f g) := by
  simp only [e_RM_locked, x_RM_locked_0, x_RM_locked_1, x_RM_locked_2, x_RM_locked_3, x_RM_locked_5, x_RM_locked_6, x_RM_locked_9, x_RM_locked_12, x_RM_locked_13, x_RM_locked_14, x_RM_locked_17, x_RM_locked_18, x_RM_locked_19, x_RM_locked_22, x_RM_locked_23, x_RM_locked_26, x_RM_locked_27, x_RM_locked_30, x_RM_locked_31, x_RM_locked_32, x_RM_locked_33, x_RM_locked_34, x_RM_locked_35, x_RM_locked_36, x_RM_locked_39, x_RM_locked_40, x_RM_locked_41, x_RM_locked_44, x_RM_locked_46, x_RM_locked_47, x_RM_locked_48, x_RM_locked_49, x_RM_locked_52, x_RM_locked_53, x_RM_locked_54, x_RM_locked_57, x_RM_locked_58, x_RM_locked_59, x_RM_locked_60, x_RM_locked_63, x_RM_locked_66, x_RM_locked_67]
  exact rm_lck_l h hn cc 0 0 (by omega) (by omega)
end RJ
