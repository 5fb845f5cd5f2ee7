/-! the reference: cancel, and small methods by valid numbers -/
def jq_cnc (P : Nat → Bool) (ch : Nat → Nat) : Nat → Nat → (Nat → Int32) → (Nat → Int32)
  | 0, _, M => M
  | m + 1, k, M => jq_cnc P ch m (k + 1) (if P k = true then va_up M (ch k) (M (ch k) + 2) else M)
def vr_ch (f : jy_I) (c b : Nat) : Nat := (f 48 0 (25 * c + b)).toNatClampNeg
def vr_zs (S : Nat → Int32) (c k : Nat) : Nat → Int32 := fun j => if 25 * c + 1 ≤ j ∧ j < 25 * c + k then 0 else S j
theorem vr_zs_at {S : Nat → Int32} {c k : Nat} : vr_zs S c k (25 * c + k) = S (25 * c + k) := by
  unfold vr_zs
  rw [if_neg (by omega)]
theorem vr_zs_up {S : Nat → Int32} {c k : Nat} (h : 1 ≤ k) : va_up (vr_zs S c k) (25 * c + k) 0 = vr_zs S c (k + 1) := by
  funext j
  unfold va_up vr_zs
  by_cases e1 : j = 25 * c + k
  · rw [if_pos e1, if_pos (by omega)]
  · by_cases e2 : 25 * c + 1 ≤ j ∧ j < 25 * c + k
    · rw [if_neg e1, if_pos e2, if_pos (by omega)]
    · rw [if_neg e1, if_neg e2, if_neg (by omega)]
theorem vr_zs_1 {S : Nat → Int32} {c : Nat} : vr_zs S c 1 = S := by
  funext j
  unfold vr_zs
  rw [if_neg (by omega)]
/-- the state behind a cancelled exit of coin c, its bond going to user u -/
def vr_can (f : jy_I) (n c u : Nat) : jy_I := jy_row (jy_row (jy_up f 41 0 c 0) 23 0 (jq_cnc (vr_std f c) (vr_ch f c) n 1 (va_up (f 23 0) u (f 23 0 u + 10)))) 47 0 (vr_zs (f 47 0) c (n + 1))
section RF
variable {Z : jx_Sc} {d : Nat} {K : jy_K} {f : jy_I} {g : jy_R} {call : jx_C} {w : jx_W}
theorem rm_can_l (h : jl_R K g) {F : jy_I} {cc n c : Nat} (hn : jn_R F cc n) (hc : c < 8) (h48 : F 48 = f 48) (hch : ∀ b, 1 ≤ b → b ≤ n → vr_std f c b = true → ∃ u, u < 4 ∧ f 48 0 (25 * c + b) = nI u) {x : Int32} : ∀ (m k : Nat) (M : Nat → Int32), n + 1 - k = m → 1 ≤ k → k ≤ n + 1 → jx_run Z jX_RM_cancel call (20, [some (.inr (some (K.2.1 20 0))), some (.inl (nI c)), some (.inl x), some (.inl (nI k))], [], jy_w K (jy_row (jy_row F 23 0 M) 47 0 (vr_zs (f 47 0) c k)) g) = some (none, jy_w K (jy_row (jy_row F 23 0 (jq_cnc (vr_std f c) (vr_ch f c) m k M)) 47 0 (vr_zs (f 47 0) c (n + 1))) g) := by
  have h24 := hn.2.2.2
  intro m
  induction m with
  | zero =>
    intro k M hm h1 hk
    have h0 : nI n < nI k := nI_lt (by omega) (by omega)
    have e : k = n + 1 := by omega
    subst e
    rw [x_RM_cancel_20]
    simp only [x_RM_cancel_0, x_RM_cancel_1, x_RM_cancel_4, x_RM_cancel_5, x_RM_cancel_6, x_RM_cancel_7, x_RM_cancel_8, x_RM_cancel_11, x_RM_cancel_12, x_RM_cancel_13, x_RM_cancel_14, x_RM_cancel_16, x_RM_cancel_17, x_RM_cancel_18, x_RM_cancel_19, x_RM_cancel_21, x_RM_cancel_22, x_RM_cancel_25, x_RM_cancel_28, x_RM_cancel_29, x_RM_cancel_32, x_RM_cancel_34, x_RM_cancel_35, x_RM_cancel_36, x_RM_cancel_37, x_RM_cancel_38, x_RM_cancel_39, x_RM_cancel_42, x_RM_cancel_43, x_RM_cancel_46, x_RM_cancel_47, x_RM_cancel_50, x_RM_cancel_52, x_RM_cancel_53, x_RM_cancel_54, x_RM_cancel_55, x_RM_cancel_56, x_RM_cancel_57, x_RM_cancel_58, x_RM_cancel_59, x_RM_cancel_60, x_RM_cancel_61, x_RM_cancel_62, x_RM_cancel_63, x_RM_cancel_66, x_RM_cancel_68, x_RM_cancel_69, x_RM_cancel_70, x_RM_cancel_71, x_RM_cancel_72, x_RM_cancel_73, x_RM_cancel_74, x_RM_cancel_77, x_RM_cancel_80, ru_is h, ru_g0 h, ru_s0 h, ru_g1 h, ru_s1 h, ru_g2 h, ru_s2 h, ru_g3 h, ru_g4 h, ru_s4 h, ru_g5 h, ru_g6 h, ru_g7 h, ru_g8 h, ru_s8 h, ru_g9 h, ru_g10 h, ru_g11 h, ru_g12 h, ru_g13 h, ru_g14 h, ru_g15 h, ru_g16 h, ru_g17 h, ru_g18 h, ru_g19 h, ru_g20 h, ru_g21 h, ru_g22 h, ru_g23 h, ru_g24 h, ru_g25 h, ru_g26 h, ru_g27 h, ru_g28 h, ru_g29 h, Option.bind_some, Option.toList_some, Option.toList_none, List.cons_append, List.nil_append, jy_row_at, jy_row_k, jy_up_self, jy_up_k, jy_up_j, Nat.reduceEqDiff, not_false_eq_true, reduceCtorEq, Nat.reduceAdd, hn.2.1, h0, ↓reduceIte]
    rfl
  | succ m ih =>
    intro k M hm h1 hk
    have h0 : ¬ nI n < nI k := nI_nlt (by omega) (by omega)
    have hkk : 25 * c + k < 200 := by omega
    have I := ih (k + 1)
    rw [x_RM_cancel_20]
    simp only [x_RM_cancel_0, x_RM_cancel_1, x_RM_cancel_4, x_RM_cancel_5, x_RM_cancel_6, x_RM_cancel_7, x_RM_cancel_8, x_RM_cancel_11, x_RM_cancel_12, x_RM_cancel_13, x_RM_cancel_14, x_RM_cancel_16, x_RM_cancel_17, x_RM_cancel_18, x_RM_cancel_19, x_RM_cancel_21, x_RM_cancel_22, x_RM_cancel_25, x_RM_cancel_28, x_RM_cancel_29, x_RM_cancel_32, x_RM_cancel_34, x_RM_cancel_35, x_RM_cancel_36, x_RM_cancel_37, x_RM_cancel_38, x_RM_cancel_39, x_RM_cancel_42, x_RM_cancel_43, x_RM_cancel_46, x_RM_cancel_47, x_RM_cancel_50, x_RM_cancel_52, x_RM_cancel_53, x_RM_cancel_54, x_RM_cancel_55, x_RM_cancel_56, x_RM_cancel_57, x_RM_cancel_58, x_RM_cancel_59, x_RM_cancel_60, x_RM_cancel_61, x_RM_cancel_62, x_RM_cancel_63, x_RM_cancel_66, x_RM_cancel_68, x_RM_cancel_69, x_RM_cancel_70, x_RM_cancel_71, x_RM_cancel_72, x_RM_cancel_73, x_RM_cancel_74, x_RM_cancel_77, x_RM_cancel_80, ru_is h, ru_g0 h, ru_s0 h, ru_g1 h, ru_s1 h, ru_g2 h, ru_s2 h, ru_g3 h, ru_g4 h, ru_s4 h, ru_g5 h, ru_g6 h, ru_g7 h, ru_g8 h, ru_s8 h, ru_g9 h, ru_g10 h, ru_g11 h, ru_g12 h, ru_g13 h, ru_g14 h, ru_g15 h, ru_g16 h, ru_g17 h, ru_g18 h, ru_g19 h, ru_g20 h, ru_g21 h, ru_g22 h, ru_g23 h, ru_g24 h, ru_g25 h, ru_g26 h, ru_g27 h, ru_g28 h, ru_g29 h, ru_n3 h, ru_m3 h, ru_n5 h, ru_m5 h, ru_n6 h, ru_m6 h, ru_n7 h, ru_m7 h, ru_n9 h, ru_m9 h, ru_n10 h, ru_m10 h, ru_n11 h, ru_m11 h, ru_n12 h, ru_m12 h, ru_n13 h, ru_m13 h, ru_n14 h, ru_m14 h, ru_n15 h, ru_m15 h, ru_n16 h, ru_m16 h, ru_n17 h, ru_m17 h, ru_n18 h, ru_m18 h, ru_n19 h, ru_m19 h, ru_n20 h, ru_m20 h, ru_n21 h, ru_m21 h, ru_n22 h, ru_m22 h, ru_n23 h, ru_m23 h, ru_n24 h, ru_m24 h, ru_n25 h, ru_m25 h, ru_n26 h, ru_m26 h, ru_n27 h, ru_m27 h, ru_n28 h, ru_m28 h, ru_n29 h, ru_m29 h, Option.bind_some, Option.toList_some, Option.toList_none, List.cons_append, List.nil_append, jy_row_at, jy_row_k, jy_up_self, jy_up_k, jy_up_j, Nat.reduceEqDiff, not_false_eq_true, reduceCtorEq, Nat.reduceAdd, hn.2.1, h0, ↓reduceIte, jz_25i, hkk, jz_inc, vr_zs_at, jy_pu_at, vr_zs_up h1, h48]
    simp only [jq_cnc]
    by_cases e : f 47 0 (25 * c + k) = 0
    · have e' : vr_std f c k = false := by simp [vr_std, e]
      simp only [e, e', ↓reduceIte, Bool.false_eq_true]
      simpa using I M (by omega) (by omega) (by omega)
    · have e' : vr_std f c k = true := by simp [vr_std, e]
      obtain ⟨u, hu, hcu⟩ := hch k h1 (by omega) e'
      have hcc : vr_ch f c k = u := by unfold vr_ch; rw [hcu]; exact nI_clamp (by omega)
      simp only [x_RM_cancel_0, x_RM_cancel_1, x_RM_cancel_4, x_RM_cancel_5, x_RM_cancel_6, x_RM_cancel_7, x_RM_cancel_8, x_RM_cancel_11, x_RM_cancel_12, x_RM_cancel_13, x_RM_cancel_14, x_RM_cancel_16, x_RM_cancel_17, x_RM_cancel_18, x_RM_cancel_19, x_RM_cancel_21, x_RM_cancel_22, x_RM_cancel_25, x_RM_cancel_28, x_RM_cancel_29, x_RM_cancel_32, x_RM_cancel_34, x_RM_cancel_35, x_RM_cancel_36, x_RM_cancel_37, x_RM_cancel_38, x_RM_cancel_39, x_RM_cancel_42, x_RM_cancel_43, x_RM_cancel_46, x_RM_cancel_47, x_RM_cancel_50, x_RM_cancel_52, x_RM_cancel_53, x_RM_cancel_54, x_RM_cancel_55, x_RM_cancel_56, x_RM_cancel_57, x_RM_cancel_58, x_RM_cancel_59, x_RM_cancel_60, x_RM_cancel_61, x_RM_cancel_62, x_RM_cancel_63, x_RM_cancel_66, x_RM_cancel_68, x_RM_cancel_69, x_RM_cancel_70, x_RM_cancel_71, x_RM_cancel_72, x_RM_cancel_73, x_RM_cancel_74, x_RM_cancel_77, x_RM_cancel_80, ru_is h, ru_g0 h, ru_s0 h, ru_g1 h, ru_s1 h, ru_g2 h, ru_s2 h, ru_g3 h, ru_g4 h, ru_s4 h, ru_g5 h, ru_g6 h, ru_g7 h, ru_g8 h, ru_s8 h, ru_g9 h, ru_g10 h, ru_g11 h, ru_g12 h, ru_g13 h, ru_g14 h, ru_g15 h, ru_g16 h, ru_g17 h, ru_g18 h, ru_g19 h, ru_g20 h, ru_g21 h, ru_g22 h, ru_g23 h, ru_g24 h, ru_g25 h, ru_g26 h, ru_g27 h, ru_g28 h, ru_g29 h, e, e', hcu, hcc, hu, ru_n3 h, ru_m3 h, ru_n5 h, ru_m5 h, ru_n6 h, ru_m6 h, ru_n7 h, ru_m7 h, ru_n9 h, ru_m9 h, ru_n10 h, ru_m10 h, ru_n11 h, ru_m11 h, ru_n12 h, ru_m12 h, ru_n13 h, ru_m13 h, ru_n14 h, ru_m14 h, ru_n15 h, ru_m15 h, ru_n16 h, ru_m16 h, ru_n17 h, ru_m17 h, ru_n18 h, ru_m18 h, ru_n19 h, ru_m19 h, ru_n20 h, ru_m20 h, ru_n21 h, ru_m21 h, ru_n22 h, ru_m22 h, ru_n23 h, ru_m23 h, ru_n24 h, ru_m24 h, ru_n25 h, ru_m25 h, ru_n26 h, ru_m26 h, ru_n27 h, ru_m27 h, ru_n28 h, ru_m28 h, ru_n29 h, ru_m29 h, Option.bind_some, Option.toList_some, Option.toList_none, List.cons_append, List.nil_append, jz_25i, hkk, jz_inc, vr_zs_at, jy_row_at, jy_row_k, jy_up_self, jy_up_k, jy_up_j, Nat.reduceEqDiff, not_false_eq_true, reduceCtorEq, Nat.reduceAdd, jy_pu_ne, jy_pu_at, vr_zs_up h1, ↓reduceIte, or_false, or_true, true_or]
      simpa using I (va_up M u (M u + 2)) (by omega) (by omega) (by omega)
theorem rm_cancel (h : jl_R K g) {cc n c u : Nat} (hn : jn_R f cc n) (hc : c < 8) (hu : u < 4) (hch : ∀ b, 1 ≤ b → b ≤ n → vr_std f c b = true → ∃ u, u < 4 ∧ f 48 0 (25 * c + b) = nI u) : jx_m Z (d + 1) 88 [.inr (some (K.2.1 20 0)), .inl (nI c), .inl (nI u)] (jy_w K f g) = some (none, jy_w K (vr_can f n c u) g) := by
  have hn' : jn_R (jy_up f 41 0 c 0) cc n := by
    unfold jn_R at hn ⊢
    simp only [jy_up_self, jy_up_k, jy_up_j, Nat.reduceEqDiff, not_false_eq_true, reduceCtorEq, Nat.reduceAdd]
    exact hn
  have e48 : jy_up f 41 0 c 0 48 = f 48 := by
    funext i j
    simp [jy_up]
  have L := rm_can_l (Z := Z) (call := jx_m Z d) h hn' hc e48 hch (x := nI u) n 1 (va_up (f 23 0) u (f 23 0 u + 10)) (by omega) (by omega) (by omega)
  have e0 : jy_row (jy_row (jy_up f 41 0 c 0) 23 0 (va_up (f 23 0) u (f 23 0 u + 10))) 47 0 (vr_zs (f 47 0) c 1) = jy_up (jy_up f 41 0 c 0) 23 0 u (f 23 0 u + 10) := by
    rw [vr_zs_1]
    have e1 : f 47 0 = (jy_row (jy_up f 41 0 c 0) 23 0 (va_up (f 23 0) u (f 23 0 u + 10))) 47 0 := by
      rw [jy_row_k (by decide)]
      funext j
      simp [jy_up]
    rw [e1, jy_row_id, jy_up_row' (f := jy_up f 41 0 c 0)]
    have e2 : jy_up f 41 0 c 0 23 0 = f 23 0 := by
      funext j
      simp [jy_up]
    rw [e2]
  rw [e0] at L
  simp only [e_RM_cancel, x_RM_cancel_0, x_RM_cancel_1, x_RM_cancel_4, x_RM_cancel_5, x_RM_cancel_6, x_RM_cancel_7, x_RM_cancel_8, x_RM_cancel_11, x_RM_cancel_12, x_RM_cancel_13, x_RM_cancel_14, x_RM_cancel_16, x_RM_cancel_17, x_RM_cancel_18, x_RM_cancel_19, x_RM_cancel_21, x_RM_cancel_22, x_RM_cancel_25, x_RM_cancel_28, x_RM_cancel_29, x_RM_cancel_32, x_RM_cancel_34, x_RM_cancel_35, x_RM_cancel_36, x_RM_cancel_37, x_RM_cancel_38, x_RM_cancel_39, x_RM_cancel_42, x_RM_cancel_43, x_RM_cancel_46, x_RM_cancel_47, x_RM_cancel_50, x_RM_cancel_52, x_RM_cancel_53, x_RM_cancel_54, x_RM_cancel_55, x_RM_cancel_56, x_RM_cancel_57, x_RM_cancel_58, x_RM_cancel_59, x_RM_cancel_60, x_RM_cancel_61, x_RM_cancel_62, x_RM_cancel_63, x_RM_cancel_66, x_RM_cancel_68, x_RM_cancel_69, x_RM_cancel_70, x_RM_cancel_71, x_RM_cancel_72, x_RM_cancel_73, x_RM_cancel_74, x_RM_cancel_77, x_RM_cancel_80, ru_is h, ru_g0 h, ru_s0 h, ru_g1 h, ru_s1 h, ru_g2 h, ru_s2 h, ru_g3 h, ru_g4 h, ru_s4 h, ru_g5 h, ru_g6 h, ru_g7 h, ru_g8 h, ru_s8 h, ru_g9 h, ru_g10 h, ru_g11 h, ru_g12 h, ru_g13 h, ru_g14 h, ru_g15 h, ru_g16 h, ru_g17 h, ru_g18 h, ru_g19 h, ru_g20 h, ru_g21 h, ru_g22 h, ru_g23 h, ru_g24 h, ru_g25 h, ru_g26 h, ru_g27 h, ru_g28 h, ru_g29 h, ru_n3 h, ru_m3 h, ru_n5 h, ru_m5 h, ru_n6 h, ru_m6 h, ru_n7 h, ru_m7 h, ru_n9 h, ru_m9 h, ru_n10 h, ru_m10 h, ru_n11 h, ru_m11 h, ru_n12 h, ru_m12 h, ru_n13 h, ru_m13 h, ru_n14 h, ru_m14 h, ru_n15 h, ru_m15 h, ru_n16 h, ru_m16 h, ru_n17 h, ru_m17 h, ru_n18 h, ru_m18 h, ru_n19 h, ru_m19 h, ru_n20 h, ru_m20 h, ru_n21 h, ru_m21 h, ru_n22 h, ru_m22 h, ru_n23 h, ru_m23 h, ru_n24 h, ru_m24 h, ru_n25 h, ru_m25 h, ru_n26 h, ru_m26 h, ru_n27 h, ru_m27 h, ru_n28 h, ru_m28 h, ru_n29 h, ru_m29 h, Option.bind_some, Option.toList_some, Option.toList_none, List.cons_append, List.nil_append, hc, hu, jy_up_self, jy_up_k, jy_up_j, Nat.reduceEqDiff, not_false_eq_true, reduceCtorEq, Nat.reduceAdd, ↓reduceIte, or_false, or_true, true_or]
  exact L
theorem rm_user_y {u : Nat} (hu : u < 4) : jx_m Z (d + 1) 68 [.inl (nI u)] w = some (some (.inl 1), w) := by
  have h1 : ¬ nI u < 0 := nI_pos (by omega)
  have h2 : ¬ (3 : Int32) < nI u := nI_nlt (a := 3) (b := u) (by omega) (by omega)
  rw [rm_isUser]
  simp [h1, h2]
theorem rm_coin_y (h : jl_R K g) {cc n c : Nat} (hn : jn_R f cc n) (hc : c < cc) : jx_m Z (d + 1) 71 [.inr (some (K.2.1 20 0)), .inl (nI c)] (jy_w K f g) = some (some (.inl 1), jy_w K f g) := by
  have := hn.2.2.1
  have h1 : ¬ nI c < 0 := nI_pos (by omega)
  have h2 : ¬ nI cc ≤ nI c := nI_ge hc (by omega)
  rw [rm_isCoin h, hn.1]
  simp [h1, h2]
theorem rm_coin_n (h : jl_R K g) {cc n c : Nat} (hn : jn_R f cc n) (hc : ¬ c < cc) (h8 : c ≤ 100) : jx_m Z (d + 1) 71 [.inr (some (K.2.1 20 0)), .inl (nI c)] (jy_w K f g) = some (some (.inl 0), jy_w K f g) := by
  have := hn.2.2.1
  have h2 : nI cc ≤ nI c := nI_le (by omega) (by omega)
  rw [rm_isCoin h, hn.1]
  simp [h2]
theorem rm_block_y (h : jl_R K g) {cc n b : Nat} (hn : jn_R f cc n) (h1 : 1 ≤ b) (h2 : b ≤ n) : jx_m Z (d + 1) 80 [.inr (some (K.2.1 20 0)), .inl (nI b)] (jy_w K f g) = some (some (.inl 1), jy_w K f g) := by
  have := hn.2.2.2
  have e1 : ¬ nI b < 1 := nI_nlt (b := 1) h1 (by omega)
  have e2 : ¬ nI n < nI b := nI_nlt h2 (by omega)
  rw [rm_isBlock h, hn.2.1]
  simp [e1, e2]
theorem rm_newBlock (h : jl_R K g) {cc n : Nat} (hn : jn_R f cc n) (h24 : n < 24) {s : Int32} : jx_m Z (d + 1) 69 [.inr (some (K.2.1 20 0)), .inl s] (jy_w K f g) = some (none, jy_w K (jy_up (jy_up f 20 0 8 (nI (n + 1))) 29 0 (n + 1) (if s = 0 then 1 else 0)) g) := by
  have hk : n + 1 < 25 := by omega
  simp only [e_RM_newBlock, x_RM_newBlock_0, x_RM_newBlock_1, x_RM_newBlock_2, x_RM_newBlock_5, x_RM_newBlock_6, x_RM_newBlock_7, x_RM_newBlock_10, x_RM_newBlock_11, x_RM_newBlock_14, x_RM_newBlock_15, x_RM_newBlock_18, x_RM_newBlock_19, x_RM_newBlock_22, x_RM_newBlock_23, x_RM_newBlock_26, x_RM_newBlock_27, x_RM_newBlock_28, ru_is h, ru_g0 h, ru_s0 h, ru_g1 h, ru_s1 h, ru_g2 h, ru_s2 h, ru_g3 h, ru_g4 h, ru_s4 h, ru_g5 h, ru_g6 h, ru_g7 h, ru_g8 h, ru_s8 h, ru_g9 h, ru_g10 h, ru_g11 h, ru_g12 h, ru_g13 h, ru_g14 h, ru_g15 h, ru_g16 h, ru_g17 h, ru_g18 h, ru_g19 h, ru_g20 h, ru_g21 h, ru_g22 h, ru_g23 h, ru_g24 h, ru_g25 h, ru_g26 h, ru_g27 h, ru_g28 h, ru_g29 h, ru_n3 h, ru_m3 h, ru_n5 h, ru_m5 h, ru_n6 h, ru_m6 h, ru_n7 h, ru_m7 h, ru_n9 h, ru_m9 h, ru_n10 h, ru_m10 h, ru_n11 h, ru_m11 h, ru_n12 h, ru_m12 h, ru_n13 h, ru_m13 h, ru_n14 h, ru_m14 h, ru_n15 h, ru_m15 h, ru_n16 h, ru_m16 h, ru_n17 h, ru_m17 h, ru_n18 h, ru_m18 h, ru_n19 h, ru_m19 h, ru_n20 h, ru_m20 h, ru_n21 h, ru_m21 h, ru_n22 h, ru_m22 h, ru_n23 h, ru_m23 h, ru_n24 h, ru_m24 h, ru_n25 h, ru_m25 h, ru_n26 h, ru_m26 h, ru_n27 h, ru_m27 h, ru_n28 h, ru_m28 h, ru_n29 h, ru_m29 h, Option.bind_some, Option.toList_some, Option.toList_none, List.cons_append, List.nil_append, hn.2.1, jz_inc, hk, jy_up_self, jy_up_k, jy_up_j, Nat.reduceEqDiff, not_false_eq_true, reduceCtorEq, Nat.reduceAdd, ↓reduceIte]
  by_cases e : s = 0 <;> simp [e]
theorem rm_note (h : jl_R K g) {k : Nat} (hk : k < 16) {a b c e : Int32} : jx_m Z (d + 1) 74 [.inr (some (K.2.1 20 0)), .inl (nI k), .inl a, .inl b, .inl c, .inl e] (jy_w K f g) = some (none, jy_w K (jy_up (jy_up (jy_up (jy_up (jy_up f 36 0 k 1) 37 0 k a) 38 0 k b) 39 0 k c) 40 0 k e) g) := by
  simp only [e_RM_note, x_RM_note_0, x_RM_note_1, x_RM_note_4, x_RM_note_5, x_RM_note_6, x_RM_note_7, x_RM_note_8, x_RM_note_11, x_RM_note_12, x_RM_note_13, x_RM_note_14, x_RM_note_15, x_RM_note_18, x_RM_note_19, x_RM_note_20, x_RM_note_21, x_RM_note_22, x_RM_note_25, x_RM_note_26, x_RM_note_28, x_RM_note_29, x_RM_note_30, x_RM_note_33, x_RM_note_34, x_RM_note_36, x_RM_note_37, ru_is h, ru_g0 h, ru_s0 h, ru_g1 h, ru_s1 h, ru_g2 h, ru_s2 h, ru_g3 h, ru_g4 h, ru_s4 h, ru_g5 h, ru_g6 h, ru_g7 h, ru_g8 h, ru_s8 h, ru_g9 h, ru_g10 h, ru_g11 h, ru_g12 h, ru_g13 h, ru_g14 h, ru_g15 h, ru_g16 h, ru_g17 h, ru_g18 h, ru_g19 h, ru_g20 h, ru_g21 h, ru_g22 h, ru_g23 h, ru_g24 h, ru_g25 h, ru_g26 h, ru_g27 h, ru_g28 h, ru_g29 h, ru_n3 h, ru_m3 h, ru_n5 h, ru_m5 h, ru_n6 h, ru_m6 h, ru_n7 h, ru_m7 h, ru_n9 h, ru_m9 h, ru_n10 h, ru_m10 h, ru_n11 h, ru_m11 h, ru_n12 h, ru_m12 h, ru_n13 h, ru_m13 h, ru_n14 h, ru_m14 h, ru_n15 h, ru_m15 h, ru_n16 h, ru_m16 h, ru_n17 h, ru_m17 h, ru_n18 h, ru_m18 h, ru_n19 h, ru_m19 h, ru_n20 h, ru_m20 h, ru_n21 h, ru_m21 h, ru_n22 h, ru_m22 h, ru_n23 h, ru_m23 h, ru_n24 h, ru_m24 h, ru_n25 h, ru_m25 h, ru_n26 h, ru_m26 h, ru_n27 h, ru_m27 h, ru_n28 h, ru_m28 h, ru_n29 h, ru_m29 h, Option.bind_some, Option.toList_some, Option.toList_none, List.cons_append, List.nil_append, hk, ↓reduceIte, or_true]
theorem rm_ref_y (h : jl_R K g) {cc n u c b : Nat} (hn : jn_R f cc n) (hu : u < 4) (hc : c < cc) (h1 : 1 ≤ b) (h2 : b ≤ n) : jx_m Z (d + 2) 87 [.inr (some (K.2.1 20 0)), .inl (nI u), .inl (nI c), .inl (nI b)] (jy_w K f g) = some (some (.inl (if f 41 0 c = 0 then -4 else 0)), jy_w K f g) := by
  have hc8 : c < 8 := by have := hn.2.2.1; omega
  simp only [e_RM_refused, x_RM_refused_0, x_RM_refused_1, x_RM_refused_4, x_RM_refused_7, x_RM_refused_8, x_RM_refused_9, x_RM_refused_12, x_RM_refused_15, x_RM_refused_16, x_RM_refused_17, x_RM_refused_20, x_RM_refused_23, x_RM_refused_24, x_RM_refused_27, x_RM_refused_28, x_RM_refused_31, x_RM_refused_32, x_RM_refused_33, x_RM_refused_36, x_RM_refused_37, x_RM_refused_40, x_RM_refused_42, ru_is h, ru_g0 h, ru_s0 h, ru_g1 h, ru_s1 h, ru_g2 h, ru_s2 h, ru_g3 h, ru_g4 h, ru_s4 h, ru_g5 h, ru_g6 h, ru_g7 h, ru_g8 h, ru_s8 h, ru_g9 h, ru_g10 h, ru_g11 h, ru_g12 h, ru_g13 h, ru_g14 h, ru_g15 h, ru_g16 h, ru_g17 h, ru_g18 h, ru_g19 h, ru_g20 h, ru_g21 h, ru_g22 h, ru_g23 h, ru_g24 h, ru_g25 h, ru_g26 h, ru_g27 h, ru_g28 h, ru_g29 h, ru_n3 h, ru_m3 h, ru_n5 h, ru_m5 h, ru_n6 h, ru_m6 h, ru_n7 h, ru_m7 h, ru_n9 h, ru_m9 h, ru_n10 h, ru_m10 h, ru_n11 h, ru_m11 h, ru_n12 h, ru_m12 h, ru_n13 h, ru_m13 h, ru_n14 h, ru_m14 h, ru_n15 h, ru_m15 h, ru_n16 h, ru_m16 h, ru_n17 h, ru_m17 h, ru_n18 h, ru_m18 h, ru_n19 h, ru_m19 h, ru_n20 h, ru_m20 h, ru_n21 h, ru_m21 h, ru_n22 h, ru_m22 h, ru_n23 h, ru_m23 h, ru_n24 h, ru_m24 h, ru_n25 h, ru_m25 h, ru_n26 h, ru_m26 h, ru_n27 h, ru_m27 h, ru_n28 h, ru_m28 h, ru_n29 h, ru_m29 h, Option.bind_some, Option.toList_some, Option.toList_none, List.cons_append, List.nil_append, rm_user_y hu, rm_coin_y h hn hc, rm_block_y h hn h1 h2, hc8]
  by_cases e : f 41 0 c = 0 <;> simp [e]
theorem rm_ref_n (h : jl_R K g) {u c b : Int32} (hb : (u < 0 ∨ 3 < u) ∨ (c < 0 ∨ f 20 0 4 ≤ c) ∨ (b < 1 ∨ f 20 0 8 < b)) : jx_m Z (d + 2) 87 [.inr (some (K.2.1 20 0)), .inl u, .inl c, .inl b] (jy_w K f g) = some (some (.inl (-1)), jy_w K f g) := by
  simp only [e_RM_refused, x_RM_refused_0, x_RM_refused_1, x_RM_refused_4, x_RM_refused_7, x_RM_refused_8, x_RM_refused_9, x_RM_refused_12, x_RM_refused_15, x_RM_refused_16, x_RM_refused_17, x_RM_refused_20, x_RM_refused_23, x_RM_refused_24, x_RM_refused_27, x_RM_refused_28, x_RM_refused_31, x_RM_refused_32, x_RM_refused_33, x_RM_refused_36, x_RM_refused_37, x_RM_refused_40, x_RM_refused_42, ru_is h, ru_g0 h, ru_s0 h, ru_g1 h, ru_s1 h, ru_g2 h, ru_s2 h, ru_g3 h, ru_g4 h, ru_s4 h, ru_g5 h, ru_g6 h, ru_g7 h, ru_g8 h, ru_s8 h, ru_g9 h, ru_g10 h, ru_g11 h, ru_g12 h, ru_g13 h, ru_g14 h, ru_g15 h, ru_g16 h, ru_g17 h, ru_g18 h, ru_g19 h, ru_g20 h, ru_g21 h, ru_g22 h, ru_g23 h, ru_g24 h, ru_g25 h, ru_g26 h, ru_g27 h, ru_g28 h, ru_g29 h, Option.bind_some, Option.toList_some, Option.toList_none, List.cons_append, List.nil_append, rm_isUser, rm_isCoin h, rm_isBlock h]
  by_cases e1 : u < 0 ∨ 3 < u
  · simp [e1]
  · by_cases e2 : c < 0 ∨ f 20 0 4 ≤ c
    · simp [e1, e2]
    · have e3 : b < 1 ∨ f 20 0 8 < b := by
        rcases hb with hb | hb | hb
        · exact absurd hb e1
        · exact absurd hb e2
        · exact hb
      simp [e1, e2, e3]
end RF
