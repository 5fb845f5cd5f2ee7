/-! the reference: level and cancel -/
def jq_lv (p : Nat → Int32) (v N : Nat) : Nat → Int32 := fun i => if i < N then jq_over (p (2 * i)) (p (2 * i + 1)) (nI v) else p i
def jq_lev (p : Nat → Int32) : Nat → Nat → Int32
  | 0 => p
  | 1 => jq_lv p 1 4
  | 2 => jq_lv (jq_lv p 1 4) 2 2
  | _ => jq_lv (jq_lv (jq_lv p 1 4) 2 2) 3 1
def vr_row (f : jy_I) (b c : Nat) : Nat → Int32 := fun i => if i < c then vr_leaf f b i else f 49 0 i
theorem vr_leaf_row {f : jy_I} {p : Nat → Int32} {b c : Nat} : vr_leaf (jy_row f 49 0 p) b c = vr_leaf f b c := by
  simp [vr_leaf, jy_row]
theorem jz_x2 (n : Nat) : (2 : Int32) * nI n = nI (2 * n) := jz_mul 2 n
section RE
variable {Z : jx_Sc} {d : Nat} {K : jy_K} {f : jy_I} {g : jy_R} {call : jx_C}
theorem rm_lev_a (h : jl_R K g) {b : Nat} (hb : b ≤ 24) {y : Int32} {l4 : Option jx_V} : ∀ m c : Nat, 8 - c = m → c ≤ 8 → jx_run Z jX_RM_level (jx_m Z (d + 2)) (2, [some (.inr (some (K.2.1 20 0))), some (.inl (nI b)), some (.inl y), some (.inl (nI c)), l4], [], jy_w K (jy_row f 49 0 (vr_row f b c)) g) = jx_run Z jX_RM_level (jx_m Z (d + 2)) (26, [some (.inr (some (K.2.1 20 0))), some (.inl (nI b)), some (.inl y), some (.inl (nI 8)), l4], [], jy_w K (jy_row f 49 0 (vr_row f b 8)) g) := by
  intro m
  induction m with
  | zero =>
    intro c hm hc
    have e : c = 8 := by omega
    subst e
    have h0 : (8 : Int32) ≤ nI 8 := by decide
    rw [x_RM_level_2]
    simp only [x_RM_level_0, x_RM_level_1, x_RM_level_3, x_RM_level_5, x_RM_level_8, x_RM_level_9, x_RM_level_12, x_RM_level_13, x_RM_level_14, x_RM_level_15, x_RM_level_16, x_RM_level_19, x_RM_level_20, x_RM_level_23, h0, ↓reduceIte]
  | succ m ih =>
    intro c hm hc
    have h0 : ¬ (8 : Int32) ≤ nI c := nI_ge (show c < 8 by omega) (by decide)
    have hc8 : c < 8 := by omega
    have e : va_up (vr_row f b c) c (vr_leaf f b c) = vr_row f b (c + 1) := by
      funext i
      unfold va_up vr_row
      by_cases e1 : i = c
      · subst e1
        simp
      · by_cases e2 : i < c
        · simp [e1, e2, show i < c + 1 by omega]
        · simp [e1, e2, show ¬ i < c + 1 by omega]
    rw [x_RM_level_2]
    simp only [x_RM_level_0, x_RM_level_1, x_RM_level_3, x_RM_level_5, x_RM_level_8, x_RM_level_9, x_RM_level_12, x_RM_level_13, x_RM_level_14, x_RM_level_15, x_RM_level_16, x_RM_level_19, x_RM_level_20, x_RM_level_23, ru_is h, ru_g0 h, ru_s0 h, ru_g1 h, ru_s1 h, ru_g2 h, ru_s2 h, ru_g3 h, ru_g4 h, ru_s4 h, ru_g5 h, ru_g6 h, ru_g7 h, ru_g8 h, ru_s8 h, ru_g9 h, ru_g10 h, ru_g11 h, ru_g12 h, ru_g13 h, ru_g14 h, ru_g15 h, ru_g16 h, ru_g17 h, ru_g18 h, ru_g19 h, ru_g20 h, ru_g21 h, ru_g22 h, ru_g23 h, ru_g24 h, ru_g25 h, ru_g26 h, ru_g27 h, ru_g28 h, ru_g29 h, ru_n3 h, ru_m3 h, ru_n5 h, ru_m5 h, ru_n6 h, ru_m6 h, ru_n7 h, ru_m7 h, ru_n9 h, ru_m9 h, ru_n10 h, ru_m10 h, ru_n11 h, ru_m11 h, ru_n12 h, ru_m12 h, ru_n13 h, ru_m13 h, ru_n14 h, ru_m14 h, ru_n15 h, ru_m15 h, ru_n16 h, ru_m16 h, ru_n17 h, ru_m17 h, ru_n18 h, ru_m18 h, ru_n19 h, ru_m19 h, ru_n20 h, ru_m20 h, ru_n21 h, ru_m21 h, ru_n22 h, ru_m22 h, ru_n23 h, ru_m23 h, ru_n24 h, ru_m24 h, ru_n25 h, ru_m25 h, ru_n26 h, ru_m26 h, ru_n27 h, ru_m27 h, ru_n28 h, ru_m28 h, ru_n29 h, ru_m29 h, Option.bind_some, Option.toList_some, Option.toList_none, List.cons_append, List.nil_append, rm_leaf h hb hc8, vr_leaf_row, h0, ↓reduceIte, hc8, jz_inc, jy_pu_at, e]
    exact ih (c + 1) (by omega) (by omega)
theorem rm_lev_b (h : jl_R K g) {p : Nat → Int32} {x y : Int32} {v N : Nat} (hN : (8 : Int32) >>> (nI v &&& 31) = nI N) (h4 : N ≤ 4) : ∀ m n : Nat, N - n = m → n ≤ N → jx_run Z jX_RM_level (jx_m Z (d + 2)) (36, [some (.inr (some (K.2.1 20 0))), some (.inl x), some (.inl y), some (.inl (nI v)), some (.inl (nI n))], [], jy_w K (jy_row f 49 0 (jq_lv p v n)) g) = jx_run Z jX_RM_level (jx_m Z (d + 2)) (82, [some (.inr (some (K.2.1 20 0))), some (.inl x), some (.inl y), some (.inl (nI v)), some (.inl (nI N))], [], jy_w K (jy_row f 49 0 (jq_lv p v N)) g) := by
  intro m
  induction m with
  | zero =>
    intro n hm hn
    have e : n = N := by omega
    subst e
    have h0 : nI n ≤ nI n := nI_le (Nat.le_refl _) (by omega)
    rw [x_RM_level_36]
    simp only [x_RM_level_38, x_RM_level_40, x_RM_level_41, x_RM_level_42, x_RM_level_45, x_RM_level_46, x_RM_level_49, x_RM_level_51, x_RM_level_52, x_RM_level_55, x_RM_level_56, x_RM_level_58, x_RM_level_59, x_RM_level_60, x_RM_level_61, x_RM_level_64, x_RM_level_65, x_RM_level_67, x_RM_level_68, x_RM_level_69, x_RM_level_70, x_RM_level_71, x_RM_level_72, x_RM_level_75, x_RM_level_76, x_RM_level_79, hN, h0, ↓reduceIte]
  | succ m ih =>
    intro n hm hn
    have h0 : ¬ nI N ≤ nI n := nI_ge (show n < N by omega) (by omega)
    have h1 : 2 * n < 8 := by omega
    have h2 : 2 * n + 1 < 8 := by omega
    have h3 : n < 8 := by omega
    have e1 : jq_lv p v n (2 * n) = p (2 * n) := by simp [jq_lv]; omega
    have e2 : jq_lv p v n (2 * n + 1) = p (2 * n + 1) := by simp [jq_lv]; omega
    have e : va_up (jq_lv p v n) n (jq_over (p (2 * n)) (p (2 * n + 1)) (nI v)) = jq_lv p v (n + 1) := by
      funext i
      unfold va_up jq_lv
      by_cases e1 : i = n
      · subst e1
        simp
      · by_cases e2 : i < n
        · simp [e1, e2, show i < n + 1 by omega]
        · simp [e1, e2, show ¬ i < n + 1 by omega]
    rw [x_RM_level_36]
    simp only [x_RM_level_38, x_RM_level_40, x_RM_level_41, x_RM_level_42, x_RM_level_45, x_RM_level_46, x_RM_level_49, x_RM_level_51, x_RM_level_52, x_RM_level_55, x_RM_level_56, x_RM_level_58, x_RM_level_59, x_RM_level_60, x_RM_level_61, x_RM_level_64, x_RM_level_65, x_RM_level_67, x_RM_level_68, x_RM_level_69, x_RM_level_70, x_RM_level_71, x_RM_level_72, x_RM_level_75, x_RM_level_76, x_RM_level_79, ru_is h, ru_g0 h, ru_s0 h, ru_g1 h, ru_s1 h, ru_g2 h, ru_s2 h, ru_g3 h, ru_g4 h, ru_s4 h, ru_g5 h, ru_g6 h, ru_g7 h, ru_g8 h, ru_s8 h, ru_g9 h, ru_g10 h, ru_g11 h, ru_g12 h, ru_g13 h, ru_g14 h, ru_g15 h, ru_g16 h, ru_g17 h, ru_g18 h, ru_g19 h, ru_g20 h, ru_g21 h, ru_g22 h, ru_g23 h, ru_g24 h, ru_g25 h, ru_g26 h, ru_g27 h, ru_g28 h, ru_g29 h, ru_n3 h, ru_m3 h, ru_n5 h, ru_m5 h, ru_n6 h, ru_m6 h, ru_n7 h, ru_m7 h, ru_n9 h, ru_m9 h, ru_n10 h, ru_m10 h, ru_n11 h, ru_m11 h, ru_n12 h, ru_m12 h, ru_n13 h, ru_m13 h, ru_n14 h, ru_m14 h, ru_n15 h, ru_m15 h, ru_n16 h, ru_m16 h, ru_n17 h, ru_m17 h, ru_n18 h, ru_m18 h, ru_n19 h, ru_m19 h, ru_n20 h, ru_m20 h, ru_n21 h, ru_m21 h, ru_n22 h, ru_m22 h, ru_n23 h, ru_m23 h, ru_n24 h, ru_m24 h, ru_n25 h, ru_m25 h, ru_n26 h, ru_m26 h, ru_n27 h, ru_m27 h, ru_n28 h, ru_m28 h, ru_n29 h, ru_m29 h, Option.bind_some, Option.toList_some, Option.toList_none, List.cons_append, List.nil_append, rm_over, hN, h0, ↓reduceIte, h1, h2, h3, jz_inc, jz_x2, jy_row_at, e1, e2, jy_pu_at, e]
    exact ih (n + 1) (by omega) (by omega)
theorem jq_lv0 {p : Nat → Int32} {v : Nat} : jq_lv p v 0 = p := by
  funext i
  simp [jq_lv]
theorem rm_lev_c (h : jl_R K g) {p : Nat → Int32} {x : Int32} {l4 : Option jx_V} {v N u : Nat} (hN : (8 : Int32) >>> (nI v &&& 31) = nI N) (h4 : N ≤ 4) (hv : v ≤ u) (hu : u ≤ 3) : jx_run Z jX_RM_level (jx_m Z (d + 2)) (28, [some (.inr (some (K.2.1 20 0))), some (.inl x), some (.inl (nI u)), some (.inl (nI v)), l4], [], jy_w K (jy_row f 49 0 p) g) = jx_run Z jX_RM_level (jx_m Z (d + 2)) (28, [some (.inr (some (K.2.1 20 0))), some (.inl x), some (.inl (nI u)), some (.inl (nI (v + 1))), some (.inl (nI N))], [], jy_w K (jy_row f 49 0 (jq_lv p v N)) g) := by
  have h0 : ¬ nI u < nI v := nI_nlt hv (by omega)
  have hb := rm_lev_b (Z := Z) (d := d) (f := f) h (p := p) (x := x) (y := nI u) hN h4 N 0 (by omega) (by omega)
  rw [jq_lv0] at hb
  rw [x_RM_level_28]
  simp only [x_RM_level_27, x_RM_level_29, x_RM_level_30, x_RM_level_33, x_RM_level_34, h0, ↓reduceIte]
  refine hb.trans ?_
  simp only [x_RM_level_82, x_RM_level_85, jz_inc]
theorem rm_lev_e {p : Nat → Int32} {x : Int32} {r : Option Nat} {l4 : Option jx_V} {u v : Nat} (hv : u < v) (hu : v ≤ 4) : jx_run Z jX_RM_level (jx_m Z (d + 2)) (28, [some (.inr r), some (.inl x), some (.inl (nI u)), some (.inl (nI v)), l4], [], jy_w K (jy_row f 49 0 p) g) = some (none, jy_w K (jy_row f 49 0 p) g) := by
  have h0 : nI u < nI v := nI_lt hv (by omega)
  rw [x_RM_level_28]
  simp only [x_RM_level_27, x_RM_level_29, x_RM_level_30, x_RM_level_33, x_RM_level_34, x_RM_level_88, h0, ↓reduceIte]
theorem rm_level (h : jl_R K g) {b u : Nat} (hb : b ≤ 24) (hu : u ≤ 3) : jx_m Z (d + 3) 102 [.inr (some (K.2.1 20 0)), .inl (nI b), .inl (nI u)] (jy_w K f g) = some (none, jy_w K (jy_row f 49 0 (jq_lev (vr_row f b 8) u)) g) := by
  have a := rm_lev_a (Z := Z) (d := d) (f := f) h hb (y := nI u) (l4 := none) 8 0 (by omega) (by omega)
  have e0 : jy_row f 49 0 (vr_row f b 0) = f := by
    have : vr_row f b 0 = f 49 0 := by funext i; simp [vr_row]
    rw [this, jy_row_id]
  rw [e0] at a
  simp only [e_RM_level, x_RM_level_0, x_RM_level_1]
  refine (show _ = _ from a).trans ?_
  simp only [x_RM_level_26, x_RM_level_27]
  have c1 : (8 : Int32) >>> (nI 1 &&& 31) = nI 4 := by decide
  have c2 : (8 : Int32) >>> (nI 2 &&& 31) = nI 2 := by decide
  have c3 : (8 : Int32) >>> (nI 3 &&& 31) = nI 1 := by decide
  show jx_run Z jX_RM_level (jx_m Z (d + 2)) (28, [some (.inr (some (K.2.1 20 0))), some (.inl (nI b)), some (.inl (nI u)), some (.inl (nI 1)), none], [], jy_w K (jy_row f 49 0 (vr_row f b 8)) g) = _
  match u, hu with
  | 0, _ => exact rm_lev_e (by omega) (by omega)
  | 1, _ => exact (rm_lev_c h c1 (by omega) (by omega) (by omega)).trans (rm_lev_e (by omega) (by omega))
  | 2, _ => exact (rm_lev_c h c1 (by omega) (by omega) (by omega)).trans ((rm_lev_c h c2 (by omega) (by omega) (by omega)).trans (rm_lev_e (by omega) (by omega)))
  | 3, _ => exact (rm_lev_c h c1 (by omega) (by omega) (by omega)).trans ((rm_lev_c h c2 (by omega) (by omega) (by omega)).trans ((rm_lev_c h c3 (by omega) (by omega) (by omega)).trans (rm_lev_e (by omega) (by omega))))
end RE
