/-! the reference: fits and build -/
def vr_fit (f : jy_I) (n c : Nat) : Bool := decide (f 40 0 c = jq_sig (f 20 0 0) (f 38 0 c) (nI c) (f 37 0 c) (f 39 0 c) ∧ f 26 0 c = 0 ∧ f 41 0 c = 0 ∧ f 37 0 c = nI (vr_last f n c) ∧ f 38 0 c = f 34 0 (8 * vr_last f n c + c))
def vr_w1 (f : jy_I) (hon : Int32) (cc n : Nat) : Nat → Int32 := fun i => if f 36 0 i = 0 then 0 else if hon = 0 then 1 else if i < cc ∧ vr_fit f n i = true then 1 else 0
def vr_wa (f : jy_I) (hon : Int32) (cc n c : Nat) : Nat → Int32 := fun i => if i < c then vr_w1 f hon cc n i else f 36 0 i
def vq_c (W : Nat → Int32) (N fr : Nat) (X Y : Nat → Int32) (c : Nat) : Nat → Int32 := fun j => if 8 * N ≤ j ∧ j < 8 * N + c ∧ ¬ W (fr + (j - 8 * N)) = 0 then X (fr + (j - 8 * N)) else Y j
def vq_w (W : Nat → Int32) (fr c : Nat) : Nat → Int32 := fun j => if fr ≤ j ∧ j < fr + c then 0 else W j
theorem vq_up {W X Y : Nat → Int32} {N fr c : Nat} (h : ¬ W (fr + c) = 0) : va_up (vq_c W N fr X Y c) (8 * N + c) (X (fr + c)) = vq_c W N fr X Y (c + 1) := by
  funext j
  unfold va_up vq_c
  by_cases e : j = 8 * N + c
  · subst e
    rw [if_pos rfl, show 8 * N + c - 8 * N = c by omega, if_pos ⟨by omega, by omega, h⟩]
  · rw [if_neg e]
    by_cases q : 8 * N ≤ j ∧ j < 8 * N + c ∧ ¬ W (fr + (j - 8 * N)) = 0
    · rw [if_pos q, if_pos ⟨q.1, by omega, q.2.2⟩]
    · rw [if_neg q, if_neg (fun z => q ⟨z.1, by omega, z.2.2⟩)]
theorem vq_id {W X Y : Nat → Int32} {N fr c : Nat} (h : W (fr + c) = 0) : vq_c W N fr X Y c = vq_c W N fr X Y (c + 1) := by
  funext j
  unfold vq_c
  by_cases q : 8 * N ≤ j ∧ j < 8 * N + c ∧ ¬ W (fr + (j - 8 * N)) = 0
  · rw [if_pos q, if_pos ⟨q.1, by omega, q.2.2⟩]
  · refine (if_neg q).trans (if_neg (fun z => q ⟨z.1, ?_, z.2.2⟩)).symm
    by_cases e : j = 8 * N + c
    · subst e
      rw [show 8 * N + c - 8 * N = c by omega] at z
      exact absurd h z.2.2
    · omega
theorem vq_0 {W X Y : Nat → Int32} {N fr : Nat} : vq_c W N fr X Y 0 = Y := by
  funext j
  unfold vq_c
  rw [if_neg (by omega)]
theorem vq_w_up {W : Nat → Int32} {fr c : Nat} : va_up (vq_w W fr c) (fr + c) 0 = vq_w W fr (c + 1) := by
  funext j
  unfold va_up vq_w
  by_cases e : j = fr + c
  · rw [if_pos e, if_pos (by omega)]
  · by_cases q : fr ≤ j ∧ j < fr + c
    · rw [if_neg e, if_pos q, if_pos (by omega)]
    · rw [if_neg e, if_neg q, if_neg (by omega)]
theorem vq_w_at {W : Nat → Int32} {fr c : Nat} : vq_w W fr c (fr + c) = W (fr + c) := by
  unfold vq_w
  rw [if_neg (by omega)]
theorem vq_w_0 {W : Nat → Int32} {fr : Nat} : vq_w W fr 0 = W := by
  funext j
  unfold vq_w
  rw [if_neg (by omega)]
def vo_b1 (f : jy_I) (hon s : Int32) (cc n : Nat) : jy_I := jy_up (jy_up (jy_row f 36 0 (vr_wa f hon cc n 8)) 20 0 8 (nI (n + 1))) 29 0 (n + 1) (if s = 0 then 1 else 0)
def vo_b2 (f G : jy_I) (W : Nat → Int32) (n fr c : Nat) : jy_I := jy_row (jy_row (jy_row (jy_row (jy_row (jy_row G 30 0 (vq_c W (n + 1) fr (fun _ => 1) (f 30 0) c)) 32 0 (vq_c W (n + 1) fr (f 37 0) (f 32 0) c)) 33 0 (vq_c W (n + 1) fr (f 38 0) (f 33 0) c)) 34 0 (vq_c W (n + 1) fr (f 39 0) (f 34 0) c)) 35 0 (vq_c W (n + 1) fr (f 40 0) (f 35 0) c)) 36 0 (vq_w W fr c)
def vo_bld (f : jy_I) (hon s : Int32) (cc n : Nat) : jy_I := vo_b2 f (vo_b1 f hon s cc n) (vr_wa f hon cc n 8) n (if hon = 0 then 8 else 0) 8
theorem vr_has_row {f : jy_I} {p : Nat → Int32} {c : Nat} : vr_has (jy_row f 36 0 p) c = vr_has f c := by
  funext b
  simp [vr_has, jy_row]
theorem vr_fit_row {f : jy_I} {p : Nat → Int32} {n c : Nat} : vr_fit (jy_row f 36 0 p) n c = vr_fit f n c := by
  unfold vr_fit vr_last
  rw [vr_has_row]
  simp [jy_row]
section RK
variable {Z : jx_Sc} {d : Nat} {K : jy_K} {f : jy_I} {g : jy_R} {call : jx_C} {w : jx_W}
theorem rm_fits (h : jl_R K g) {cc n c : Nat} (hn : jn_R f cc n) (hc : c < 8) : jx_m Z (d + 3) 77 [.inr (some (K.2.1 20 0)), .inl (nI c)] (jy_w K f g) = some (some (.inl (jq_b (vr_fit f n c))), jy_w K f g) := by
  have hnn := hn.2.2.2
  have hl := vr_last_le (f := f) (n := n) (c := c)
  have hk : 8 * vr_last f n c + c < 200 := by omega
  have hc16 : c < 16 := by omega
  have hL := rm_latest (Z := Z) (d := d + 1) h hn hc
  rw [show jq_upl (vr_has f c) n 1 0 = vr_last f n c from rfl] at hL
  simp only [e_RM_fits, x_RM_fits_0, x_RM_fits_1, x_RM_fits_2, x_RM_fits_5, x_RM_fits_6, x_RM_fits_7, x_RM_fits_10, x_RM_fits_11, x_RM_fits_12, x_RM_fits_13, x_RM_fits_14, x_RM_fits_17, x_RM_fits_18, x_RM_fits_19, x_RM_fits_20, x_RM_fits_21, x_RM_fits_24, x_RM_fits_25, x_RM_fits_26, x_RM_fits_27, x_RM_fits_30, x_RM_fits_31, x_RM_fits_32, x_RM_fits_35, x_RM_fits_38, x_RM_fits_39, x_RM_fits_42, x_RM_fits_43, x_RM_fits_44, x_RM_fits_45, x_RM_fits_48, x_RM_fits_49, x_RM_fits_52, x_RM_fits_53, x_RM_fits_54, x_RM_fits_57, x_RM_fits_58, x_RM_fits_61, x_RM_fits_62, x_RM_fits_63, x_RM_fits_66, x_RM_fits_67, x_RM_fits_70, x_RM_fits_71, x_RM_fits_72, x_RM_fits_73, x_RM_fits_76, x_RM_fits_77, x_RM_fits_80, x_RM_fits_81, x_RM_fits_82, x_RM_fits_83, x_RM_fits_86, x_RM_fits_88, x_RM_fits_89, x_RM_fits_90, x_RM_fits_91, x_RM_fits_92, x_RM_fits_93, x_RM_fits_96, x_RM_fits_97, x_RM_fits_100, x_RM_fits_101, ru_is h, ru_g0 h, ru_s0 h, ru_g1 h, ru_s1 h, ru_g2 h, ru_s2 h, ru_g3 h, ru_g4 h, ru_s4 h, ru_g5 h, ru_g6 h, ru_g7 h, ru_g8 h, ru_s8 h, ru_g9 h, ru_g10 h, ru_g11 h, ru_g12 h, ru_g13 h, ru_g14 h, ru_g15 h, ru_g16 h, ru_g17 h, ru_g18 h, ru_g19 h, ru_g20 h, ru_g21 h, ru_g22 h, ru_g23 h, ru_g24 h, ru_g25 h, ru_g26 h, ru_g27 h, ru_g28 h, ru_g29 h, ru_n3 h, ru_m3 h, ru_n5 h, ru_m5 h, ru_n6 h, ru_m6 h, ru_n7 h, ru_m7 h, ru_n9 h, ru_m9 h, ru_n10 h, ru_m10 h, ru_n11 h, ru_m11 h, ru_n12 h, ru_m12 h, ru_n13 h, ru_m13 h, ru_n14 h, ru_m14 h, ru_n15 h, ru_m15 h, ru_n16 h, ru_m16 h, ru_n17 h, ru_m17 h, ru_n18 h, ru_m18 h, ru_n19 h, ru_m19 h, ru_n20 h, ru_m20 h, ru_n21 h, ru_m21 h, ru_n22 h, ru_m22 h, ru_n23 h, ru_m23 h, ru_n24 h, ru_m24 h, ru_n25 h, ru_m25 h, ru_n26 h, ru_m26 h, ru_n27 h, ru_m27 h, ru_n28 h, ru_m28 h, ru_n29 h, ru_m29 h, Option.bind_some, Option.toList_some, Option.toList_none, List.cons_append, List.nil_append, rm_sig h, hL, hc, hc16, hk, jz_8i, ↓reduceIte]
  unfold vr_fit
  by_cases q1 : f 40 0 c = jq_sig (f 20 0 0) (f 38 0 c) (nI c) (f 37 0 c) (f 39 0 c)
  · rw [← q1]
    by_cases q2 : f 26 0 c = 0
    · by_cases q3 : f 41 0 c = 0
      · by_cases q4 : f 37 0 c = nI (vr_last f n c)
        · by_cases q5 : f 38 0 c = f 34 0 (8 * vr_last f n c + c) <;> simp [q2, q3, q4, q5, jq_b]
        · simp [q2, q3, q4, jq_b]
      · simp [q2, q3, jq_b]
    · simp [q2, jq_b]
  · simp [q1, jq_b]
theorem jn_row {f : jy_I} {cc n : Nat} {p : Nat → Int32} (hn : jn_R f cc n) : jn_R (jy_row f 36 0 p) cc n := by
  unfold jn_R at hn ⊢
  rw [jy_row_k (by decide)]
  exact hn
theorem rm_bld_a (h : jl_R K g) {cc n : Nat} (hn : jn_R f cc n) {hon s : Int32} {l4 l5 : Option jx_V} : ∀ m c : Nat, 8 - c = m → c ≤ 8 → jx_run Z jX_RM_build (jx_m Z (d + 3)) (14, [some (.inr (some (K.2.1 20 0))), some (.inl hon), some (.inl s), some (.inl (nI c)), l4, l5], [], jy_w K (jy_row f 36 0 (vr_wa f hon cc n c)) g) = jx_run Z jX_RM_build (jx_m Z (d + 3)) (66, [some (.inr (some (K.2.1 20 0))), some (.inl hon), some (.inl s), some (.inl (nI 8)), l4, l5], [], jy_w K (jy_row f 36 0 (vr_wa f hon cc n 8)) g) := by
  have b1 : ¬ jq_b true = 0 := by decide
  have b0 : jq_b false = 0 := by decide
  have hcc := hn.2.2.1
  intro m
  induction m with
  | zero =>
    intro c hm hc
    have e : c = 8 := by omega
    subst e
    have h0 : (8 : Int32) ≤ nI 8 := by decide
    rw [x_RM_build_14]
    simp only [x_RM_build_15, x_RM_build_17, x_RM_build_20, x_RM_build_21, x_RM_build_24, x_RM_build_25, x_RM_build_26, x_RM_build_29, x_RM_build_30, x_RM_build_31, x_RM_build_34, x_RM_build_35, x_RM_build_38, x_RM_build_39, x_RM_build_40, x_RM_build_43, x_RM_build_46, x_RM_build_47, x_RM_build_48, x_RM_build_51, x_RM_build_54, x_RM_build_55, x_RM_build_58, x_RM_build_59, x_RM_build_60, x_RM_build_63, h0, ↓reduceIte]
  | succ m ih =>
    intro c hm hc
    have h0 : ¬ (8 : Int32) ≤ nI c := nI_ge (show c < 8 by omega) (by decide)
    have hc8 : c < 8 := by omega
    have hc16 : c < 16 := by omega
    have eat : vr_wa f hon cc n c c = f 36 0 c := by unfold vr_wa; rw [if_neg (by omega)]
    have eup : va_up (vr_wa f hon cc n c) c (vr_w1 f hon cc n c) = vr_wa f hon cc n (c + 1) := by
      funext i
      unfold va_up vr_wa
      by_cases e1 : i = c
      · subst e1
        simp
      · by_cases e2 : i < c
        · simp [e1, e2, show i < c + 1 by omega]
        · simp [e1, e2, show ¬ i < c + 1 by omega]
    have I := ih (c + 1) (by omega) (by omega)
    rw [← eup] at I
    have fin : ∀ v : Int32, vr_w1 f hon cc n c = v → (v = 0 ∨ v = 1) → jx_run Z jX_RM_build (jx_m Z (d + 3)) (59, [some (.inr (some (K.2.1 20 0))), some (.inl hon), some (.inl s), some (.inl (nI c)), l4, l5], [.inl v, .inl (nI c), .inr (some (K.2.1 36 0))], jy_w K (jy_row f 36 0 (vr_wa f hon cc n c)) g) = jx_run Z jX_RM_build (jx_m Z (d + 3)) (66, [some (.inr (some (K.2.1 20 0))), some (.inl hon), some (.inl s), some (.inl (nI 8)), l4, l5], [], jy_w K (jy_row f 36 0 (vr_wa f hon cc n 8)) g) := by
      intro v hv h01
      rw [hv] at I
      simp only [x_RM_build_59, x_RM_build_60, x_RM_build_63, ru_n3 h, ru_m3 h, ru_n5 h, ru_m5 h, ru_n6 h, ru_m6 h, ru_n7 h, ru_m7 h, ru_n9 h, ru_m9 h, ru_n10 h, ru_m10 h, ru_n11 h, ru_m11 h, ru_n12 h, ru_m12 h, ru_n13 h, ru_m13 h, ru_n14 h, ru_m14 h, ru_n15 h, ru_m15 h, ru_n16 h, ru_m16 h, ru_n17 h, ru_m17 h, ru_n18 h, ru_m18 h, ru_n19 h, ru_m19 h, ru_n20 h, ru_m20 h, ru_n21 h, ru_m21 h, ru_n22 h, ru_m22 h, ru_n23 h, ru_m23 h, ru_n24 h, ru_m24 h, ru_n25 h, ru_m25 h, ru_n26 h, ru_m26 h, ru_n27 h, ru_m27 h, ru_n28 h, ru_m28 h, ru_n29 h, ru_m29 h, Option.bind_some, Option.toList_some, Option.toList_none, List.cons_append, List.nil_append, h01, hc16, jy_pu_at, jz_inc, ↓reduceIte]
      exact I
    rw [x_RM_build_14]
    simp only [x_RM_build_15, x_RM_build_17, x_RM_build_20, x_RM_build_21, x_RM_build_24, x_RM_build_25, x_RM_build_26, x_RM_build_29, x_RM_build_30, x_RM_build_31, x_RM_build_34, x_RM_build_35, x_RM_build_38, x_RM_build_39, x_RM_build_40, x_RM_build_43, x_RM_build_46, x_RM_build_47, x_RM_build_48, x_RM_build_51, x_RM_build_54, x_RM_build_55, x_RM_build_58, ru_is h, ru_g0 h, ru_s0 h, ru_g1 h, ru_s1 h, ru_g2 h, ru_s2 h, ru_g3 h, ru_g4 h, ru_s4 h, ru_g5 h, ru_g6 h, ru_g7 h, ru_g8 h, ru_s8 h, ru_g9 h, ru_g10 h, ru_g11 h, ru_g12 h, ru_g13 h, ru_g14 h, ru_g15 h, ru_g16 h, ru_g17 h, ru_g18 h, ru_g19 h, ru_g20 h, ru_g21 h, ru_g22 h, ru_g23 h, ru_g24 h, ru_g25 h, ru_g26 h, ru_g27 h, ru_g28 h, ru_g29 h, ru_n3 h, ru_m3 h, ru_n5 h, ru_m5 h, ru_n6 h, ru_m6 h, ru_n7 h, ru_m7 h, ru_n9 h, ru_m9 h, ru_n10 h, ru_m10 h, ru_n11 h, ru_m11 h, ru_n12 h, ru_m12 h, ru_n13 h, ru_m13 h, ru_n14 h, ru_m14 h, ru_n15 h, ru_m15 h, ru_n16 h, ru_m16 h, ru_n17 h, ru_m17 h, ru_n18 h, ru_m18 h, ru_n19 h, ru_m19 h, ru_n20 h, ru_m20 h, ru_n21 h, ru_m21 h, ru_n22 h, ru_m22 h, ru_n23 h, ru_m23 h, ru_n24 h, ru_m24 h, ru_n25 h, ru_m25 h, ru_n26 h, ru_m26 h, ru_n27 h, ru_m27 h, ru_n28 h, ru_m28 h, ru_n29 h, ru_m29 h, Option.bind_some, Option.toList_some, Option.toList_none, List.cons_append, List.nil_append, rm_fits h (jn_row hn) hc8, vr_fit_row, h0, hc16, jy_row_at, eat, ↓reduceIte]
    by_cases q1 : f 36 0 c = 0
    · simp only [q1, ↓reduceIte]
      exact fin 0 (by unfold vr_w1; rw [if_pos q1]) (Or.inl rfl)
    · by_cases q2 : hon = 0
      · simp only [q1, q2, ↓reduceIte]
        have := fin 1 (by unfold vr_w1; rw [if_neg q1, if_pos q2]) (Or.inr rfl)
        rw [q2] at this
        exact this
      · by_cases q3 : c < cc
        · have hcoin := rm_coin_y (Z := Z) (d := d + 2) h (jn_row (p := vr_wa f hon cc n c) hn) q3
          have e1 : ¬ (1 : Int32) = 0 := by decide
          cases q4 : vr_fit f n c with
          | true =>
            simp only [q1, q2, q4, hcoin, x_RM_build_43, x_RM_build_46, x_RM_build_47, x_RM_build_48, x_RM_build_51, x_RM_build_54, x_RM_build_55, x_RM_build_58, ru_is h, ru_g0 h, ru_s0 h, ru_g1 h, ru_s1 h, ru_g2 h, ru_s2 h, ru_g3 h, ru_g4 h, ru_s4 h, ru_g5 h, ru_g6 h, ru_g7 h, ru_g8 h, ru_s8 h, ru_g9 h, ru_g10 h, ru_g11 h, ru_g12 h, ru_g13 h, ru_g14 h, ru_g15 h, ru_g16 h, ru_g17 h, ru_g18 h, ru_g19 h, ru_g20 h, ru_g21 h, ru_g22 h, ru_g23 h, ru_g24 h, ru_g25 h, ru_g26 h, ru_g27 h, ru_g28 h, ru_g29 h, rm_fits h (jn_row hn) hc8, vr_fit_row, Option.bind_some, Option.toList_some, Option.toList_none, List.cons_append, List.nil_append, b1, e1, ↓reduceIte]
            exact fin 1 (by unfold vr_w1; rw [if_neg q1, if_neg q2, if_pos ⟨q3, q4⟩]) (Or.inr rfl)
          | false =>
            simp only [q1, q2, q4, hcoin, x_RM_build_43, x_RM_build_46, x_RM_build_47, x_RM_build_48, x_RM_build_51, x_RM_build_54, x_RM_build_55, x_RM_build_58, ru_is h, ru_g0 h, ru_s0 h, ru_g1 h, ru_s1 h, ru_g2 h, ru_s2 h, ru_g3 h, ru_g4 h, ru_s4 h, ru_g5 h, ru_g6 h, ru_g7 h, ru_g8 h, ru_s8 h, ru_g9 h, ru_g10 h, ru_g11 h, ru_g12 h, ru_g13 h, ru_g14 h, ru_g15 h, ru_g16 h, ru_g17 h, ru_g18 h, ru_g19 h, ru_g20 h, ru_g21 h, ru_g22 h, ru_g23 h, ru_g24 h, ru_g25 h, ru_g26 h, ru_g27 h, ru_g28 h, ru_g29 h, rm_fits h (jn_row hn) hc8, vr_fit_row, Option.bind_some, Option.toList_some, Option.toList_none, List.cons_append, List.nil_append, b0, e1, ↓reduceIte]
            exact fin 0 (by unfold vr_w1; rw [if_neg q1, if_neg q2, if_neg (fun z => by rw [q4] at z; exact absurd z.2 (by decide))]) (Or.inl rfl)
        · have hcoin := rm_coin_n (Z := Z) (d := d + 2) h (jn_row (p := vr_wa f hon cc n c) hn) q3 (by omega)
          simp only [q1, q2, hcoin, x_RM_build_43, x_RM_build_46, x_RM_build_47, x_RM_build_48, x_RM_build_51, x_RM_build_54, x_RM_build_55, x_RM_build_58, Option.bind_some, Option.toList_some, Option.toList_none, List.cons_append, List.nil_append, ↓reduceIte]
          exact fin 0 (by unfold vr_w1; rw [if_neg q1, if_neg q2, if_neg (fun z => q3 z.1)]) (Or.inl rfl)
theorem rm_bld_b (h : jl_R K g) {G : jy_I} {W : Nat → Int32} {cc n fr : Nat} (hG : jn_R G cc (n + 1)) (h37 : G 37 = f 37) (h38 : G 38 = f 38) (h39 : G 39 = f 39) (h40 : G 40 = f 40) (hfr : fr ≤ 8) {x y : Int32} : ∀ (m c : Nat) (l5 : Option jx_V), 8 - c = m → c ≤ 8 → ∃ l5', jx_run Z jX_RM_build call (85, [some (.inr (some (K.2.1 20 0))), some (.inl x), some (.inl y), some (.inl (nI fr)), some (.inl (nI c)), l5], [], jy_w K (vo_b2 f G W n fr c) g) = jx_run Z jX_RM_build call (204, [some (.inr (some (K.2.1 20 0))), some (.inl x), some (.inl y), some (.inl (nI fr)), some (.inl (nI 8)), l5'], [], jy_w K (vo_b2 f G W n fr 8) g) := by
  have hnn := hG.2.2.2
  intro m
  induction m with
  | zero =>
    intro c l5 hm hc
    have e : c = 8 := by omega
    subst e
    have h0 : (8 : Int32) ≤ nI 8 := by decide
    refine ⟨l5, ?_⟩
    rw [x_RM_build_85]
    simp only [x_RM_build_87, x_RM_build_89, x_RM_build_92, x_RM_build_94, x_RM_build_95, x_RM_build_98, x_RM_build_99, x_RM_build_101, x_RM_build_102, x_RM_build_104, x_RM_build_105, x_RM_build_108, x_RM_build_109, x_RM_build_111, x_RM_build_112, x_RM_build_113, x_RM_build_116, x_RM_build_117, x_RM_build_120, x_RM_build_122, x_RM_build_123, x_RM_build_124, x_RM_build_125, x_RM_build_128, x_RM_build_130, x_RM_build_131, x_RM_build_134, x_RM_build_135, x_RM_build_137, x_RM_build_138, x_RM_build_139, x_RM_build_140, x_RM_build_141, x_RM_build_144, x_RM_build_146, x_RM_build_147, x_RM_build_150, x_RM_build_151, x_RM_build_153, x_RM_build_154, x_RM_build_155, x_RM_build_156, x_RM_build_157, x_RM_build_160, x_RM_build_162, x_RM_build_163, x_RM_build_166, x_RM_build_167, x_RM_build_169, x_RM_build_170, x_RM_build_171, x_RM_build_172, x_RM_build_173, x_RM_build_176, x_RM_build_178, x_RM_build_179, x_RM_build_182, x_RM_build_183, x_RM_build_185, x_RM_build_186, x_RM_build_187, x_RM_build_188, x_RM_build_189, x_RM_build_192, x_RM_build_193, x_RM_build_195, x_RM_build_196, x_RM_build_197, x_RM_build_198, x_RM_build_201, h0, ↓reduceIte]
  | succ m ih =>
    intro c l5 hm hc
    have h0 : ¬ (8 : Int32) ≤ nI c := nI_ge (show c < 8 by omega) (by decide)
    have hk : 8 * (n + 1) + c < 200 := by omega
    have hw : fr + c < 16 := by omega
    obtain ⟨l5', I⟩ := ih (c + 1) (some (.inl (nI (8 * (n + 1) + c)))) (by omega) (by omega)
    refine ⟨l5', ?_⟩
    unfold vo_b2 at I ⊢
    rw [x_RM_build_85]
    by_cases q : W (fr + c) = 0
    · rw [← vq_id q, ← vq_id q, ← vq_id q, ← vq_id q, ← vq_id q] at I
      simp only [x_RM_build_87, x_RM_build_89, x_RM_build_92, x_RM_build_94, x_RM_build_95, x_RM_build_98, x_RM_build_99, x_RM_build_101, x_RM_build_102, x_RM_build_104, x_RM_build_105, x_RM_build_108, x_RM_build_109, x_RM_build_111, x_RM_build_112, x_RM_build_113, x_RM_build_116, x_RM_build_117, x_RM_build_120, x_RM_build_122, x_RM_build_123, x_RM_build_124, x_RM_build_125, x_RM_build_128, x_RM_build_130, x_RM_build_131, x_RM_build_134, x_RM_build_135, x_RM_build_137, x_RM_build_138, x_RM_build_139, x_RM_build_140, x_RM_build_141, x_RM_build_144, x_RM_build_146, x_RM_build_147, x_RM_build_150, x_RM_build_151, x_RM_build_153, x_RM_build_154, x_RM_build_155, x_RM_build_156, x_RM_build_157, x_RM_build_160, x_RM_build_162, x_RM_build_163, x_RM_build_166, x_RM_build_167, x_RM_build_169, x_RM_build_170, x_RM_build_171, x_RM_build_172, x_RM_build_173, x_RM_build_176, x_RM_build_178, x_RM_build_179, x_RM_build_182, x_RM_build_183, x_RM_build_185, x_RM_build_186, x_RM_build_187, x_RM_build_188, x_RM_build_189, x_RM_build_192, x_RM_build_193, x_RM_build_195, x_RM_build_196, x_RM_build_197, x_RM_build_198, x_RM_build_201, ru_is h, ru_g0 h, ru_s0 h, ru_g1 h, ru_s1 h, ru_g2 h, ru_s2 h, ru_g3 h, ru_g4 h, ru_s4 h, ru_g5 h, ru_g6 h, ru_g7 h, ru_g8 h, ru_s8 h, ru_g9 h, ru_g10 h, ru_g11 h, ru_g12 h, ru_g13 h, ru_g14 h, ru_g15 h, ru_g16 h, ru_g17 h, ru_g18 h, ru_g19 h, ru_g20 h, ru_g21 h, ru_g22 h, ru_g23 h, ru_g24 h, ru_g25 h, ru_g26 h, ru_g27 h, ru_g28 h, ru_g29 h, ru_n3 h, ru_m3 h, ru_n5 h, ru_m5 h, ru_n6 h, ru_m6 h, ru_n7 h, ru_m7 h, ru_n9 h, ru_m9 h, ru_n10 h, ru_m10 h, ru_n11 h, ru_m11 h, ru_n12 h, ru_m12 h, ru_n13 h, ru_m13 h, ru_n14 h, ru_m14 h, ru_n15 h, ru_m15 h, ru_n16 h, ru_m16 h, ru_n17 h, ru_m17 h, ru_n18 h, ru_m18 h, ru_n19 h, ru_m19 h, ru_n20 h, ru_m20 h, ru_n21 h, ru_m21 h, ru_n22 h, ru_m22 h, ru_n23 h, ru_m23 h, ru_n24 h, ru_m24 h, ru_n25 h, ru_m25 h, ru_n26 h, ru_m26 h, ru_n27 h, ru_m27 h, ru_n28 h, ru_m28 h, ru_n29 h, ru_m29 h, Option.bind_some, Option.toList_some, Option.toList_none, List.cons_append, List.nil_append, h0, jy_row_at, jy_row_k, jy_up_self, jy_up_k, jy_up_j, Nat.reduceEqDiff, not_false_eq_true, reduceCtorEq, Nat.reduceAdd, hG.2.1, jz_8i, jz_add, jz_inc, hk, hw, vq_w_at, q, jy_pu_at, vq_w_up, true_or, ↓reduceIte]
      exact I
    · rw [← vq_up (X := fun _ => 1) q, ← vq_up q, ← vq_up q, ← vq_up q, ← vq_up q] at I
      simp only [x_RM_build_87, x_RM_build_89, x_RM_build_92, x_RM_build_94, x_RM_build_95, x_RM_build_98, x_RM_build_99, x_RM_build_101, x_RM_build_102, x_RM_build_104, x_RM_build_105, x_RM_build_108, x_RM_build_109, x_RM_build_111, x_RM_build_112, x_RM_build_113, x_RM_build_116, x_RM_build_117, x_RM_build_120, x_RM_build_122, x_RM_build_123, x_RM_build_124, x_RM_build_125, x_RM_build_128, x_RM_build_130, x_RM_build_131, x_RM_build_134, x_RM_build_135, x_RM_build_137, x_RM_build_138, x_RM_build_139, x_RM_build_140, x_RM_build_141, x_RM_build_144, x_RM_build_146, x_RM_build_147, x_RM_build_150, x_RM_build_151, x_RM_build_153, x_RM_build_154, x_RM_build_155, x_RM_build_156, x_RM_build_157, x_RM_build_160, x_RM_build_162, x_RM_build_163, x_RM_build_166, x_RM_build_167, x_RM_build_169, x_RM_build_170, x_RM_build_171, x_RM_build_172, x_RM_build_173, x_RM_build_176, x_RM_build_178, x_RM_build_179, x_RM_build_182, x_RM_build_183, x_RM_build_185, x_RM_build_186, x_RM_build_187, x_RM_build_188, x_RM_build_189, x_RM_build_192, x_RM_build_193, x_RM_build_195, x_RM_build_196, x_RM_build_197, x_RM_build_198, x_RM_build_201, ru_is h, ru_g0 h, ru_s0 h, ru_g1 h, ru_s1 h, ru_g2 h, ru_s2 h, ru_g3 h, ru_g4 h, ru_s4 h, ru_g5 h, ru_g6 h, ru_g7 h, ru_g8 h, ru_s8 h, ru_g9 h, ru_g10 h, ru_g11 h, ru_g12 h, ru_g13 h, ru_g14 h, ru_g15 h, ru_g16 h, ru_g17 h, ru_g18 h, ru_g19 h, ru_g20 h, ru_g21 h, ru_g22 h, ru_g23 h, ru_g24 h, ru_g25 h, ru_g26 h, ru_g27 h, ru_g28 h, ru_g29 h, ru_n3 h, ru_m3 h, ru_n5 h, ru_m5 h, ru_n6 h, ru_m6 h, ru_n7 h, ru_m7 h, ru_n9 h, ru_m9 h, ru_n10 h, ru_m10 h, ru_n11 h, ru_m11 h, ru_n12 h, ru_m12 h, ru_n13 h, ru_m13 h, ru_n14 h, ru_m14 h, ru_n15 h, ru_m15 h, ru_n16 h, ru_m16 h, ru_n17 h, ru_m17 h, ru_n18 h, ru_m18 h, ru_n19 h, ru_m19 h, ru_n20 h, ru_m20 h, ru_n21 h, ru_m21 h, ru_n22 h, ru_m22 h, ru_n23 h, ru_m23 h, ru_n24 h, ru_m24 h, ru_n25 h, ru_m25 h, ru_n26 h, ru_m26 h, ru_n27 h, ru_m27 h, ru_n28 h, ru_m28 h, ru_n29 h, ru_m29 h, Option.bind_some, Option.toList_some, Option.toList_none, List.cons_append, List.nil_append, h0, jy_row_at, jy_row_k, jy_up_self, jy_up_k, jy_up_j, Nat.reduceEqDiff, not_false_eq_true, reduceCtorEq, Nat.reduceAdd, hG.2.1, h37, h38, h39, h40, jz_8i, jz_add, jz_inc, hk, hw, vq_w_at, q, jy_pu_ne, jy_pu_at, vq_w_up, true_or, or_true, ↓reduceIte]
      exact I
theorem rm_bld (h : jl_R K g) {cc n : Nat} (hn : jn_R f cc n) {hon s : Int32} : jx_m Z (d + 4) 76 [.inr (some (K.2.1 20 0)), .inl hon, .inl s] (jy_w K f g) = some (if n = 24 then (some (.inl (-2)), jy_w K f g) else (some (.inl (nI (n + 1))), jy_w K (vo_bld f hon s cc n) g)) := by
  have hnn := hn.2.2.2
  by_cases q : n = 24
  · subst q
    have e : nI 24 = 24 := rfl
    simp only [e_RM_build, x_RM_build_0, x_RM_build_1, x_RM_build_4, x_RM_build_6, x_RM_build_9, x_RM_build_11, ru_is h, ru_g0 h, ru_s0 h, ru_g1 h, ru_s1 h, ru_g2 h, ru_s2 h, ru_g3 h, ru_g4 h, ru_s4 h, ru_g5 h, ru_g6 h, ru_g7 h, ru_g8 h, ru_s8 h, ru_g9 h, ru_g10 h, ru_g11 h, ru_g12 h, ru_g13 h, ru_g14 h, ru_g15 h, ru_g16 h, ru_g17 h, ru_g18 h, ru_g19 h, ru_g20 h, ru_g21 h, ru_g22 h, ru_g23 h, ru_g24 h, ru_g25 h, ru_g26 h, ru_g27 h, ru_g28 h, ru_g29 h, Option.bind_some, Option.toList_some, Option.toList_none, List.cons_append, List.nil_append, hn.2.1, e, ↓reduceIte, not_true_eq_false]
  · have e : ¬ nI n = 24 := nI_ne (b := 24) (by omega) (by omega) q
    have A := rm_bld_a (Z := Z) (d := d) (f := f) h hn (hon := hon) (s := s) (l4 := none) (l5 := none) 8 0 (by omega) (by omega)
    have e0 : jy_row f 36 0 (vr_wa f hon cc n 0) = f := by
      have : vr_wa f hon cc n 0 = f 36 0 := by funext i; simp [vr_wa]
      rw [this, jy_row_id]
    rw [e0] at A
    have hG : jn_R (vo_b1 f hon s cc n) cc (n + 1) := by
      unfold jn_R at hn ⊢
      unfold vo_b1
      simp only [jy_up_self, jy_up_k, jy_up_j, Nat.reduceEqDiff, not_false_eq_true, reduceCtorEq, Nat.reduceAdd, jy_row_k]
      exact ⟨hn.1, trivial, hn.2.2.1, by omega⟩
    have h37 : vo_b1 f hon s cc n 37 = f 37 := by funext i j; simp [vo_b1, jy_up, jy_row]
    have h38 : vo_b1 f hon s cc n 38 = f 38 := by funext i j; simp [vo_b1, jy_up, jy_row]
    have h39 : vo_b1 f hon s cc n 39 = f 39 := by funext i j; simp [vo_b1, jy_up, jy_row]
    have h40 : vo_b1 f hon s cc n 40 = f 40 := by funext i j; simp [vo_b1, jy_up, jy_row]
    have st0 : ∀ fr, vo_b2 f (vo_b1 f hon s cc n) (vr_wa f hon cc n 8) n fr 0 = vo_b1 f hon s cc n := by
      intro fr
      unfold vo_b2
      rw [vq_0, vq_0, vq_0, vq_0, vq_0, vq_w_0]
      have z30 : f 30 0 = vo_b1 f hon s cc n 30 0 := by funext j; simp [vo_b1, jy_up, jy_row]
      have z32 : f 32 0 = vo_b1 f hon s cc n 32 0 := by funext j; simp [vo_b1, jy_up, jy_row]
      have z33 : f 33 0 = vo_b1 f hon s cc n 33 0 := by funext j; simp [vo_b1, jy_up, jy_row]
      have z34 : f 34 0 = vo_b1 f hon s cc n 34 0 := by funext j; simp [vo_b1, jy_up, jy_row]
      have z35 : f 35 0 = vo_b1 f hon s cc n 35 0 := by funext j; simp [vo_b1, jy_up, jy_row]
      have z36 : vr_wa f hon cc n 8 = vo_b1 f hon s cc n 36 0 := by funext j; simp [vo_b1, jy_up, jy_row]
      rw [z30, jy_row_id, z32, jy_row_id, z33, jy_row_id, z34, jy_row_id, z35, jy_row_id, z36, jy_row_id]
    simp only [e_RM_build, x_RM_build_0, x_RM_build_1, x_RM_build_4, x_RM_build_6, x_RM_build_9, x_RM_build_11, x_RM_build_12, x_RM_build_13, ru_is h, ru_g0 h, ru_s0 h, ru_g1 h, ru_s1 h, ru_g2 h, ru_s2 h, ru_g3 h, ru_g4 h, ru_s4 h, ru_g5 h, ru_g6 h, ru_g7 h, ru_g8 h, ru_s8 h, ru_g9 h, ru_g10 h, ru_g11 h, ru_g12 h, ru_g13 h, ru_g14 h, ru_g15 h, ru_g16 h, ru_g17 h, ru_g18 h, ru_g19 h, ru_g20 h, ru_g21 h, ru_g22 h, ru_g23 h, ru_g24 h, ru_g25 h, ru_g26 h, ru_g27 h, ru_g28 h, ru_g29 h, Option.bind_some, Option.toList_some, Option.toList_none, List.cons_append, List.nil_append, hn.2.1, e, q, ↓reduceIte, not_false_eq_true]
    refine (show _ = _ from A).trans ?_
    have nb := rm_newBlock (Z := Z) (d := d + 2) h (jn_row (p := vr_wa f hon cc n 8) hn) (show n < 24 by omega) (s := s)
    have nb : jx_m Z (d + 3) 69 [.inr (some (K.2.1 20 0)), .inl s] (jy_w K (jy_row f 36 0 (vr_wa f hon cc n 8)) g) = some (none, jy_w K (vo_b1 f hon s cc n) g) := nb
    by_cases z : hon = 0
    · subst z
      obtain ⟨l5', B⟩ := rm_bld_b (Z := Z) (call := jx_m Z (d + 3)) (f := f) h (W := vr_wa f 0 cc n 8) hG h37 h38 h39 h40 (fr := 8) (by omega) (x := 0) (y := s) 8 0 none (by omega) (by omega)
      rw [st0] at B
      simp only [x_RM_build_66, x_RM_build_67, x_RM_build_68, x_RM_build_71, x_RM_build_72, x_RM_build_75, x_RM_build_76, x_RM_build_79, x_RM_build_81, x_RM_build_82, x_RM_build_83, ru_is h, ru_g0 h, ru_s0 h, ru_g1 h, ru_s1 h, ru_g2 h, ru_s2 h, ru_g3 h, ru_g4 h, ru_s4 h, ru_g5 h, ru_g6 h, ru_g7 h, ru_g8 h, ru_s8 h, ru_g9 h, ru_g10 h, ru_g11 h, ru_g12 h, ru_g13 h, ru_g14 h, ru_g15 h, ru_g16 h, ru_g17 h, ru_g18 h, ru_g19 h, ru_g20 h, ru_g21 h, ru_g22 h, ru_g23 h, ru_g24 h, ru_g25 h, ru_g26 h, ru_g27 h, ru_g28 h, ru_g29 h, Option.bind_some, Option.toList_some, Option.toList_none, List.cons_append, List.nil_append, nb, ↓reduceIte]
      refine (show _ = _ from B).trans ?_
      have e8 : vo_b2 f (vo_b1 f 0 s cc n) (vr_wa f 0 cc n 8) n 8 8 20 0 8 = nI (n + 1) := by simp [vo_b2, jy_row, hG.2.1]
      simp only [x_RM_build_204, x_RM_build_205, x_RM_build_208, ru_is h, ru_g0 h, ru_s0 h, ru_g1 h, ru_s1 h, ru_g2 h, ru_s2 h, ru_g3 h, ru_g4 h, ru_s4 h, ru_g5 h, ru_g6 h, ru_g7 h, ru_g8 h, ru_s8 h, ru_g9 h, ru_g10 h, ru_g11 h, ru_g12 h, ru_g13 h, ru_g14 h, ru_g15 h, ru_g16 h, ru_g17 h, ru_g18 h, ru_g19 h, ru_g20 h, ru_g21 h, ru_g22 h, ru_g23 h, ru_g24 h, ru_g25 h, ru_g26 h, ru_g27 h, ru_g28 h, ru_g29 h, Option.bind_some, Option.toList_some, Option.toList_none, List.cons_append, List.nil_append, e8]
      unfold vo_bld
      rw [if_pos rfl]
    · obtain ⟨l5', B⟩ := rm_bld_b (Z := Z) (call := jx_m Z (d + 3)) (f := f) h (W := vr_wa f hon cc n 8) hG h37 h38 h39 h40 (fr := 0) (by omega) (x := hon) (y := s) 8 0 none (by omega) (by omega)
      rw [st0] at B
      simp only [x_RM_build_66, x_RM_build_67, x_RM_build_68, x_RM_build_71, x_RM_build_72, x_RM_build_75, x_RM_build_76, x_RM_build_79, x_RM_build_81, x_RM_build_82, x_RM_build_83, ru_is h, ru_g0 h, ru_s0 h, ru_g1 h, ru_s1 h, ru_g2 h, ru_s2 h, ru_g3 h, ru_g4 h, ru_s4 h, ru_g5 h, ru_g6 h, ru_g7 h, ru_g8 h, ru_s8 h, ru_g9 h, ru_g10 h, ru_g11 h, ru_g12 h, ru_g13 h, ru_g14 h, ru_g15 h, ru_g16 h, ru_g17 h, ru_g18 h, ru_g19 h, ru_g20 h, ru_g21 h, ru_g22 h, ru_g23 h, ru_g24 h, ru_g25 h, ru_g26 h, ru_g27 h, ru_g28 h, ru_g29 h, Option.bind_some, Option.toList_some, Option.toList_none, List.cons_append, List.nil_append, nb, z, ↓reduceIte]
      refine (show _ = _ from B).trans ?_
      have e8 : vo_b2 f (vo_b1 f hon s cc n) (vr_wa f hon cc n 8) n 0 8 20 0 8 = nI (n + 1) := by simp [vo_b2, jy_row, hG.2.1]
      simp only [x_RM_build_204, x_RM_build_205, x_RM_build_208, ru_is h, ru_g0 h, ru_s0 h, ru_g1 h, ru_s1 h, ru_g2 h, ru_s2 h, ru_g3 h, ru_g4 h, ru_s4 h, ru_g5 h, ru_g6 h, ru_g7 h, ru_g8 h, ru_s8 h, ru_g9 h, ru_g10 h, ru_g11 h, ru_g12 h, ru_g13 h, ru_g14 h, ru_g15 h, ru_g16 h, ru_g17 h, ru_g18 h, ru_g19 h, ru_g20 h, ru_g21 h, ru_g22 h, ru_g23 h, ru_g24 h, ru_g25 h, ru_g26 h, ru_g27 h, ru_g28 h, ru_g29 h, Option.bind_some, Option.toList_some, Option.toList_none, List.cons_append, List.nil_append, e8]
      unfold vo_bld
      rw [if_neg z]
end RK
