/-! the reference: accept, exits, challenges -/
def jq_ex (E : jq_E) (u c b : Nat) : Bool := match E (nI b) c with
  | none => false
  | some e => decide (¬ e.2.2.2.2 = 0 ∧ e.2.2.2.1 = nI u ∧ (¬ e.1 = 0 ∨ jq_sp E c (nI b) e.2.1 = true))
/-- the source of an exit for the entry -/
def jq_pv (E : jq_E) (c b : Nat) : Int32 := match E (nI b) c with
  | none => 0
  | some e => if e.1 = 0 then e.2.1 else 0
def vr_z0 (S : Nat → Int32) (c k : Nat) : Nat → Int32 := fun j => if 25 * c ≤ j ∧ j < 25 * c + k then 0 else S j
theorem vr_z0_up {S : Nat → Int32} {c k : Nat} : va_up (vr_z0 S c k) (25 * c + k) 0 = vr_z0 S c (k + 1) := by
  funext j
  unfold va_up vr_z0
  by_cases e1 : j = 25 * c + k
  · rw [if_pos e1, if_pos (by omega)]
  · by_cases e2 : 25 * c ≤ j ∧ j < 25 * c + k
    · rw [if_neg e1, if_pos e2, if_pos (by omega)]
    · rw [if_neg e1, if_neg e2, if_neg (by omega)]
theorem vr_z0_0 {S : Nat → Int32} {c : Nat} : vr_z0 S c 0 = S := by
  funext j
  unfold vr_z0
  rw [if_neg (by omega)]
def vo_ex1 (f : jy_I) (u c b : Nat) : jy_I := jy_up (jy_up (jy_up (jy_up (jy_up (jy_up f 23 0 u (f 23 0 u - 10)) 41 0 c 1) 42 0 c (nI u)) 43 0 c (nI b)) 44 0 c (jq_pv (vr_E f) c b)) 45 0 c (f 20 0 2)
def vo_ex (f : jy_I) (u c b : Nat) : jy_I := jy_row (jy_row (vo_ex1 f u c b) 46 0 (vr_z0 (f 46 0) c 25)) 47 0 (vr_z0 (f 47 0) c 25)
theorem vr_E_at {f : jy_I} {cc n b c : Nat} (hn : jn_R f cc n) (h1 : 1 ≤ b) (h2 : b ≤ n) : vr_E f (nI b) c = vr_e f b c := by
  have := hn.2.2.2
  have e1 : ¬ nI b < 1 := nI_nlt (b := 1) h1 (by omega)
  have e2 : ¬ nI n < nI b := nI_nlt h2 (by omega)
  unfold vr_E
  rw [hn.2.1, if_neg (by simp [e1, e2]), nI_clamp (by omega)]
section RH
variable {Z : jx_Sc} {d : Nat} {K : jy_K} {f : jy_I} {g : jy_R} {call : jx_C} {w : jx_W}
theorem rm_acc_n (h : jl_R K g) {u c : Int32} (hb : (u < 0 ∨ 3 < u) ∨ (c < 0 ∨ f 20 0 4 ≤ c)) : jx_m Z (d + 2) 81 [.inr (some (K.2.1 20 0)), .inl u, .inl c] (jy_w K f g) = some (some (.inl (-1)), jy_w K f g) := by
  simp only [e_RM_accept, x_RM_accept_0, x_RM_accept_1, x_RM_accept_4, x_RM_accept_7, x_RM_accept_8, x_RM_accept_9, x_RM_accept_12, x_RM_accept_15, x_RM_accept_16, Option.bind_some, Option.toList_some, Option.toList_none, List.cons_append, List.nil_append, ru_is h, ↓reduceIte, rm_isUser, rm_isCoin h]
  by_cases e1 : u < 0 ∨ 3 < u
  · simp [e1]
  · have e2 : c < 0 ∨ f 20 0 4 ≤ c := by
      rcases hb with hb | hb
      · exact absurd hb e1
      · exact hb
    simp [e1, e2]
def vr_last (f : jy_I) (n c : Nat) : Nat := jq_upl (vr_has f c) n 1 0
theorem vr_last_le {f : jy_I} {n c : Nat} : vr_last f n c ≤ n := by
  have := jq_upl_le (P := vr_has f c) n 1 0 (by omega) (by omega)
  unfold vr_last
  omega
def vr_snd (f : jy_I) (n c : Nat) : Bool := jq_snd (vr_hid f) (vr_has f c) (vr_dep f c) (fun k bf => jq_sp (vr_E f) c (nI k) (nI bf)) n 1 true 0
theorem rm_acc (h : jl_R K g) {cc n u c : Nat} (hn : jn_R f cc n) (hu : u < 4) (hc : c < cc) : jx_m Z (d + 6) 81 [.inr (some (K.2.1 20 0)), .inl (nI u), .inl (nI c)] (jy_w K f g) = some (if (¬ f 26 0 c = 0) ∨ (¬ f 41 0 c = 0) ∨ vr_snd f n c = false ∨ ¬ f 34 0 (8 * vr_last f n c + c) = nI u then (some (.inl (-4)), jy_w K f g) else (some (.inl (nI (vr_last f n c))), jy_w K (jy_up f 27 0 (8 * u + c) (nI (vr_last f n c))) g)) := by
  have hcc := hn.2.2.1
  have hnn := hn.2.2.2
  have hc8 : c < 8 := by omega
  have hl := vr_last_le (f := f) (n := n) (c := c)
  have hk : 8 * vr_last f n c + c < 200 := by omega
  have hs : 8 * u + c < 32 := by omega
  have hL := rm_latest (Z := Z) (d := d + 4) h hn hc8
  have hS := rm_sound (Z := Z) (d := d) h hn hc8
  rw [show jq_upl (vr_has f c) n 1 0 = vr_last f n c from rfl] at hL
  rw [show jq_snd (vr_hid f) (vr_has f c) (vr_dep f c) (fun k bf => jq_sp (vr_E f) c (nI k) (nI bf)) n 1 true 0 = vr_snd f n c from rfl] at hS
  have b1 : ¬ jq_b true = 0 := by decide
  have b0 : jq_b false = 0 := by decide
  simp only [e_RM_accept, x_RM_accept_0, x_RM_accept_1, x_RM_accept_4, x_RM_accept_7, x_RM_accept_8, x_RM_accept_9, x_RM_accept_12, x_RM_accept_15, x_RM_accept_16, x_RM_accept_17, x_RM_accept_18, x_RM_accept_19, x_RM_accept_22, x_RM_accept_23, x_RM_accept_24, x_RM_accept_27, x_RM_accept_28, x_RM_accept_29, x_RM_accept_32, x_RM_accept_33, x_RM_accept_36, x_RM_accept_37, x_RM_accept_38, x_RM_accept_41, x_RM_accept_42, x_RM_accept_43, x_RM_accept_46, x_RM_accept_49, x_RM_accept_50, x_RM_accept_53, x_RM_accept_55, x_RM_accept_56, x_RM_accept_57, x_RM_accept_58, x_RM_accept_59, x_RM_accept_60, x_RM_accept_61, x_RM_accept_64, x_RM_accept_66, x_RM_accept_67, x_RM_accept_68, x_RM_accept_71, x_RM_accept_73, x_RM_accept_74, x_RM_accept_75, x_RM_accept_76, x_RM_accept_77, x_RM_accept_78, x_RM_accept_79, x_RM_accept_80, ru_is h, ru_g0 h, ru_s0 h, ru_g1 h, ru_s1 h, ru_g2 h, ru_s2 h, ru_g3 h, ru_g4 h, ru_s4 h, ru_g5 h, ru_g6 h, ru_g7 h, ru_g8 h, ru_s8 h, ru_g9 h, ru_g10 h, ru_g11 h, ru_g12 h, ru_g13 h, ru_g14 h, ru_g15 h, ru_g16 h, ru_g17 h, ru_g18 h, ru_g19 h, ru_g20 h, ru_g21 h, ru_g22 h, ru_g23 h, ru_g24 h, ru_g25 h, ru_g26 h, ru_g27 h, ru_g28 h, ru_g29 h, ru_n3 h, ru_m3 h, ru_n5 h, ru_m5 h, ru_n6 h, ru_m6 h, ru_n7 h, ru_m7 h, ru_n9 h, ru_m9 h, ru_n10 h, ru_m10 h, ru_n11 h, ru_m11 h, ru_n12 h, ru_m12 h, ru_n13 h, ru_m13 h, ru_n14 h, ru_m14 h, ru_n15 h, ru_m15 h, ru_n16 h, ru_m16 h, ru_n17 h, ru_m17 h, ru_n18 h, ru_m18 h, ru_n19 h, ru_m19 h, ru_n20 h, ru_m20 h, ru_n21 h, ru_m21 h, ru_n22 h, ru_m22 h, ru_n23 h, ru_m23 h, ru_n24 h, ru_m24 h, ru_n25 h, ru_m25 h, ru_n26 h, ru_m26 h, ru_n27 h, ru_m27 h, ru_n28 h, ru_m28 h, ru_n29 h, ru_m29 h, Option.bind_some, Option.toList_some, Option.toList_none, List.cons_append, List.nil_append, rm_user_y hu, rm_coin_y h hn hc, hL, hS, hc8, hk, hs, jz_8i, ↓reduceIte]
  by_cases e1 : f 26 0 c = 0
  · by_cases e2 : f 41 0 c = 0
    · cases e3 : vr_snd f n c with
      | false => simp [e1, e2, b0]
      | true =>
        by_cases e4 : f 34 0 (8 * vr_last f n c + c) = nI u
        · simp [e1, e2, b1, e4]
        · simp [e1, e2, b1, e4]
    · simp [e1, e2]
  · simp [e1]
theorem rm_exit_n (h : jl_R K g) {u c b : Int32} (hb : (u < 0 ∨ 3 < u) ∨ (c < 0 ∨ f 20 0 4 ≤ c) ∨ (b < 1 ∨ f 20 0 8 < b)) : jx_m Z (d + 2) 85 [.inr (some (K.2.1 20 0)), .inl u, .inl c, .inl b] (jy_w K f g) = some (some (.inl (-1)), jy_w K f g) := by
  simp only [e_RM_exit, x_RM_exit_0, x_RM_exit_1, x_RM_exit_4, x_RM_exit_7, x_RM_exit_8, x_RM_exit_9, x_RM_exit_12, x_RM_exit_15, x_RM_exit_16, x_RM_exit_17, x_RM_exit_20, x_RM_exit_23, x_RM_exit_24, Option.bind_some, Option.toList_some, Option.toList_none, List.cons_append, List.nil_append, ru_is h, ↓reduceIte, rm_isUser, rm_isCoin h, rm_isBlock h]
  by_cases e1 : u < 0 ∨ 3 < u
  · simp [e1]
  · by_cases e2 : c < 0 ∨ f 20 0 4 ≤ c
    · simp [e1, e2]
    · have e3 : b < 1 ∨ f 20 0 8 < b := by
        rcases hb with hb | hb | hb
        · exact absurd hb e1
        · exact absurd hb e2
        · exact hb
      simp [e1, e2, e3]
theorem rm_exit_l (h : jl_R K g) {F : jy_I} {c : Nat} (hc : c < 8) {x1 x3 x4 : Int32} : ∀ m k : Nat, 25 - k = m → k ≤ 25 → jx_run Z jX_RM_exit call (189, [some (.inr (some (K.2.1 20 0))), some (.inl x1), some (.inl (nI c)), some (.inl x3), some (.inl x4), some (.inl (nI k))], [], jy_w K (jy_row (jy_row F 46 0 (vr_z0 (f 46 0) c k)) 47 0 (vr_z0 (f 47 0) c k)) g) = some (some (.inl 0), jy_w K (jy_row (jy_row F 46 0 (vr_z0 (f 46 0) c 25)) 47 0 (vr_z0 (f 47 0) c 25)) g) := by
  intro m
  induction m with
  | zero =>
    intro k hm hk
    have e : k = 25 := by omega
    subst e
    have h0 : (25 : Int32) ≤ nI 25 := by decide
    rw [x_RM_exit_189]
    simp only [x_RM_exit_191, x_RM_exit_193, x_RM_exit_196, x_RM_exit_197, x_RM_exit_200, x_RM_exit_202, x_RM_exit_203, x_RM_exit_204, x_RM_exit_206, x_RM_exit_207, x_RM_exit_208, x_RM_exit_209, x_RM_exit_210, x_RM_exit_213, x_RM_exit_215, x_RM_exit_216, x_RM_exit_217, x_RM_exit_219, x_RM_exit_220, x_RM_exit_221, x_RM_exit_222, x_RM_exit_225, x_RM_exit_228, x_RM_exit_229, h0, ↓reduceIte]
  | succ m ih =>
    intro k hm hk
    have h0 : ¬ (25 : Int32) ≤ nI k := nI_ge (show k < 25 by omega) (by decide)
    have hkk : 25 * c + k < 200 := by omega
    have e1 : ¬ (46 = 47) := by decide
    rw [x_RM_exit_189]
    simp only [x_RM_exit_191, x_RM_exit_193, x_RM_exit_196, x_RM_exit_197, x_RM_exit_200, x_RM_exit_202, x_RM_exit_203, x_RM_exit_204, x_RM_exit_206, x_RM_exit_207, x_RM_exit_208, x_RM_exit_209, x_RM_exit_210, x_RM_exit_213, x_RM_exit_215, x_RM_exit_216, x_RM_exit_217, x_RM_exit_219, x_RM_exit_220, x_RM_exit_221, x_RM_exit_222, x_RM_exit_225, x_RM_exit_228, x_RM_exit_229, ru_is h, ru_g0 h, ru_s0 h, ru_g1 h, ru_s1 h, ru_g2 h, ru_s2 h, ru_g3 h, ru_g4 h, ru_s4 h, ru_g5 h, ru_g6 h, ru_g7 h, ru_g8 h, ru_s8 h, ru_g9 h, ru_g10 h, ru_g11 h, ru_g12 h, ru_g13 h, ru_g14 h, ru_g15 h, ru_g16 h, ru_g17 h, ru_g18 h, ru_g19 h, ru_g20 h, ru_g21 h, ru_g22 h, ru_g23 h, ru_g24 h, ru_g25 h, ru_g26 h, ru_g27 h, ru_g28 h, ru_g29 h, ru_n3 h, ru_m3 h, ru_n5 h, ru_m5 h, ru_n6 h, ru_m6 h, ru_n7 h, ru_m7 h, ru_n9 h, ru_m9 h, ru_n10 h, ru_m10 h, ru_n11 h, ru_m11 h, ru_n12 h, ru_m12 h, ru_n13 h, ru_m13 h, ru_n14 h, ru_m14 h, ru_n15 h, ru_m15 h, ru_n16 h, ru_m16 h, ru_n17 h, ru_m17 h, ru_n18 h, ru_m18 h, ru_n19 h, ru_m19 h, ru_n20 h, ru_m20 h, ru_n21 h, ru_m21 h, ru_n22 h, ru_m22 h, ru_n23 h, ru_m23 h, ru_n24 h, ru_m24 h, ru_n25 h, ru_m25 h, ru_n26 h, ru_m26 h, ru_n27 h, ru_m27 h, ru_n28 h, ru_m28 h, ru_n29 h, ru_m29 h, Option.bind_some, Option.toList_some, Option.toList_none, List.cons_append, List.nil_append, h0, ↓reduceIte, jz_25i, hkk, jz_inc, jy_pu_ne e1, jy_pu_at, vr_z0_up, true_or]
    exact ih (k + 1) (by omega) (by omega)
theorem rm_exit (h : jl_R K g) {cc n u c b : Nat} (hn : jn_R f cc n) (hu : u < 4) (hc : c < cc) (h1 : 1 ≤ b) (h2 : b ≤ n) : jx_m Z (d + 5) 85 [.inr (some (K.2.1 20 0)), .inl (nI u), .inl (nI c), .inl (nI b)] (jy_w K f g) = some (if (¬ f 26 0 c = 0) ∨ (¬ f 41 0 c = 0) then (some (.inl (-4)), jy_w K f g) else if jq_ex (vr_E f) u c b = false then (some (.inl (-5)), jy_w K f g) else if f 23 0 u < 10 then (some (.inl (-3)), jy_w K f g) else (some (.inl 0), jy_w K (vo_ex f u c b) g)) := by
  have hcc := hn.2.2.1
  have hnn := hn.2.2.2
  have hc8 : c < 8 := by omega
  have hk : 8 * b + c < 200 := by omega
  have b1 : ¬ jq_b true = 0 := by decide
  have b0 : jq_b false = 0 := by decide
  have L := rm_exit_l (Z := Z) (call := jx_m Z (d + 4)) (f := f) h (F := vo_ex1 f u c b) hc8 (x1 := nI u) (x3 := nI b) (x4 := nI (8 * b + c)) 25 0 (by omega) (by omega)
  have eL : jy_row (jy_row (vo_ex1 f u c b) 46 0 (vr_z0 (f 46 0) c 0)) 47 0 (vr_z0 (f 47 0) c 0) = vo_ex1 f u c b := by
    rw [vr_z0_0, vr_z0_0]
    have e1 : f 46 0 = vo_ex1 f u c b 46 0 := by funext j; simp [vo_ex1, jy_up]
    have e2 : f 47 0 = vo_ex1 f u c b 47 0 := by funext j; simp [vo_ex1, jy_up]
    rw [e1, jy_row_id, e2, jy_row_id]
  rw [eL] at L
  simp only [e_RM_exit, x_RM_exit_0, x_RM_exit_1, x_RM_exit_4, x_RM_exit_7, x_RM_exit_8, x_RM_exit_9, x_RM_exit_12, x_RM_exit_15, x_RM_exit_16, x_RM_exit_17, x_RM_exit_20, x_RM_exit_23, x_RM_exit_24, x_RM_exit_25, x_RM_exit_26, x_RM_exit_29, x_RM_exit_30, x_RM_exit_31, x_RM_exit_34, x_RM_exit_35, x_RM_exit_38, x_RM_exit_39, x_RM_exit_40, x_RM_exit_43, x_RM_exit_45, x_RM_exit_46, x_RM_exit_48, x_RM_exit_49, x_RM_exit_50, x_RM_exit_51, x_RM_exit_52, x_RM_exit_54, x_RM_exit_55, x_RM_exit_56, x_RM_exit_57, x_RM_exit_60, x_RM_exit_63, x_RM_exit_64, x_RM_exit_67, x_RM_exit_69, x_RM_exit_70, x_RM_exit_71, x_RM_exit_74, x_RM_exit_75, x_RM_exit_78, x_RM_exit_80, x_RM_exit_81, x_RM_exit_84, x_RM_exit_85, x_RM_exit_86, x_RM_exit_87, x_RM_exit_88, x_RM_exit_91, x_RM_exit_93, x_RM_exit_94, x_RM_exit_97, x_RM_exit_100, x_RM_exit_102, ru_is h, ru_g0 h, ru_s0 h, ru_g1 h, ru_s1 h, ru_g2 h, ru_s2 h, ru_g3 h, ru_g4 h, ru_s4 h, ru_g5 h, ru_g6 h, ru_g7 h, ru_g8 h, ru_s8 h, ru_g9 h, ru_g10 h, ru_g11 h, ru_g12 h, ru_g13 h, ru_g14 h, ru_g15 h, ru_g16 h, ru_g17 h, ru_g18 h, ru_g19 h, ru_g20 h, ru_g21 h, ru_g22 h, ru_g23 h, ru_g24 h, ru_g25 h, ru_g26 h, ru_g27 h, ru_g28 h, ru_g29 h, ru_n3 h, ru_m3 h, ru_n5 h, ru_m5 h, ru_n6 h, ru_m6 h, ru_n7 h, ru_m7 h, ru_n9 h, ru_m9 h, ru_n10 h, ru_m10 h, ru_n11 h, ru_m11 h, ru_n12 h, ru_m12 h, ru_n13 h, ru_m13 h, ru_n14 h, ru_m14 h, ru_n15 h, ru_m15 h, ru_n16 h, ru_m16 h, ru_n17 h, ru_m17 h, ru_n18 h, ru_m18 h, ru_n19 h, ru_m19 h, ru_n20 h, ru_m20 h, ru_n21 h, ru_m21 h, ru_n22 h, ru_m22 h, ru_n23 h, ru_m23 h, ru_n24 h, ru_m24 h, ru_n25 h, ru_m25 h, ru_n26 h, ru_m26 h, ru_n27 h, ru_m27 h, ru_n28 h, ru_m28 h, ru_n29 h, ru_m29 h, Option.bind_some, Option.toList_some, Option.toList_none, List.cons_append, List.nil_append, rm_user_y hu, rm_coin_y h hn hc, rm_block_y h hn h1 h2, rm_good h hn hc8, rm_spends h hn hc8, hc8, hk, jz_8i, ↓reduceIte]
  by_cases e1 : f 26 0 c = 0
  · by_cases e2 : f 41 0 c = 0
    · have hex : jq_ex (vr_E f) u c b = (jq_gd (vr_E f) (nI b) c && decide (f 34 0 (8 * b + c) = nI u) && (decide (¬ f 31 0 (8 * b + c) = 0) || jq_sp (vr_E f) c (nI b) (f 32 0 (8 * b + c)))) := by
        unfold jq_ex jq_gd
        rw [vr_E_at hn h1 h2]
        unfold vr_e
        by_cases q1 : f 30 0 (8 * b + c) = 0
        · simp [q1]
        · simp only [q1, ↓reduceIte]
          by_cases q2 : f 34 0 (8 * b + c) = nI u <;> by_cases q3 : f 31 0 (8 * b + c) = 0 <;> simp [q2, q3, Bool.decide_and]
      rw [hex]
      have go : jq_gd (vr_E f) (nI b) c = true → f 34 0 (8 * b + c) = nI u → (¬ f 31 0 (8 * b + c) = 0 ∨ jq_sp (vr_E f) c (nI b) (f 32 0 (8 * b + c)) = true) → jx_run Z jX_RM_exit (jx_m Z (d + 4)) (103, [some (.inr (some (K.2.1 20 0))), some (.inl (nI u)), some (.inl (nI c)), some (.inl (nI b)), some (.inl (nI (8 * b + c))), none], [], jy_w K f g) = some (if f 23 0 u < 10 then (some (.inl (-3)), jy_w K f g) else (some (.inl 0), jy_w K (vo_ex f u c b) g)) := by
        intro g1 g2 g3
        by_cases e5 : f 23 0 u < 10
        · have e5' : ¬ (10 : Int32) ≤ f 23 0 u := Int32.not_le.mpr e5
          simp only [x_RM_exit_103, x_RM_exit_104, x_RM_exit_107, x_RM_exit_108, x_RM_exit_109, x_RM_exit_111, x_RM_exit_114, x_RM_exit_116, ru_is h, ru_g0 h, ru_s0 h, ru_g1 h, ru_s1 h, ru_g2 h, ru_s2 h, ru_g3 h, ru_g4 h, ru_s4 h, ru_g5 h, ru_g6 h, ru_g7 h, ru_g8 h, ru_s8 h, ru_g9 h, ru_g10 h, ru_g11 h, ru_g12 h, ru_g13 h, ru_g14 h, ru_g15 h, ru_g16 h, ru_g17 h, ru_g18 h, ru_g19 h, ru_g20 h, ru_g21 h, ru_g22 h, ru_g23 h, ru_g24 h, ru_g25 h, ru_g26 h, ru_g27 h, ru_g28 h, ru_g29 h, ru_n3 h, ru_m3 h, ru_n5 h, ru_m5 h, ru_n6 h, ru_m6 h, ru_n7 h, ru_m7 h, ru_n9 h, ru_m9 h, ru_n10 h, ru_m10 h, ru_n11 h, ru_m11 h, ru_n12 h, ru_m12 h, ru_n13 h, ru_m13 h, ru_n14 h, ru_m14 h, ru_n15 h, ru_m15 h, ru_n16 h, ru_m16 h, ru_n17 h, ru_m17 h, ru_n18 h, ru_m18 h, ru_n19 h, ru_m19 h, ru_n20 h, ru_m20 h, ru_n21 h, ru_m21 h, ru_n22 h, ru_m22 h, ru_n23 h, ru_m23 h, ru_n24 h, ru_m24 h, ru_n25 h, ru_m25 h, ru_n26 h, ru_m26 h, ru_n27 h, ru_m27 h, ru_n28 h, ru_m28 h, ru_n29 h, ru_m29 h, Option.bind_some, Option.toList_some, Option.toList_none, List.cons_append, List.nil_append, hu, e5, e5', ↓reduceIte]
        · have e5' : (10 : Int32) ≤ f 23 0 u := Int32.not_lt.mp e5
          have hpv : jq_pv (vr_E f) c b = if f 31 0 (8 * b + c) = 0 then f 32 0 (8 * b + c) else 0 := by
            unfold jq_pv
            unfold jq_gd at g1
            rw [vr_E_at hn h1 h2] at g1 ⊢
            unfold vr_e at g1 ⊢
            by_cases q1 : f 30 0 (8 * b + c) = 0
            · simp [q1] at g1
            · simp [q1]
          have hfin : vo_ex f u c b = jy_row (jy_row (vo_ex1 f u c b) 46 0 (vr_z0 (f 46 0) c 25)) 47 0 (vr_z0 (f 47 0) c 25) := rfl
          rw [hfin]
          unfold vo_ex1 at L ⊢
          rw [hpv] at L ⊢
          by_cases q3 : f 31 0 (8 * b + c) = 0
          · simp only [q3, ↓reduceIte] at L
            simp only [x_RM_exit_103, x_RM_exit_104, x_RM_exit_107, x_RM_exit_108, x_RM_exit_109, x_RM_exit_111, x_RM_exit_114, x_RM_exit_116, x_RM_exit_117, x_RM_exit_118, x_RM_exit_121, x_RM_exit_122, x_RM_exit_123, x_RM_exit_124, x_RM_exit_126, x_RM_exit_127, x_RM_exit_128, x_RM_exit_129, x_RM_exit_132, x_RM_exit_133, x_RM_exit_134, x_RM_exit_135, x_RM_exit_136, x_RM_exit_139, x_RM_exit_140, x_RM_exit_141, x_RM_exit_142, x_RM_exit_143, x_RM_exit_146, x_RM_exit_147, x_RM_exit_148, x_RM_exit_149, x_RM_exit_150, x_RM_exit_153, x_RM_exit_154, x_RM_exit_155, x_RM_exit_158, x_RM_exit_160, x_RM_exit_161, x_RM_exit_164, x_RM_exit_165, x_RM_exit_168, x_RM_exit_169, x_RM_exit_172, x_RM_exit_174, x_RM_exit_175, x_RM_exit_176, x_RM_exit_177, x_RM_exit_180, x_RM_exit_181, x_RM_exit_182, x_RM_exit_185, x_RM_exit_186, x_RM_exit_187, ru_is h, ru_g0 h, ru_s0 h, ru_g1 h, ru_s1 h, ru_g2 h, ru_s2 h, ru_g3 h, ru_g4 h, ru_s4 h, ru_g5 h, ru_g6 h, ru_g7 h, ru_g8 h, ru_s8 h, ru_g9 h, ru_g10 h, ru_g11 h, ru_g12 h, ru_g13 h, ru_g14 h, ru_g15 h, ru_g16 h, ru_g17 h, ru_g18 h, ru_g19 h, ru_g20 h, ru_g21 h, ru_g22 h, ru_g23 h, ru_g24 h, ru_g25 h, ru_g26 h, ru_g27 h, ru_g28 h, ru_g29 h, ru_n3 h, ru_m3 h, ru_n5 h, ru_m5 h, ru_n6 h, ru_m6 h, ru_n7 h, ru_m7 h, ru_n9 h, ru_m9 h, ru_n10 h, ru_m10 h, ru_n11 h, ru_m11 h, ru_n12 h, ru_m12 h, ru_n13 h, ru_m13 h, ru_n14 h, ru_m14 h, ru_n15 h, ru_m15 h, ru_n16 h, ru_m16 h, ru_n17 h, ru_m17 h, ru_n18 h, ru_m18 h, ru_n19 h, ru_m19 h, ru_n20 h, ru_m20 h, ru_n21 h, ru_m21 h, ru_n22 h, ru_m22 h, ru_n23 h, ru_m23 h, ru_n24 h, ru_m24 h, ru_n25 h, ru_m25 h, ru_n26 h, ru_m26 h, ru_n27 h, ru_m27 h, ru_n28 h, ru_m28 h, ru_n29 h, ru_m29 h, Option.bind_some, Option.toList_some, Option.toList_none, List.cons_append, List.nil_append, hu, hc8, hk, e5, e5', q3, ↓reduceIte, jy_up_self, jy_up_k, jy_up_j, Nat.reduceEqDiff, not_false_eq_true, reduceCtorEq, Nat.reduceAdd, or_true]
            exact L
          · simp only [q3, ↓reduceIte] at L
            simp only [x_RM_exit_103, x_RM_exit_104, x_RM_exit_107, x_RM_exit_108, x_RM_exit_109, x_RM_exit_111, x_RM_exit_114, x_RM_exit_116, x_RM_exit_117, x_RM_exit_118, x_RM_exit_121, x_RM_exit_122, x_RM_exit_123, x_RM_exit_124, x_RM_exit_126, x_RM_exit_127, x_RM_exit_128, x_RM_exit_129, x_RM_exit_132, x_RM_exit_133, x_RM_exit_134, x_RM_exit_135, x_RM_exit_136, x_RM_exit_139, x_RM_exit_140, x_RM_exit_141, x_RM_exit_142, x_RM_exit_143, x_RM_exit_146, x_RM_exit_147, x_RM_exit_148, x_RM_exit_149, x_RM_exit_150, x_RM_exit_153, x_RM_exit_154, x_RM_exit_155, x_RM_exit_158, x_RM_exit_160, x_RM_exit_161, x_RM_exit_164, x_RM_exit_165, x_RM_exit_168, x_RM_exit_169, x_RM_exit_172, x_RM_exit_174, x_RM_exit_175, x_RM_exit_176, x_RM_exit_177, x_RM_exit_180, x_RM_exit_181, x_RM_exit_182, x_RM_exit_185, x_RM_exit_186, x_RM_exit_187, ru_is h, ru_g0 h, ru_s0 h, ru_g1 h, ru_s1 h, ru_g2 h, ru_s2 h, ru_g3 h, ru_g4 h, ru_s4 h, ru_g5 h, ru_g6 h, ru_g7 h, ru_g8 h, ru_s8 h, ru_g9 h, ru_g10 h, ru_g11 h, ru_g12 h, ru_g13 h, ru_g14 h, ru_g15 h, ru_g16 h, ru_g17 h, ru_g18 h, ru_g19 h, ru_g20 h, ru_g21 h, ru_g22 h, ru_g23 h, ru_g24 h, ru_g25 h, ru_g26 h, ru_g27 h, ru_g28 h, ru_g29 h, ru_n3 h, ru_m3 h, ru_n5 h, ru_m5 h, ru_n6 h, ru_m6 h, ru_n7 h, ru_m7 h, ru_n9 h, ru_m9 h, ru_n10 h, ru_m10 h, ru_n11 h, ru_m11 h, ru_n12 h, ru_m12 h, ru_n13 h, ru_m13 h, ru_n14 h, ru_m14 h, ru_n15 h, ru_m15 h, ru_n16 h, ru_m16 h, ru_n17 h, ru_m17 h, ru_n18 h, ru_m18 h, ru_n19 h, ru_m19 h, ru_n20 h, ru_m20 h, ru_n21 h, ru_m21 h, ru_n22 h, ru_m22 h, ru_n23 h, ru_m23 h, ru_n24 h, ru_m24 h, ru_n25 h, ru_m25 h, ru_n26 h, ru_m26 h, ru_n27 h, ru_m27 h, ru_n28 h, ru_m28 h, ru_n29 h, ru_m29 h, Option.bind_some, Option.toList_some, Option.toList_none, List.cons_append, List.nil_append, hu, hc8, hk, e5, e5', q3, ↓reduceIte, jy_up_self, jy_up_k, jy_up_j, Nat.reduceEqDiff, not_false_eq_true, reduceCtorEq, Nat.reduceAdd, or_true]
            exact L
      cases q1 : jq_gd (vr_E f) (nI b) c with
      | false => simp [e1, e2, b0]
      | true =>
        by_cases q2 : f 34 0 (8 * b + c) = nI u
        · by_cases q3 : f 31 0 (8 * b + c) = 0
          · cases q4 : jq_sp (vr_E f) c (nI b) (f 32 0 (8 * b + c)) with
            | false => simp [e1, e2, b0, b1, q2, q3]
            | true =>
              have := go q1 q2 (Or.inr q4)
              simp [e1, e2, b1, q2, q3]
              exact this
          · have := go q1 q2 (Or.inl q3)
            simp [e1, e2, b1, q2, q3]
            exact this
        · simp [e1, e2, b1, q2]
    · simp [e1, e2]
  · simp [e1]
end RH
