/-! the class: calls that make no cells (show, accept, exit, challenges, answers, finalising) -/
def jq_to (E : jq_E) (b : Int32) (c : Nat) : Option Int32 := (E b c).map fun e => e.2.2.2.1
def jq_ex2 (E : jq_E) (u c b : Nat) : Bool := match E (nI b) c with
  | none => false
  | some e => decide (e.2.2.2.1 = nI u ∧ (¬ e.1 = 0 ∨ jq_sp E c (nI b) e.2.1 = true))
def jq_pr (E : jq_E) (c b : Nat) : Int32 := match E (nI b) c with
  | none => 0
  | some e => e.2.1
def vc_last (f : jy_I) (g : jy_R) (c : Nat) : Nat := jq_ld (vc_has f g c) 24
def vk_ex (f : jy_I) (g : jy_R) (u c b : Nat) : jy_I := jy_row (vk_beg (jy_up f 1 0 u (f 1 0 u + -10)) c (nI u) (nI b) (jq_pr (vc_E f g) c b) (f 0 0 10)) 9 c (vc_zr (f 9 c) 25)
def vk_bef (f : jy_I) (u c b : Nat) : jy_I := jy_up (jy_up f 1 0 u (f 1 0 u + -2)) 9 c b (nI u + 1)
def vk_ans (f : jy_I) (c b x : Nat) : jy_I := jy_up (jy_up f 9 c b (-1)) 1 0 x (f 1 0 x + 2)
def vk_fin (f : jy_I) (c x : Nat) : jy_I := jy_up (jy_up (jy_up f 8 c 0 0) 7 c 1 1) 1 0 x (f 1 0 x + (f 7 c 0 + 10))
theorem jz_coinC {f : jy_I} {cc : Nat} {c : Int32} (hn : f 0 0 5 = nI cc) (h8 : cc ≤ 8) (h : ¬ (c < 0 ∨ f 0 0 5 ≤ c)) : ∃ k : Nat, c = nI k ∧ k < cc := by
  rw [hn, Int32.lt_iff_toInt_lt, Int32.le_iff_toInt_le, nI_toInt (by omega), jz_0] at h
  exact ⟨c.toNatClampNeg, (jz_nI (by omega)).symm, by rw [jz_cl]; omega⟩
theorem jq_ld_le {P : Nat → Bool} : ∀ k : Nat, jq_ld P k ≤ k
  | 0 => Nat.le_refl _
  | k + 1 => by
    have := jq_ld_le (P := P) k
    simp only [jq_ld]
    split <;> omega
section CD
variable {Z : jx_Sc} {d : Nat} {K : jy_K} {f : jy_I} {g : jy_R} {w : jx_W} {cc n : Nat} {call : jx_C}
theorem cc_show_n (h : jl_C K g cc n) {b : Int32} (hb : b < 1 ∨ f 0 0 7 < b) : jx_m Z (d + 2) 23 [.inr (some (K.2.1 0 0)), .inl b] (jy_w K f g) = some (some (.inl 0), jy_w K f g) := by
  simp only [e_CC_show, x_CC_show_0, x_CC_show_1, x_CC_show_2, x_CC_show_5, x_CC_show_6, x_CC_show_7, x_CC_show_10, x_CC_show_11, x_CC_show_14, x_CC_show_17, x_CC_show_18, x_CC_show_19, x_CC_show_20, x_CC_show_21, x_CC_show_24, x_CC_show_25, cu_is h, cu_g0 h, cu_g1 h, cu_g2 h, cu_g3 h, cu_g4 h, cu_g5 h, cu_g6 h, cu_g7 h, cu_g8 h, cu_g9 h, cu_g10 h, cu_s5 h, cu_s7 h, cu_s10 h, cu_n1 h, cu_m1 h, cu_n2 h, cu_m2 h, cu_n3 h, cu_n4 h, cu_n5 h, cu_n6 h, cc_blockAt_n h hb, Option.bind_some, Option.toList_some, Option.toList_none, List.cons_append, List.nil_append, ↓reduceIte]
  simp
theorem cc_show (h : jl_C K g cc n) (hn : jn_C f cc n) {b : Nat} (h1 : 1 ≤ b) (h2 : b ≤ n) : jx_m Z (d + 2) 23 [.inr (some (K.2.1 0 0)), .inl (nI b)] (jy_w K f g) = some (if f 10 b 2 = 0 then (some (.inl 1), jy_w K (jy_up f 10 b 2 1) g) else (some (.inl 0), jy_w K f g)) := by
  have hbl := h.2.2.2.1 b h1 h2
  simp only [e_CC_show, x_CC_show_0, x_CC_show_1, x_CC_show_2, x_CC_show_5, x_CC_show_6, x_CC_show_7, x_CC_show_10, x_CC_show_11, x_CC_show_14, x_CC_show_17, x_CC_show_18, x_CC_show_19, x_CC_show_20, x_CC_show_21, x_CC_show_24, x_CC_show_25, cu_is h, cu_g0 h, cu_g1 h, cu_g2 h, cu_g3 h, cu_g4 h, cu_g5 h, cu_g6 h, cu_g7 h, cu_g8 h, cu_g9 h, cu_g10 h, cu_s5 h, cu_s7 h, cu_s10 h, cu_n1 h, cu_m1 h, cu_n2 h, cu_m2 h, cu_n3 h, cu_n4 h, cu_n5 h, cu_n6 h, cc_blockAt_y h hn h1 h2, cu_b0 hbl, cu_b1 hbl, cu_b2 hbl, cu_bis hbl, cu_n11 hbl, cu_n12 hbl, cu_y2 h.1 hbl, Option.bind_some, Option.toList_some, Option.toList_none, List.cons_append, List.nil_append, ↓reduceIte, reduceCtorEq]
  by_cases e : f 10 b 2 = 0 <;> simp [e]
theorem cc_acc_n (h : jl_C K g cc n) (hn : jn_C f cc n) {u c : Int32} (hb : (u < 0 ∨ 4 ≤ u) ∨ (c < 0 ∨ f 0 0 5 ≤ c)) : jx_m Z (d + 2) 24 [.inr (some (K.2.1 0 0)), .inl u, .inl c] (jy_w K f g) = some (some (.inl (-1)), jy_w K f g) := by
  by_cases e2 : c < 0 ∨ f 0 0 5 ≤ c
  · simp only [e_CC_accept, x_CC_accept_0, x_CC_accept_1, x_CC_accept_2, x_CC_accept_5, x_CC_accept_6, x_CC_accept_7, x_CC_accept_10, x_CC_accept_13, x_CC_accept_14, x_CC_accept_17, x_CC_accept_18, cu_is h, cu_g0 h, cu_g1 h, cu_g2 h, cu_g3 h, cu_g4 h, cu_g5 h, cu_g6 h, cu_g7 h, cu_g8 h, cu_g9 h, cu_g10 h, cu_s5 h, cu_s7 h, cu_s10 h, cu_n1 h, cu_m1 h, cu_n2 h, cu_m2 h, cu_n3 h, cu_n4 h, cu_n5 h, cu_n6 h, cc_coinAt_n h e2, cc_isUser, Option.bind_some, Option.toList_some, Option.toList_none, List.cons_append, List.nil_append, ↓reduceIte]
    by_cases e1 : u < 0 ∨ 4 ≤ u <;> simp [e1]
  · obtain ⟨k, rfl, hk⟩ := jz_coinC hn.1 hn.2.2.1 e2
    have e1 : u < 0 ∨ 4 ≤ u := hb.resolve_right e2
    simp only [e_CC_accept, x_CC_accept_0, x_CC_accept_1, x_CC_accept_2, x_CC_accept_5, x_CC_accept_6, x_CC_accept_7, x_CC_accept_10, x_CC_accept_13, x_CC_accept_14, x_CC_accept_17, x_CC_accept_18, cu_is h, cu_g0 h, cu_g1 h, cu_g2 h, cu_g3 h, cu_g4 h, cu_g5 h, cu_g6 h, cu_g7 h, cu_g8 h, cu_g9 h, cu_g10 h, cu_s5 h, cu_s7 h, cu_s10 h, cu_n1 h, cu_m1 h, cu_n2 h, cu_m2 h, cu_n3 h, cu_n4 h, cu_n5 h, cu_n6 h, cc_coinAt_y h hn hk, cc_isUser, e1, Option.bind_some, Option.toList_some, Option.toList_none, List.cons_append, List.nil_append, ↓reduceIte]
theorem cc_acc (h : jl_C K g cc n) (hn : jn_C f cc n) {u c : Nat} (hu : u < 4) (hc : c < cc) : jx_m Z (d + 5) 24 [.inr (some (K.2.1 0 0)), .inl (nI u), .inl (nI c)] (jy_w K f g) = some (if (¬ f 7 c 1 = 0) ∨ (¬ f 8 c 0 = 0) ∨ jq_an (vc_wh f n 0) 24 1 = true ∨ vc_snd f g c = false ∨ ¬ jq_to (vc_E f g) (nI (vc_last f g c)) c = some (nI u) then (some (.inl (-4)), jy_w K f g) else (some (.inl (nI (vc_last f g c))), jy_w K (jy_up f 2 0 (8 * u + c) (nI (vc_last f g c))) g)) := by
  have h8 := hn.2.2.1
  have hc8 : c < 8 := by omega
  have hcl := h.2.2.1 c hc
  have hs : 8 * u + c < 32 := by omega
  have b1 : ¬ jq_b true = 0 := by decide
  have b0 : jq_b false = 0 := by decide
  have e10 : ¬ (1 : Int32) = 0 := by decide
  have hL := cc_last (Z := Z) (d := d + 1) h hn hc8
  rw [show jq_ld (vc_has f g c) 24 = vc_last f g c from rfl] at hL
  simp only [e_CC_accept, x_CC_accept_0, x_CC_accept_1, x_CC_accept_2, x_CC_accept_5, x_CC_accept_6, x_CC_accept_7, x_CC_accept_10, x_CC_accept_13, x_CC_accept_14, x_CC_accept_17, x_CC_accept_18, x_CC_accept_19, x_CC_accept_20, x_CC_accept_23, x_CC_accept_26, x_CC_accept_27, x_CC_accept_30, x_CC_accept_33, x_CC_accept_36, x_CC_accept_37, x_CC_accept_38, x_CC_accept_41, x_CC_accept_44, x_CC_accept_45, x_CC_accept_46, x_CC_accept_49, x_CC_accept_52, x_CC_accept_54, x_CC_accept_55, x_CC_accept_56, x_CC_accept_57, x_CC_accept_60, x_CC_accept_62, x_CC_accept_63, x_CC_accept_65, x_CC_accept_66, x_CC_accept_69, x_CC_accept_71, x_CC_accept_73, x_CC_accept_76, x_CC_accept_78, x_CC_accept_81, x_CC_accept_82, x_CC_accept_85, x_CC_accept_87, x_CC_accept_88, x_CC_accept_89, x_CC_accept_92, x_CC_accept_93, x_CC_accept_95, x_CC_accept_96, x_CC_accept_97, x_CC_accept_98, x_CC_accept_100, x_CC_accept_101, x_CC_accept_103, cu_is h, cu_g0 h, cu_g1 h, cu_g2 h, cu_g3 h, cu_g4 h, cu_g5 h, cu_g6 h, cu_g7 h, cu_g8 h, cu_g9 h, cu_g10 h, cu_s5 h, cu_s7 h, cu_s10 h, cu_n1 h, cu_m1 h, cu_n2 h, cu_m2 h, cu_n3 h, cu_n4 h, cu_n5 h, cu_n6 h, cc_coinAt_y h hn hc, cc_user_y hu, cu_c0 hcl, cu_c1 hcl, cu_c2 hcl, cu_e0 hcl, cu_e1 hcl, cu_e2 hcl, cu_e3 hcl, cu_e4 hcl, cu_e5 hcl, cu_eis hcl, cu_n9 hcl, cu_l9 hcl, cc_wh h hn, cc_snd h hn hc8, hL, cc_entryIn h hn hc8, e10, hs, jz_u8, Option.bind_some, Option.toList_some, Option.toList_none, List.cons_append, List.nil_append, ↓reduceIte, reduceCtorEq]
  by_cases e1 : f 7 c 1 = 0
  · by_cases e2 : f 8 c 0 = 0
    · by_cases e3 : jq_an (vc_wh f n 0) 24 1 = true
      · simp [e1, e2, e3, b1]
      · have e3 : jq_an (vc_wh f n 0) 24 1 = false := by simpa using e3
        by_cases e4 : vc_snd f g c = true
        · simp only [e1, e2, e3, e4, b0, b1, ↓reduceIte, not_true_eq_false, not_false_eq_true]
          unfold jq_to vc_E
          cases hr : ve_r f g (nI (vc_last f g c)) c with
          | none => simp
          | some a =>
            have ha := ve_ok h hn hc8 hr
            simp only [cu_v h.1 ha (show 3 < 6 by decide), x_CC_accept_71, x_CC_accept_73, x_CC_accept_76, x_CC_accept_78, x_CC_accept_81, x_CC_accept_82, x_CC_accept_85, x_CC_accept_87, x_CC_accept_88, x_CC_accept_89, x_CC_accept_92, x_CC_accept_93, x_CC_accept_95, x_CC_accept_96, x_CC_accept_97, x_CC_accept_98, x_CC_accept_100, x_CC_accept_101, x_CC_accept_103, cu_is h, cu_g0 h, cu_g1 h, cu_g2 h, cu_g3 h, cu_g4 h, cu_g5 h, cu_g6 h, cu_g7 h, cu_g8 h, cu_g9 h, cu_g10 h, cu_s5 h, cu_s7 h, cu_s10 h, cu_n1 h, cu_m1 h, cu_n2 h, cu_m2 h, cu_n3 h, cu_n4 h, cu_n5 h, cu_n6 h, hs, jz_u8, Option.bind_some, Option.toList_some, Option.toList_none, List.cons_append, List.nil_append, ↓reduceIte, reduceCtorEq]
            by_cases e5 : f 13 a 3 = nI u <;> simp [e5, vc_t]
        · have e4 : vc_snd f g c = false := by simpa using e4
          simp [e1, e2, e3, e4, b0]
    · simp [e1, e2]
  · simp [e1]
theorem cc_exit_n (h : jl_C K g cc n) (hn : jn_C f cc n) {u c b : Int32} (hb : (u < 0 ∨ 4 ≤ u) ∨ (c < 0 ∨ f 0 0 5 ≤ c) ∨ (b < 1 ∨ f 0 0 7 < b)) : jx_m Z (d + 2) 29 [.inr (some (K.2.1 0 0)), .inl u, .inl c, .inl b] (jy_w K f g) = some (some (.inl (-1)), jy_w K f g) := by
  by_cases e2 : c < 0 ∨ f 0 0 5 ≤ c
  · simp only [e_CC_exit, x_CC_exit_0, x_CC_exit_1, x_CC_exit_2, x_CC_exit_5, x_CC_exit_7, x_CC_exit_8, x_CC_exit_11, x_CC_exit_14, x_CC_exit_16, x_CC_exit_19, x_CC_exit_20, x_CC_exit_21, x_CC_exit_24, x_CC_exit_27, x_CC_exit_28, cu_is h, cu_g0 h, cu_g1 h, cu_g2 h, cu_g3 h, cu_g4 h, cu_g5 h, cu_g6 h, cu_g7 h, cu_g8 h, cu_g9 h, cu_g10 h, cu_s5 h, cu_s7 h, cu_s10 h, cu_n1 h, cu_m1 h, cu_n2 h, cu_m2 h, cu_n3 h, cu_n4 h, cu_n5 h, cu_n6 h, cc_coinAt_n h e2, cc_isUser, Option.bind_some, Option.toList_some, Option.toList_none, List.cons_append, List.nil_append, ↓reduceIte]
    by_cases e1 : u < 0 ∨ 4 ≤ u <;> simp [e1]
  · obtain ⟨k, rfl, hk⟩ := jz_coinC hn.1 hn.2.2.1 e2
    by_cases e1 : u < 0 ∨ 4 ≤ u
    · simp only [e_CC_exit, x_CC_exit_0, x_CC_exit_1, x_CC_exit_2, x_CC_exit_5, x_CC_exit_7, x_CC_exit_8, x_CC_exit_11, x_CC_exit_14, x_CC_exit_16, x_CC_exit_19, x_CC_exit_20, x_CC_exit_21, x_CC_exit_24, x_CC_exit_27, x_CC_exit_28, cu_is h, cu_g0 h, cu_g1 h, cu_g2 h, cu_g3 h, cu_g4 h, cu_g5 h, cu_g6 h, cu_g7 h, cu_g8 h, cu_g9 h, cu_g10 h, cu_s5 h, cu_s7 h, cu_s10 h, cu_n1 h, cu_m1 h, cu_n2 h, cu_m2 h, cu_n3 h, cu_n4 h, cu_n5 h, cu_n6 h, cc_coinAt_y h hn hk, cc_isUser, e1, Option.bind_some, Option.toList_some, Option.toList_none, List.cons_append, List.nil_append, ↓reduceIte]
    · have e3 : b < 1 ∨ f 0 0 7 < b := by
        rcases hb with hb | hb | hb
        · exact absurd hb e1
        · exact absurd hb e2
        · exact hb
      have e0 : ¬ (1 : Int32) = 0 := by decide
      simp only [e_CC_exit, x_CC_exit_0, x_CC_exit_1, x_CC_exit_2, x_CC_exit_5, x_CC_exit_7, x_CC_exit_8, x_CC_exit_11, x_CC_exit_14, x_CC_exit_16, x_CC_exit_19, x_CC_exit_20, x_CC_exit_21, x_CC_exit_24, x_CC_exit_27, x_CC_exit_28, cu_is h, cu_g0 h, cu_g1 h, cu_g2 h, cu_g3 h, cu_g4 h, cu_g5 h, cu_g6 h, cu_g7 h, cu_g8 h, cu_g9 h, cu_g10 h, cu_s5 h, cu_s7 h, cu_s10 h, cu_n1 h, cu_m1 h, cu_n2 h, cu_m2 h, cu_n3 h, cu_n4 h, cu_n5 h, cu_n6 h, cc_coinAt_y h hn hk, cc_isUser, cc_blockAt_n h e3, e0, e1, Option.bind_some, Option.toList_some, Option.toList_none, List.cons_append, List.nil_append, ↓reduceIte, reduceCtorEq]
theorem cc_exit (h : jl_C K g cc n) (hn : jn_C f cc n) {u c b : Nat} (hu : u < 4) (hc : c < cc) (h1 : 1 ≤ b) (h2 : b ≤ n) : jx_m Z (d + 5) 29 [.inr (some (K.2.1 0 0)), .inl (nI u), .inl (nI c), .inl (nI b)] (jy_w K f g) = some (if (¬ f 7 c 1 = 0) ∨ (¬ f 8 c 0 = 0) then (some (.inl (-4)), jy_w K f g) else if jq_ex2 (vc_E f g) u c b = false then (some (.inl (-5)), jy_w K f g) else if f 1 0 u < 10 then (some (.inl (-3)), jy_w K f g) else (some (.inl 0), jy_w K (vk_ex f g u c b) g)) := by
  have h8 := hn.2.2.1
  have hc8 : c < 8 := by omega
  have hcl := h.2.2.1 c hc
  have b1 : ¬ jq_b true = 0 := by decide
  have b0 : jq_b false = 0 := by decide
  have e10 : ¬ (1 : Int32) = 0 := by decide
  simp only [e_CC_exit, x_CC_exit_0, x_CC_exit_1, x_CC_exit_2, x_CC_exit_5, x_CC_exit_7, x_CC_exit_8, x_CC_exit_11, x_CC_exit_14, x_CC_exit_16, x_CC_exit_19, x_CC_exit_20, x_CC_exit_21, x_CC_exit_24, x_CC_exit_27, x_CC_exit_28, x_CC_exit_29, x_CC_exit_31, x_CC_exit_34, x_CC_exit_37, x_CC_exit_39, x_CC_exit_42, x_CC_exit_45, x_CC_exit_48, x_CC_exit_50, x_CC_exit_51, x_CC_exit_52, x_CC_exit_53, x_CC_exit_54, x_CC_exit_57, cu_is h, cu_g0 h, cu_g1 h, cu_g2 h, cu_g3 h, cu_g4 h, cu_g5 h, cu_g6 h, cu_g7 h, cu_g8 h, cu_g9 h, cu_g10 h, cu_s5 h, cu_s7 h, cu_s10 h, cu_n1 h, cu_m1 h, cu_n2 h, cu_m2 h, cu_n3 h, cu_n4 h, cu_n5 h, cu_n6 h, cc_coinAt_y h hn hc, cc_user_y hu, cc_blockAt_y h hn h1 h2, cu_c0 hcl, cu_c1 hcl, cu_c2 hcl, cu_e0 hcl, cu_e1 hcl, cu_e2 hcl, cu_e3 hcl, cu_e4 hcl, cu_e5 hcl, cu_eis hcl, cu_n9 hcl, cu_l9 hcl, cc_entryIn h hn hc8, e10, Option.bind_some, Option.toList_some, Option.toList_none, List.cons_append, List.nil_append, ↓reduceIte, reduceCtorEq]
  by_cases e1 : f 7 c 1 = 0
  · by_cases e2 : f 8 c 0 = 0
    · simp only [e1, e2, ↓reduceIte, not_true_eq_false, or_self]
      unfold vk_ex jq_ex2 jq_pr vc_E
      cases hr : ve_r f g (nI b) c with
      | none =>
        simp only [x_CC_exit_59, x_CC_exit_61, x_CC_exit_64, x_CC_exit_66, x_CC_exit_69, x_CC_exit_70, x_CC_exit_73, x_CC_exit_74, x_CC_exit_75, x_CC_exit_76, x_CC_exit_78, x_CC_exit_81, x_CC_exit_84, x_CC_exit_86, x_CC_exit_87, x_CC_exit_88, x_CC_exit_91, x_CC_exit_92, x_CC_exit_93, x_CC_exit_95, x_CC_exit_98, x_CC_exit_100, x_CC_exit_101, x_CC_exit_102, x_CC_exit_103, x_CC_exit_105, x_CC_exit_108, x_CC_exit_110, x_CC_exit_113, x_CC_exit_114, x_CC_exit_115, x_CC_exit_117, x_CC_exit_120, x_CC_exit_121, x_CC_exit_124, x_CC_exit_127, x_CC_exit_128, hr, ↓reduceIte]
        simp
      | some a =>
        have ha := ve_ok h hn hc8 hr
        have hE : vc_E f g = fun b c => (ve_r f g b c).map (vc_t f) := rfl
        rw [← hE]
        have hp : K.1 a = some (13, a) := ha
        have e9 : jy_up f 1 0 u (f 1 0 u + -10) 9 c = f 9 c := by funext j; simp [jy_up]
        have e0 : jy_up f 1 0 u (f 1 0 u + -10) 0 0 10 = f 0 0 10 := by simp [jy_up]
        have e13 : jy_up f 1 0 u (f 1 0 u + -10) 13 a 1 = f 13 a 1 := by simp [jy_up]
        simp only [x_CC_exit_59, x_CC_exit_61, x_CC_exit_64, x_CC_exit_66, x_CC_exit_69, x_CC_exit_70, x_CC_exit_73, x_CC_exit_74, x_CC_exit_75, x_CC_exit_76, x_CC_exit_78, x_CC_exit_81, x_CC_exit_84, x_CC_exit_86, x_CC_exit_87, x_CC_exit_88, x_CC_exit_91, x_CC_exit_92, x_CC_exit_93, x_CC_exit_95, x_CC_exit_98, x_CC_exit_100, x_CC_exit_101, x_CC_exit_102, x_CC_exit_103, x_CC_exit_105, x_CC_exit_108, x_CC_exit_110, x_CC_exit_113, x_CC_exit_114, x_CC_exit_115, x_CC_exit_117, x_CC_exit_120, x_CC_exit_121, x_CC_exit_124, x_CC_exit_127, x_CC_exit_128, cu_is h, cu_g0 h, cu_g1 h, cu_g2 h, cu_g3 h, cu_g4 h, cu_g5 h, cu_g6 h, cu_g7 h, cu_g8 h, cu_g9 h, cu_g10 h, cu_s5 h, cu_s7 h, cu_s10 h, cu_n1 h, cu_m1 h, cu_n2 h, cu_m2 h, cu_n3 h, cu_n4 h, cu_n5 h, cu_n6 h, cu_c0 hcl, cu_c1 hcl, cu_c2 hcl, cu_e0 hcl, cu_e1 hcl, cu_e2 hcl, cu_e3 hcl, cu_e4 hcl, cu_e5 hcl, cu_eis hcl, cu_n9 hcl, cu_l9 hcl, hr, cu_v h.1 ha (show 3 < 6 by decide), cu_v h.1 ha (show 1 < 6 by decide), cc_fnd h hn hc8 ha, cc_pay h hu, ex_beg h.1 hcl, hu, e9, e0, e13, Option.bind_some, Option.toList_some, Option.toList_none, List.cons_append, List.nil_append, ↓reduceIte, reduceCtorEq, Option.map_some, vc_t]
        by_cases q1 : f 13 a 3 = nI u
        · by_cases q2 : (decide (¬ f 13 a 0 = 0) || jq_sp (vc_E f g) c (nI b) (f 13 a 1)) = true
          · have q2' : (¬ f 13 a 0 = 0 ∨ jq_sp (vc_E f g) c (nI b) (f 13 a 1) = true) := by simpa using q2
            by_cases q3 : f 1 0 u < 10
            · have q3' : ¬ (10 : Int32) ≤ f 1 0 u := Int32.not_le.mpr q3
              simp only [q1, q2, q2', q3, q3', b1, ↓reduceIte, not_true_eq_false, not_false_eq_true, and_self, decide_true]
              simp
            · have q3' : (10 : Int32) ≤ f 1 0 u := Int32.not_lt.mp q3
              simp only [q1, q2, q2', q3, q3', b1, ↓reduceIte, not_true_eq_false, not_false_eq_true, and_self, decide_true]
              simp
          · have q2' : ¬ (¬ f 13 a 0 = 0 ∨ jq_sp (vc_E f g) c (nI b) (f 13 a 1) = true) := fun z => q2 (by simpa using z)
            have q2 : (decide (¬ f 13 a 0 = 0) || jq_sp (vc_E f g) c (nI b) (f 13 a 1)) = false := by simpa using q2
            simp only [q1, q2, q2', b0, ↓reduceIte, not_true_eq_false, and_false, decide_false]
        · simp [q1]
    · simp [e1, e2]
  · simp [e1]
theorem cc_aft_n (h : jl_C K g cc n) (hn : jn_C f cc n) {u c b : Int32} (hb : (u < 0 ∨ 4 ≤ u) ∨ (c < 0 ∨ f 0 0 5 ≤ c) ∨ (b < 1 ∨ f 0 0 7 < b)) : jx_m Z (d + 4) 32 [.inr (some (K.2.1 0 0)), .inl u, .inl c, .inl b] (jy_w K f g) = some (some (.inl (-1)), jy_w K f g) := by
  have e : ¬ (-1 : Int32) = 0 := by decide
  by_cases e2 : c < 0 ∨ f 0 0 5 ≤ c
  · simp only [e_CC_after, x_CC_after_0, x_CC_after_1, x_CC_after_2, x_CC_after_3, x_CC_after_4, x_CC_after_7, x_CC_after_9, x_CC_after_10, x_CC_after_11, x_CC_after_14, x_CC_after_16, x_CC_after_18, x_CC_after_21, x_CC_after_23, x_CC_after_26, x_CC_after_28, cu_is h, cu_g0 h, cu_g1 h, cu_g2 h, cu_g3 h, cu_g4 h, cu_g5 h, cu_g6 h, cu_g7 h, cu_g8 h, cu_g9 h, cu_g10 h, cu_s5 h, cu_s7 h, cu_s10 h, cu_n1 h, cu_m1 h, cu_n2 h, cu_m2 h, cu_n3 h, cu_n4 h, cu_n5 h, cu_n6 h, cc_ref_n h hn hb, cc_exitOf_n h e2, e, Option.bind_some, Option.toList_some, Option.toList_none, List.cons_append, List.nil_append, ↓reduceIte, not_false_eq_true]
  · obtain ⟨k, rfl, hk⟩ := jz_coinC hn.1 hn.2.2.1 e2
    simp only [e_CC_after, x_CC_after_0, x_CC_after_1, x_CC_after_2, x_CC_after_3, x_CC_after_4, x_CC_after_7, x_CC_after_9, x_CC_after_10, x_CC_after_11, x_CC_after_14, x_CC_after_16, x_CC_after_18, x_CC_after_21, x_CC_after_23, x_CC_after_26, x_CC_after_28, cu_is h, cu_g0 h, cu_g1 h, cu_g2 h, cu_g3 h, cu_g4 h, cu_g5 h, cu_g6 h, cu_g7 h, cu_g8 h, cu_g9 h, cu_g10 h, cu_s5 h, cu_s7 h, cu_s10 h, cu_n1 h, cu_m1 h, cu_n2 h, cu_m2 h, cu_n3 h, cu_n4 h, cu_n5 h, cu_n6 h, cc_ref_n h hn hb, cc_exitOf_y h hn hk, e, Option.bind_some, Option.toList_some, Option.toList_none, List.cons_append, List.nil_append, ↓reduceIte, not_false_eq_true]
theorem cc_btw_n (h : jl_C K g cc n) (hn : jn_C f cc n) {u c b : Int32} (hb : (u < 0 ∨ 4 ≤ u) ∨ (c < 0 ∨ f 0 0 5 ≤ c) ∨ (b < 1 ∨ f 0 0 7 < b)) : jx_m Z (d + 4) 39 [.inr (some (K.2.1 0 0)), .inl u, .inl c, .inl b] (jy_w K f g) = some (some (.inl (-1)), jy_w K f g) := by
  have e : ¬ (-1 : Int32) = 0 := by decide
  by_cases e2 : c < 0 ∨ f 0 0 5 ≤ c
  · simp only [e_CC_between, x_CC_between_0, x_CC_between_1, x_CC_between_2, x_CC_between_3, x_CC_between_4, x_CC_between_7, x_CC_between_9, x_CC_between_10, x_CC_between_11, x_CC_between_14, x_CC_between_16, x_CC_between_18, x_CC_between_21, x_CC_between_23, x_CC_between_26, x_CC_between_28, cu_is h, cu_g0 h, cu_g1 h, cu_g2 h, cu_g3 h, cu_g4 h, cu_g5 h, cu_g6 h, cu_g7 h, cu_g8 h, cu_g9 h, cu_g10 h, cu_s5 h, cu_s7 h, cu_s10 h, cu_n1 h, cu_m1 h, cu_n2 h, cu_m2 h, cu_n3 h, cu_n4 h, cu_n5 h, cu_n6 h, cc_ref_n h hn hb, cc_exitOf_n h e2, e, Option.bind_some, Option.toList_some, Option.toList_none, List.cons_append, List.nil_append, ↓reduceIte, not_false_eq_true]
  · obtain ⟨k, rfl, hk⟩ := jz_coinC hn.1 hn.2.2.1 e2
    simp only [e_CC_between, x_CC_between_0, x_CC_between_1, x_CC_between_2, x_CC_between_3, x_CC_between_4, x_CC_between_7, x_CC_between_9, x_CC_between_10, x_CC_between_11, x_CC_between_14, x_CC_between_16, x_CC_between_18, x_CC_between_21, x_CC_between_23, x_CC_between_26, x_CC_between_28, cu_is h, cu_g0 h, cu_g1 h, cu_g2 h, cu_g3 h, cu_g4 h, cu_g5 h, cu_g6 h, cu_g7 h, cu_g8 h, cu_g9 h, cu_g10 h, cu_s5 h, cu_s7 h, cu_s10 h, cu_n1 h, cu_m1 h, cu_n2 h, cu_m2 h, cu_n3 h, cu_n4 h, cu_n5 h, cu_n6 h, cc_ref_n h hn hb, cc_exitOf_y h hn hk, e, Option.bind_some, Option.toList_some, Option.toList_none, List.cons_append, List.nil_append, ↓reduceIte, not_false_eq_true]
theorem cc_bef_n (h : jl_C K g cc n) (hn : jn_C f cc n) {u c b : Int32} (hb : (u < 0 ∨ 4 ≤ u) ∨ (c < 0 ∨ f 0 0 5 ≤ c) ∨ (b < 1 ∨ f 0 0 7 < b)) : jx_m Z (d + 4) 40 [.inr (some (K.2.1 0 0)), .inl u, .inl c, .inl b] (jy_w K f g) = some (some (.inl (-1)), jy_w K f g) := by
  have e : ¬ (-1 : Int32) = 0 := by decide
  by_cases e2 : c < 0 ∨ f 0 0 5 ≤ c
  · simp only [e_CC_before, x_CC_before_0, x_CC_before_1, x_CC_before_2, x_CC_before_3, x_CC_before_4, x_CC_before_7, x_CC_before_9, x_CC_before_10, x_CC_before_11, x_CC_before_14, x_CC_before_16, x_CC_before_18, x_CC_before_21, x_CC_before_23, x_CC_before_26, x_CC_before_28, cu_is h, cu_g0 h, cu_g1 h, cu_g2 h, cu_g3 h, cu_g4 h, cu_g5 h, cu_g6 h, cu_g7 h, cu_g8 h, cu_g9 h, cu_g10 h, cu_s5 h, cu_s7 h, cu_s10 h, cu_n1 h, cu_m1 h, cu_n2 h, cu_m2 h, cu_n3 h, cu_n4 h, cu_n5 h, cu_n6 h, cc_ref_n h hn hb, cc_exitOf_n h e2, e, Option.bind_some, Option.toList_some, Option.toList_none, List.cons_append, List.nil_append, ↓reduceIte, not_false_eq_true]
  · obtain ⟨k, rfl, hk⟩ := jz_coinC hn.1 hn.2.2.1 e2
    simp only [e_CC_before, x_CC_before_0, x_CC_before_1, x_CC_before_2, x_CC_before_3, x_CC_before_4, x_CC_before_7, x_CC_before_9, x_CC_before_10, x_CC_before_11, x_CC_before_14, x_CC_before_16, x_CC_before_18, x_CC_before_21, x_CC_before_23, x_CC_before_26, x_CC_before_28, cu_is h, cu_g0 h, cu_g1 h, cu_g2 h, cu_g3 h, cu_g4 h, cu_g5 h, cu_g6 h, cu_g7 h, cu_g8 h, cu_g9 h, cu_g10 h, cu_s5 h, cu_s7 h, cu_s10 h, cu_n1 h, cu_m1 h, cu_n2 h, cu_m2 h, cu_n3 h, cu_n4 h, cu_n5 h, cu_n6 h, cc_ref_n h hn hb, cc_exitOf_y h hn hk, e, Option.bind_some, Option.toList_some, Option.toList_none, List.cons_append, List.nil_append, ↓reduceIte, not_false_eq_true]
theorem cc_aft (h : jl_C K g cc n) (hn : jn_C f cc n) {u c b : Nat} (hu : u < 4) (hc : c < cc) (h1 : 1 ≤ b) (h2 : b ≤ n) (hk : vc_cok f c) : jx_m Z (d + 4) 32 [.inr (some (K.2.1 0 0)), .inl (nI u), .inl (nI c), .inl (nI b)] (jy_w K f g) = some (if f 8 c 0 = 0 then (some (.inl (-4)), jy_w K f g) else if jq_sp (vc_E f g) c (nI b) (f 8 c 2) = false then (some (.inl (-5)), jy_w K f g) else (some (.inl 0), jy_w K (vc_can f c u) g)) := by
  have h8 := hn.2.2.1
  have hc8 : c < 8 := by omega
  have hcl := h.2.2.1 c hc
  have b1 : ¬ jq_b true = 0 := by decide
  have b0 : jq_b false = 0 := by decide
  have e4 : ¬ (-4 : Int32) = 0 := by decide
  simp only [e_CC_after, x_CC_after_0, x_CC_after_1, x_CC_after_2, x_CC_after_3, x_CC_after_4, x_CC_after_7, x_CC_after_9, x_CC_after_10, x_CC_after_11, x_CC_after_14, x_CC_after_16, x_CC_after_18, x_CC_after_21, x_CC_after_23, x_CC_after_26, x_CC_after_28, x_CC_after_29, x_CC_after_30, x_CC_after_31, x_CC_after_32, x_CC_after_34, x_CC_after_37, x_CC_after_40, x_CC_after_43, x_CC_after_45, x_CC_after_46, x_CC_after_47, x_CC_after_49, x_CC_after_50, x_CC_after_53, x_CC_after_54, cu_is h, cu_g0 h, cu_g1 h, cu_g2 h, cu_g3 h, cu_g4 h, cu_g5 h, cu_g6 h, cu_g7 h, cu_g8 h, cu_g9 h, cu_g10 h, cu_s5 h, cu_s7 h, cu_s10 h, cu_n1 h, cu_m1 h, cu_n2 h, cu_m2 h, cu_n3 h, cu_n4 h, cu_n5 h, cu_n6 h, cc_ref_y h hn hu hc h1 h2, cc_exitOf_y h hn hc, cu_c0 hcl, cu_c1 hcl, cu_c2 hcl, cu_e0 hcl, cu_e1 hcl, cu_e2 hcl, cu_e3 hcl, cu_e4 hcl, cu_e5 hcl, cu_eis hcl, cu_n9 hcl, cu_l9 hcl, cc_spends h hn hc8, cc_can h hcl hu hk, Option.bind_some, Option.toList_some, Option.toList_none, List.cons_append, List.nil_append, ↓reduceIte, reduceCtorEq]
  by_cases e1 : f 8 c 0 = 0
  · simp [e1, e4]
  · by_cases e2 : jq_sp (vc_E f g) c (nI b) (f 8 c 2) = true
    · simp [e1, e2, b1]
    · have e2 : jq_sp (vc_E f g) c (nI b) (f 8 c 2) = false := by simpa using e2
      simp [e1, e2, b0]
theorem cc_btw (h : jl_C K g cc n) (hn : jn_C f cc n) {u c b : Nat} (hu : u < 4) (hc : c < cc) (h1 : 1 ≤ b) (h2 : b ≤ n) (hk : vc_cok f c) : jx_m Z (d + 4) 39 [.inr (some (K.2.1 0 0)), .inl (nI u), .inl (nI c), .inl (nI b)] (jy_w K f g) = some (if f 8 c 0 = 0 then (some (.inl (-4)), jy_w K f g) else if f 8 c 3 = 0 ∨ f 8 c 2 ≤ nI b ∨ jq_sp (vc_E f g) c (nI b) (f 8 c 3) = false then (some (.inl (-5)), jy_w K f g) else (some (.inl 0), jy_w K (vc_can f c u) g)) := by
  have h8 := hn.2.2.1
  have hc8 : c < 8 := by omega
  have hcl := h.2.2.1 c hc
  have b1 : ¬ jq_b true = 0 := by decide
  have b0 : jq_b false = 0 := by decide
  have e4 : ¬ (-4 : Int32) = 0 := by decide
  simp only [e_CC_between, x_CC_between_0, x_CC_between_1, x_CC_between_2, x_CC_between_3, x_CC_between_4, x_CC_between_7, x_CC_between_9, x_CC_between_10, x_CC_between_11, x_CC_between_14, x_CC_between_16, x_CC_between_18, x_CC_between_21, x_CC_between_23, x_CC_between_26, x_CC_between_28, x_CC_between_29, x_CC_between_31, x_CC_between_34, x_CC_between_37, x_CC_between_38, x_CC_between_40, x_CC_between_43, x_CC_between_46, x_CC_between_47, x_CC_between_48, x_CC_between_49, x_CC_between_51, x_CC_between_54, x_CC_between_57, x_CC_between_60, x_CC_between_62, x_CC_between_63, x_CC_between_64, x_CC_between_66, x_CC_between_67, x_CC_between_70, x_CC_between_71, cu_is h, cu_g0 h, cu_g1 h, cu_g2 h, cu_g3 h, cu_g4 h, cu_g5 h, cu_g6 h, cu_g7 h, cu_g8 h, cu_g9 h, cu_g10 h, cu_s5 h, cu_s7 h, cu_s10 h, cu_n1 h, cu_m1 h, cu_n2 h, cu_m2 h, cu_n3 h, cu_n4 h, cu_n5 h, cu_n6 h, cc_ref_y h hn hu hc h1 h2, cc_exitOf_y h hn hc, cu_c0 hcl, cu_c1 hcl, cu_c2 hcl, cu_e0 hcl, cu_e1 hcl, cu_e2 hcl, cu_e3 hcl, cu_e4 hcl, cu_e5 hcl, cu_eis hcl, cu_n9 hcl, cu_l9 hcl, cc_spends h hn hc8, cc_can h hcl hu hk, Option.bind_some, Option.toList_some, Option.toList_none, List.cons_append, List.nil_append, ↓reduceIte, reduceCtorEq]
  by_cases e1 : f 8 c 0 = 0
  · simp [e1, e4]
  · by_cases e3 : f 8 c 3 = 0
    · simp [e1, e3]
    · by_cases e5 : f 8 c 2 ≤ nI b
      · simp [e1, e3, e5]
      · by_cases e2 : jq_sp (vc_E f g) c (nI b) (f 8 c 3) = true
        · simp [e1, e2, e3, e5, b1]
        · have e2 : jq_sp (vc_E f g) c (nI b) (f 8 c 3) = false := by simpa using e2
          simp [e1, e2, e3, e5, b0]
theorem cc_bef (h : jl_C K g cc n) (hn : jn_C f cc n) {u c b : Nat} (hu : u < 4) (hc : c < cc) (h1 : 1 ≤ b) (h2 : b ≤ n) : jx_m Z (d + 4) 40 [.inr (some (K.2.1 0 0)), .inl (nI u), .inl (nI c), .inl (nI b)] (jy_w K f g) = some (if f 8 c 0 = 0 then (some (.inl (-4)), jy_w K f g) else if f 0 0 1 / 2 < f 0 0 10 - f 8 c 4 ∨ ¬ f 9 c b = 0 then (some (.inl (-4)), jy_w K f g) else if f 8 c 3 ≤ nI b ∨ jq_gd (vc_E f g) (nI b) c = false then (some (.inl (-5)), jy_w K f g) else if f 1 0 u < 2 then (some (.inl (-3)), jy_w K f g) else (some (.inl 0), jy_w K (vk_bef f u c b) g)) := by
  have h8 := hn.2.2.1
  have h24 := hn.2.2.2
  have hc8 : c < 8 := by omega
  have hcl := h.2.2.1 c hc
  have b1 : ¬ jq_b true = 0 := by decide
  have b0 : jq_b false = 0 := by decide
  have e4 : ¬ (-4 : Int32) = 0 := by decide
  have e20 : ¬ (2 : Int32) = 0 := by decide
  simp only [e_CC_before, x_CC_before_0, x_CC_before_1, x_CC_before_2, x_CC_before_3, x_CC_before_4, x_CC_before_7, x_CC_before_9, x_CC_before_10, x_CC_before_11, x_CC_before_14, x_CC_before_16, x_CC_before_18, x_CC_before_21, x_CC_before_23, x_CC_before_26, x_CC_before_28, x_CC_before_29, x_CC_before_30, x_CC_before_33, x_CC_before_35, x_CC_before_38, x_CC_before_39, x_CC_before_40, x_CC_before_43, x_CC_before_44, x_CC_before_45, x_CC_before_48, x_CC_before_50, x_CC_before_51, x_CC_before_54, x_CC_before_57, x_CC_before_59, x_CC_before_60, x_CC_before_61, x_CC_before_63, x_CC_before_66, x_CC_before_69, x_CC_before_70, x_CC_before_71, x_CC_before_72, x_CC_before_75, x_CC_before_78, x_CC_before_80, x_CC_before_81, x_CC_before_82, x_CC_before_85, x_CC_before_86, x_CC_before_87, x_CC_before_88, x_CC_before_91, x_CC_before_93, cu_is h, cu_g0 h, cu_g1 h, cu_g2 h, cu_g3 h, cu_g4 h, cu_g5 h, cu_g6 h, cu_g7 h, cu_g8 h, cu_g9 h, cu_g10 h, cu_s5 h, cu_s7 h, cu_s10 h, cu_n1 h, cu_m1 h, cu_n2 h, cu_m2 h, cu_n3 h, cu_n4 h, cu_n5 h, cu_n6 h, cc_ref_y h hn hu hc h1 h2, cc_exitOf_y h hn hc, cu_c0 hcl, cu_c1 hcl, cu_c2 hcl, cu_e0 hcl, cu_e1 hcl, cu_e2 hcl, cu_e3 hcl, cu_e4 hcl, cu_e5 hcl, cu_eis hcl, cu_n9 hcl, cu_l9 hcl, ex_was hcl h1 (show b ≤ 24 by omega), cc_good h hn hc8, hu, e20, Option.bind_some, Option.toList_some, Option.toList_none, List.cons_append, List.nil_append, ↓reduceIte, reduceCtorEq]
  by_cases e1 : f 8 c 0 = 0
  · simp [e1, e4]
  · by_cases e3 : f 0 0 1 / 2 < f 0 0 10 - f 8 c 4
    · simp [e1, e3]
    · by_cases e5 : f 9 c b = 0
      · by_cases e6 : f 8 c 3 ≤ nI b
        · simp [e1, e3, e5, e6, b0]
        · by_cases e2 : jq_gd (vc_E f g) (nI b) c = true
          · by_cases e7 : f 1 0 u < 2
            · have e7' : ¬ (2 : Int32) ≤ f 1 0 u := Int32.not_le.mpr e7
              simp [e1, e2, e3, e5, e6, b0, b1, e7, e7']
            · have e7' : (2 : Int32) ≤ f 1 0 u := Int32.not_lt.mp e7
              have go : jx_run Z jX_CC_before (jx_m Z (d + 3)) (94, [some (.inr (some (K.2.1 0 0))), some (.inl (nI u)), some (.inl (nI c)), some (.inl (nI b)), some (.inl 0), some (.inr (some (K.2.1 8 c)))], [], jy_w K f g) = some (some (.inl 0), jy_w K (vk_bef f u c b) g) := by
                simp only [x_CC_before_94, x_CC_before_95, x_CC_before_96, x_CC_before_98, x_CC_before_101, x_CC_before_103, x_CC_before_104, x_CC_before_105, x_CC_before_108, x_CC_before_109, cu_is h, cu_g0 h, cu_g1 h, cu_g2 h, cu_g3 h, cu_g4 h, cu_g5 h, cu_g6 h, cu_g7 h, cu_g8 h, cu_g9 h, cu_g10 h, cu_s5 h, cu_s7 h, cu_s10 h, cu_n1 h, cu_m1 h, cu_n2 h, cu_m2 h, cu_n3 h, cu_n4 h, cu_n5 h, cu_n6 h, cc_pay h hu, cu_c0 hcl, cu_c1 hcl, cu_c2 hcl, cu_e0 hcl, cu_e1 hcl, cu_e2 hcl, cu_e3 hcl, cu_e4 hcl, cu_e5 hcl, cu_eis hcl, cu_n9 hcl, cu_l9 hcl, ex_op h.1 hcl h1 (show b ≤ 24 by omega), Option.bind_some, Option.toList_some, Option.toList_none, List.cons_append, List.nil_append, ↓reduceIte]
                rfl
              simp [e1, e2, e3, e5, e6, b0, b1, e7, e7']
              exact go
          · have e2 : jq_gd (vc_E f g) (nI b) c = false := by simpa using e2
            simp [e1, e2, e3, e5, e6, b0]
      · simp [e1, e3, e5, b1]
theorem cc_ans_n (h : jl_C K g cc n) (hn : jn_C f cc n) {c b e : Int32} (hb : (c < 0 ∨ f 0 0 5 ≤ c) ∨ (b < 1 ∨ f 0 0 7 < b) ∨ (e < 1 ∨ f 0 0 7 < e)) : jx_m Z (d + 3) 44 [.inr (some (K.2.1 0 0)), .inl c, .inl b, .inl e] (jy_w K f g) = some (some (.inl (-1)), jy_w K f g) := by
  by_cases e2 : c < 0 ∨ f 0 0 5 ≤ c
  · simp only [e_CC_answer, x_CC_answer_0, x_CC_answer_1, x_CC_answer_2, x_CC_answer_5, x_CC_answer_7, x_CC_answer_9, x_CC_answer_12, x_CC_answer_13, x_CC_answer_14, x_CC_answer_17, x_CC_answer_20, x_CC_answer_21, x_CC_answer_22, x_CC_answer_25, x_CC_answer_28, x_CC_answer_29, cu_is h, cu_g0 h, cu_g1 h, cu_g2 h, cu_g3 h, cu_g4 h, cu_g5 h, cu_g6 h, cu_g7 h, cu_g8 h, cu_g9 h, cu_g10 h, cu_s5 h, cu_s7 h, cu_s10 h, cu_n1 h, cu_m1 h, cu_n2 h, cu_m2 h, cu_n3 h, cu_n4 h, cu_n5 h, cu_n6 h, cc_exitOf_n h e2, Option.bind_some, Option.toList_some, Option.toList_none, List.cons_append, List.nil_append, ↓reduceIte]
  · obtain ⟨k, rfl, hk⟩ := jz_coinC hn.1 hn.2.2.1 e2
    by_cases e3 : b < 1 ∨ f 0 0 7 < b
    · simp only [e_CC_answer, x_CC_answer_0, x_CC_answer_1, x_CC_answer_2, x_CC_answer_5, x_CC_answer_7, x_CC_answer_9, x_CC_answer_12, x_CC_answer_13, x_CC_answer_14, x_CC_answer_17, x_CC_answer_20, x_CC_answer_21, x_CC_answer_22, x_CC_answer_25, x_CC_answer_28, x_CC_answer_29, cu_is h, cu_g0 h, cu_g1 h, cu_g2 h, cu_g3 h, cu_g4 h, cu_g5 h, cu_g6 h, cu_g7 h, cu_g8 h, cu_g9 h, cu_g10 h, cu_s5 h, cu_s7 h, cu_s10 h, cu_n1 h, cu_m1 h, cu_n2 h, cu_m2 h, cu_n3 h, cu_n4 h, cu_n5 h, cu_n6 h, cc_exitOf_y h hn hk, cc_blockAt_n h e3, Option.bind_some, Option.toList_some, Option.toList_none, List.cons_append, List.nil_append, ↓reduceIte, reduceCtorEq]
    · obtain ⟨q, rfl, q1, q2⟩ := jz_blkC hn.2.1 hn.2.2.2 e3
      have e4 : e < 1 ∨ f 0 0 7 < e := by
        rcases hb with hb | hb | hb
        · exact absurd hb e2
        · exact absurd hb e3
        · exact hb
      simp only [e_CC_answer, x_CC_answer_0, x_CC_answer_1, x_CC_answer_2, x_CC_answer_5, x_CC_answer_7, x_CC_answer_9, x_CC_answer_12, x_CC_answer_13, x_CC_answer_14, x_CC_answer_17, x_CC_answer_20, x_CC_answer_21, x_CC_answer_22, x_CC_answer_25, x_CC_answer_28, x_CC_answer_29, cu_is h, cu_g0 h, cu_g1 h, cu_g2 h, cu_g3 h, cu_g4 h, cu_g5 h, cu_g6 h, cu_g7 h, cu_g8 h, cu_g9 h, cu_g10 h, cu_s5 h, cu_s7 h, cu_s10 h, cu_n1 h, cu_m1 h, cu_n2 h, cu_m2 h, cu_n3 h, cu_n4 h, cu_n5 h, cu_n6 h, cc_exitOf_y h hn hk, cc_blockAt_y h hn q1 q2, cc_blockAt_n h e4, Option.bind_some, Option.toList_some, Option.toList_none, List.cons_append, List.nil_append, ↓reduceIte, reduceCtorEq]
theorem cc_ans (h : jl_C K g cc n) (hn : jn_C f cc n) {c b e : Nat} (hc : c < cc) (h1 : 1 ≤ b) (h2 : b ≤ n) (h3 : 1 ≤ e) (h4 : e ≤ n) {x : Nat} (hx : ¬ f 8 c 0 = 0 → x < 4 ∧ f 8 c 1 = nI x) : jx_m Z (d + 4) 44 [.inr (some (K.2.1 0 0)), .inl (nI c), .inl (nI b), .inl (nI e)] (jy_w K f g) = some (if f 8 c 0 = 0 ∨ vc_std f c b = false then (some (.inl (-4)), jy_w K f g) else if f 8 c 3 < nI e ∨ jq_sp (vc_E f g) c (nI e) (nI b) = false then (some (.inl (-5)), jy_w K f g) else (some (.inl 0), jy_w K (vk_ans f c b x) g)) := by
  have h8 := hn.2.2.1
  have h24 := hn.2.2.2
  have hc8 : c < 8 := by omega
  have hcl := h.2.2.1 c hc
  have b1 : ¬ jq_b true = 0 := by decide
  have b0 : jq_b false = 0 := by decide
  simp only [e_CC_answer, x_CC_answer_0, x_CC_answer_1, x_CC_answer_2, x_CC_answer_5, x_CC_answer_7, x_CC_answer_9, x_CC_answer_12, x_CC_answer_13, x_CC_answer_14, x_CC_answer_17, x_CC_answer_20, x_CC_answer_21, x_CC_answer_22, x_CC_answer_25, x_CC_answer_28, x_CC_answer_29, x_CC_answer_30, x_CC_answer_32, x_CC_answer_35, x_CC_answer_38, x_CC_answer_40, x_CC_answer_41, x_CC_answer_44, x_CC_answer_47, x_CC_answer_49, x_CC_answer_50, x_CC_answer_51, x_CC_answer_53, x_CC_answer_56, x_CC_answer_59, x_CC_answer_60, x_CC_answer_61, x_CC_answer_62, x_CC_answer_63, x_CC_answer_66, x_CC_answer_69, x_CC_answer_71, cu_is h, cu_g0 h, cu_g1 h, cu_g2 h, cu_g3 h, cu_g4 h, cu_g5 h, cu_g6 h, cu_g7 h, cu_g8 h, cu_g9 h, cu_g10 h, cu_s5 h, cu_s7 h, cu_s10 h, cu_n1 h, cu_m1 h, cu_n2 h, cu_m2 h, cu_n3 h, cu_n4 h, cu_n5 h, cu_n6 h, cc_exitOf_y h hn hc, cc_blockAt_y h hn h1 h2, cc_blockAt_y h hn h3 h4, cu_c0 hcl, cu_c1 hcl, cu_c2 hcl, cu_e0 hcl, cu_e1 hcl, cu_e2 hcl, cu_e3 hcl, cu_e4 hcl, cu_e5 hcl, cu_eis hcl, cu_n9 hcl, cu_l9 hcl, ex_is hcl h1 (show b ≤ 24 by omega), cc_spends h hn hc8, Option.bind_some, Option.toList_some, Option.toList_none, List.cons_append, List.nil_append, ↓reduceIte, reduceCtorEq]
  by_cases e1 : f 8 c 0 = 0
  · simp [e1]
  · obtain ⟨hx4, hxe⟩ := hx e1
    by_cases e2 : vc_std f c b = true
    · by_cases e3 : f 8 c 3 < nI e
      · simp [e1, e2, e3, b1]
      · by_cases e5 : jq_sp (vc_E f g) c (nI e) (nI b) = true
        · have e8 : jy_up f 9 c b (-1) 8 c 1 = nI x := by rw [jy_up_k (by decide)]; exact hxe
          have e9 : jy_up f 9 c b (-1) 1 0 x = f 1 0 x := by rw [jy_up_k (by decide)]
          have go : jx_run Z jX_CC_answer (jx_m Z (d + 3)) (72, [some (.inr (some (K.2.1 0 0))), some (.inl (nI c)), some (.inl (nI b)), some (.inl (nI e)), some (.inr (some (K.2.1 8 c)))], [], jy_w K f g) = some (some (.inl 0), jy_w K (vk_ans f c b x) g) := by
            simp only [x_CC_answer_72, x_CC_answer_74, x_CC_answer_75, x_CC_answer_78, x_CC_answer_79, x_CC_answer_81, x_CC_answer_84, x_CC_answer_85, x_CC_answer_88, x_CC_answer_89, cu_is h, cu_g0 h, cu_g1 h, cu_g2 h, cu_g3 h, cu_g4 h, cu_g5 h, cu_g6 h, cu_g7 h, cu_g8 h, cu_g9 h, cu_g10 h, cu_s5 h, cu_s7 h, cu_s10 h, cu_n1 h, cu_m1 h, cu_n2 h, cu_m2 h, cu_n3 h, cu_n4 h, cu_n5 h, cu_n6 h, cu_c0 hcl, cu_c1 hcl, cu_c2 hcl, cu_e0 hcl, cu_e1 hcl, cu_e2 hcl, cu_e3 hcl, cu_e4 hcl, cu_e5 hcl, cu_eis hcl, cu_n9 hcl, cu_l9 hcl, ex_cl h.1 hcl h1 (show b ≤ 24 by omega), e8, cc_pay h hx4, e9, Option.bind_some, Option.toList_some, Option.toList_none, List.cons_append, List.nil_append, ↓reduceIte]
            rfl
          simp [e1, e2, e3, e5, b1]
          exact go
        · have e5 : jq_sp (vc_E f g) c (nI e) (nI b) = false := by simpa using e5
          simp [e1, e2, e3, e5, b0, b1]
    · have e2 : vc_std f c b = false := by simpa using e2
      simp [e1, e2, b0]
theorem cc_fin_n (h : jl_C K g cc n) {c : Int32} (hb : c < 0 ∨ f 0 0 5 ≤ c) : jx_m Z (d + 2) 46 [.inr (some (K.2.1 0 0)), .inl c] (jy_w K f g) = some (some (.inl (-1)), jy_w K f g) := by
  simp only [e_CC_finalise, x_CC_finalise_0, x_CC_finalise_1, x_CC_finalise_2, x_CC_finalise_5, x_CC_finalise_6, x_CC_finalise_7, x_CC_finalise_10, x_CC_finalise_11, cu_is h, cu_g0 h, cu_g1 h, cu_g2 h, cu_g3 h, cu_g4 h, cu_g5 h, cu_g6 h, cu_g7 h, cu_g8 h, cu_g9 h, cu_g10 h, cu_s5 h, cu_s7 h, cu_s10 h, cu_n1 h, cu_m1 h, cu_n2 h, cu_m2 h, cu_n3 h, cu_n4 h, cu_n5 h, cu_n6 h, cc_coinAt_n h hb, Option.bind_some, Option.toList_some, Option.toList_none, List.cons_append, List.nil_append, ↓reduceIte]
def vc_lst (f : jy_I) (c : Nat) : Nat := jq_fst (vc_std f c) 24 1
theorem jq_fst_in {P : Nat → Bool} : ∀ m k : Nat, jq_fst P m k = 0 ∨ (k ≤ jq_fst P m k ∧ jq_fst P m k < k + m ∧ P (jq_fst P m k) = true)
  | 0, k => Or.inl rfl
  | m + 1, k => by
    simp only [jq_fst]
    by_cases hp : P k = true
    · rw [if_pos hp]
      exact Or.inr ⟨Nat.le_refl _, by omega, hp⟩
    · rw [if_neg hp]
      rcases jq_fst_in (P := P) m (k + 1) with q | ⟨q1, q2, q3⟩
      · exact Or.inl q
      · exact Or.inr ⟨by omega, by omega, q3⟩
theorem cc_fin (h : jl_C K g cc n) (hn : jn_C f cc n) {c : Nat} (hc : c < cc) (hk : vc_cok f c) {x : Nat} (hx : ¬ f 8 c 0 = 0 → x < 4 ∧ f 8 c 1 = nI x) : jx_m Z (d + 4) 46 [.inr (some (K.2.1 0 0)), .inl (nI c)] (jy_w K f g) = some (if f 8 c 0 = 0 ∨ f 0 0 10 - f 8 c 4 < f 0 0 1 then (some (.inl (-4)), jy_w K f g) else if 0 < vc_lst f c then (some (.inl 0), jy_w K (vc_can f c (vc_ch f c (vc_lst f c))) g) else (some (.inl 1), jy_w K (vk_fin f c x) g)) := by
  have hcl := h.2.2.1 c hc
  have hL := ex_least (Z := Z) (d := d) (f := f) hcl
  rw [show jq_fst (vc_std f c) 24 1 = vc_lst f c from rfl] at hL
  simp only [e_CC_finalise, x_CC_finalise_0, x_CC_finalise_1, x_CC_finalise_2, x_CC_finalise_5, x_CC_finalise_6, x_CC_finalise_7, x_CC_finalise_10, x_CC_finalise_11, x_CC_finalise_12, x_CC_finalise_13, x_CC_finalise_16, x_CC_finalise_17, x_CC_finalise_18, x_CC_finalise_21, x_CC_finalise_24, x_CC_finalise_25, x_CC_finalise_28, x_CC_finalise_29, x_CC_finalise_32, x_CC_finalise_33, x_CC_finalise_34, x_CC_finalise_37, x_CC_finalise_40, x_CC_finalise_42, x_CC_finalise_43, x_CC_finalise_44, x_CC_finalise_47, cu_is h, cu_g0 h, cu_g1 h, cu_g2 h, cu_g3 h, cu_g4 h, cu_g5 h, cu_g6 h, cu_g7 h, cu_g8 h, cu_g9 h, cu_g10 h, cu_s5 h, cu_s7 h, cu_s10 h, cu_n1 h, cu_m1 h, cu_n2 h, cu_m2 h, cu_n3 h, cu_n4 h, cu_n5 h, cu_n6 h, cc_coinAt_y h hn hc, cu_c0 hcl, cu_c1 hcl, cu_c2 hcl, cu_e0 hcl, cu_e1 hcl, cu_e2 hcl, cu_e3 hcl, cu_e4 hcl, cu_e5 hcl, cu_eis hcl, cu_n9 hcl, cu_l9 hcl, hL, Option.bind_some, Option.toList_some, Option.toList_none, List.cons_append, List.nil_append, ↓reduceIte, reduceCtorEq]
  by_cases e1 : f 8 c 0 = 0
  · simp [e1]
  · obtain ⟨hx4, hxe⟩ := hx e1
    by_cases e2 : f 0 0 10 - f 8 c 4 < f 0 0 1
    · have e2' : ¬ f 0 0 1 ≤ f 0 0 10 - f 8 c 4 := Int32.not_le.mpr e2
      simp [e1, e2, e2']
    · have e2' : f 0 0 1 ≤ f 0 0 10 - f 8 c 4 := Int32.not_lt.mp e2
      have go : jx_run Z jX_CC_finalise (jx_m Z (d + 3)) (49, [some (.inr (some (K.2.1 0 0))), some (.inl (nI c)), some (.inr (some (K.2.1 7 c))), some (.inr (some (K.2.1 8 c))), some (.inl (nI (vc_lst f c)))], [], jy_w K f g) = some (if 0 < vc_lst f c then (some (.inl 0), jy_w K (vc_can f c (vc_ch f c (vc_lst f c))) g) else (some (.inl 1), jy_w K (vk_fin f c x) g)) := by
        rcases jq_fst_in (P := vc_std f c) 24 1 with q | ⟨q1, q2, q3⟩
        · have q : vc_lst f c = 0 := q
          have e0 : nI 0 = 0 := nI_0
          have h00 : (0 : Int32) = 0 ∨ (0 : Int32) = 1 := Or.inl rfl
          have h01 : (1 : Int32) = 0 ∨ (1 : Int32) = 1 := Or.inr rfl
          have z1 : jy_up (jy_up f 8 c 0 0) 7 c 1 1 8 c 1 = nI x := by simp [jy_up, hxe]
          have z2 : jy_up (jy_up f 8 c 0 0) 7 c 1 1 7 c 0 = f 7 c 0 := by simp [jy_up]
          have z3 : jy_up (jy_up f 8 c 0 0) 7 c 1 1 1 0 x = f 1 0 x := by simp [jy_up]
          rw [q]
          simp only [x_CC_finalise_49, x_CC_finalise_51, x_CC_finalise_54, x_CC_finalise_55, x_CC_finalise_56, x_CC_finalise_57, x_CC_finalise_59, x_CC_finalise_62, x_CC_finalise_65, x_CC_finalise_66, x_CC_finalise_67, x_CC_finalise_68, x_CC_finalise_69, x_CC_finalise_72, x_CC_finalise_73, x_CC_finalise_74, x_CC_finalise_77, x_CC_finalise_78, x_CC_finalise_79, x_CC_finalise_82, x_CC_finalise_83, x_CC_finalise_86, x_CC_finalise_88, x_CC_finalise_89, x_CC_finalise_92, x_CC_finalise_93, cu_is h, cu_g0 h, cu_g1 h, cu_g2 h, cu_g3 h, cu_g4 h, cu_g5 h, cu_g6 h, cu_g7 h, cu_g8 h, cu_g9 h, cu_g10 h, cu_s5 h, cu_s7 h, cu_s10 h, cu_n1 h, cu_m1 h, cu_n2 h, cu_m2 h, cu_n3 h, cu_n4 h, cu_n5 h, cu_n6 h, cu_c0 hcl, cu_c1 hcl, cu_c2 hcl, cu_e0 hcl, cu_e1 hcl, cu_e2 hcl, cu_e3 hcl, cu_e4 hcl, cu_e5 hcl, cu_eis hcl, cu_n9 hcl, cu_l9 hcl, cu_x0 h.1 hcl, cu_d1 h.1 hcl, e0, h00, h01, z1, z2, z3, cc_pay h hx4, Option.bind_some, Option.toList_some, Option.toList_none, List.cons_append, List.nil_append, ↓reduceIte, Nat.lt_irrefl]
          rfl
        · have q1 : 0 < vc_lst f c := q1
          have q2 : vc_lst f c ≤ 24 := by have : vc_lst f c < 1 + 24 := q2; omega
          obtain ⟨u, hu, hcu⟩ := hk _ q1 q2 q3
          have hcc : vc_ch f c (vc_lst f c) = u := by unfold vc_ch; exact jz_of hcu (by omega)
          have hcu : f 9 c (vc_lst f c) - 1 = nI u := hcu
          have e0 : ¬ nI (vc_lst f c) = 0 := nI_ne0 q1 (by omega)
          rw [hcc]
          simp only [x_CC_finalise_49, x_CC_finalise_51, x_CC_finalise_54, x_CC_finalise_55, x_CC_finalise_56, x_CC_finalise_57, x_CC_finalise_59, x_CC_finalise_62, x_CC_finalise_65, x_CC_finalise_66, x_CC_finalise_67, x_CC_finalise_68, x_CC_finalise_69, x_CC_finalise_72, x_CC_finalise_73, x_CC_finalise_74, x_CC_finalise_77, x_CC_finalise_78, x_CC_finalise_79, x_CC_finalise_82, x_CC_finalise_83, x_CC_finalise_86, x_CC_finalise_88, x_CC_finalise_89, x_CC_finalise_92, x_CC_finalise_93, cu_is h, cu_g0 h, cu_g1 h, cu_g2 h, cu_g3 h, cu_g4 h, cu_g5 h, cu_g6 h, cu_g7 h, cu_g8 h, cu_g9 h, cu_g10 h, cu_s5 h, cu_s7 h, cu_s10 h, cu_n1 h, cu_m1 h, cu_n2 h, cu_m2 h, cu_n3 h, cu_n4 h, cu_n5 h, cu_n6 h, cu_c0 hcl, cu_c1 hcl, cu_c2 hcl, cu_e0 hcl, cu_e1 hcl, cu_e2 hcl, cu_e3 hcl, cu_e4 hcl, cu_e5 hcl, cu_eis hcl, cu_n9 hcl, cu_l9 hcl, ex_ch hcl q1 q2, hcu, cc_can h hcl hu hk, e0, q1, Option.bind_some, Option.toList_some, Option.toList_none, List.cons_append, List.nil_append, ↓reduceIte]
      simp [e1, e2, e2']
      exact go
end CD
