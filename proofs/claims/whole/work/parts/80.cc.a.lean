/-! the class, method by method: what only reads -/
def ve_r (f : jy_I) (g : jy_R) (b : Int32) (c : Nat) : Option Nat := if b < 1 ∨ f 0 0 7 < b then none else g 11 b.toNatClampNeg c
def vc_t (f : jy_I) (a : Nat) : jq_T := (f 13 a 0, f 13 a 1, if f 13 a 0 = 0 then f 13 a 2 else 0, f 13 a 3, f 13 a 4)
def vc_E (f : jy_I) (g : jy_R) : jq_E := fun b c => (ve_r f g b c).map (vc_t f)
theorem jz_u8 (u c : Nat) : nI u * (8 : Int32) + nI c = nI (8 * u + c) := by
  show nI u * nI 8 + nI c = _
  rw [jz_mul, jz_add, Nat.mul_comm]
theorem jz_blkC {f : jy_I} {n : Nat} {b : Int32} (hn : f 0 0 7 = nI n) (h24 : n ≤ 24) (h : ¬ (b < 1 ∨ f 0 0 7 < b)) : ∃ k : Nat, b = nI k ∧ 1 ≤ k ∧ k ≤ n := by
  rw [hn, Int32.lt_iff_toInt_lt, Int32.lt_iff_toInt_lt, nI_toInt (by omega), jz_1] at h
  exact ⟨b.toNatClampNeg, (jz_nI (by omega)).symm, by rw [jz_cl]; omega, by rw [jz_cl]; omega⟩
section CA
variable {Z : jx_Sc} {d : Nat} {K : jy_K} {f : jy_I} {g : jy_R} {w : jx_W} {cc n : Nat}
theorem cc_mix {k a b : Int32} : jx_m Z (d + 1) 7 [.inl k, .inl a, .inl b] w = some (some (.inl (jq_mix k a b)), w) := by
  simp only [e_CC_mix, x_CC_mix_0, x_CC_mix_1, x_CC_mix_2, x_CC_mix_3, x_CC_mix_5, x_CC_mix_6, x_CC_mix_7, x_CC_mix_8, x_CC_mix_9, x_CC_mix_11, x_CC_mix_12, x_CC_mix_13, x_CC_mix_14, x_CC_mix_15, x_CC_mix_17, x_CC_mix_18, x_CC_mix_19, x_CC_mix_20, x_CC_mix_21, x_CC_mix_23, x_CC_mix_24, x_CC_mix_25]
  rfl
theorem cc_join {l r v : Int32} : jx_m Z (d + 2) 11 [.inl l, .inl r, .inl v] w = some (some (.inl (jq_over l r v)), w) := by
  simp only [e_CC_join, x_CC_join_0, x_CC_join_1, x_CC_join_4, x_CC_join_5, x_CC_join_8, x_CC_join_9, x_CC_join_12, x_CC_join_13, x_CC_join_14, x_CC_join_15, x_CC_join_18, cc_mix, Option.bind_some, Option.toList_some, Option.toList_none, List.cons_append, List.nil_append]
  unfold jq_over
  by_cases h1 : l = 0 <;> by_cases h2 : r = 0 <;> simp [h1, h2]
theorem cc_climb {a b p v : Int32} : jx_m Z (d + 3) 62 [.inl a, .inl b, .inl p, .inl v] w = some (some (.inl (jq_over a b v)), w) := by
  simp only [e_CC_climb, x_CC_climb_0, x_CC_climb_1, x_CC_climb_2, x_CC_climb_3, x_CC_climb_6, x_CC_climb_7, x_CC_climb_8, x_CC_climb_9, x_CC_climb_12, x_CC_climb_15, x_CC_climb_16, x_CC_climb_17, x_CC_climb_18, x_CC_climb_21, cc_join, Option.bind_some, Option.toList_some, Option.toList_none, List.cons_append, List.nil_append]
  by_cases h1 : p &&& 1 = 0
  · simp [h1]
  · simp [h1, jq_over_cm b a]
theorem cc_isUser {u : Int32} : jx_m Z (d + 1) 2 [.inl u] w = some (some (.inl (if u < 0 ∨ 4 ≤ u then 0 else 1)), w) := by
  simp only [e_CC_isUser, x_CC_isUser_0, x_CC_isUser_1, x_CC_isUser_4, x_CC_isUser_5, x_CC_isUser_6, x_CC_isUser_9, x_CC_isUser_10, x_CC_isUser_13, x_CC_isUser_14]
  by_cases h1 : u < 0 <;> by_cases h2 : 4 ≤ u <;> simp [h1, h2]
theorem cc_user_y {u : Nat} (hu : u < 4) : jx_m Z (d + 1) 2 [.inl (nI u)] w = some (some (.inl 1), w) := by
  have h1 : ¬ nI u < 0 := nI_pos (by omega)
  have h2 : ¬ (4 : Int32) ≤ nI u := nI_ge (b := 4) hu (by omega)
  rw [cc_isUser]
  simp [h1, h2]
theorem cc_done {x : Int32} : jx_m Z (d + 1) 50 [.inl x] w = some (some (.inl (if x = 0 then 1 else 0)), w) := by
  simp only [e_CC_countIfDone, x_CC_countIfDone_0, x_CC_countIfDone_1, x_CC_countIfDone_4, x_CC_countIfDone_5, x_CC_countIfDone_8, x_CC_countIfDone_9]
  by_cases h : x = 0 <;> simp [h]
theorem cc_sig (h : jl_C K g cc n) {s c p t : Int32} : jx_m Z (d + 2) 15 [.inr (some (K.2.1 0 0)), .inl s, .inl c, .inl p, .inl t] (jy_w K f g) = some (some (.inl (jq_sig (f 0 0 0) s c p t)), jy_w K f g) := by
  simp only [e_CC_signature, x_CC_signature_0, x_CC_signature_1, x_CC_signature_2, x_CC_signature_5, x_CC_signature_6, x_CC_signature_7, x_CC_signature_10, x_CC_signature_11, x_CC_signature_13, x_CC_signature_14, x_CC_signature_15, x_CC_signature_17, x_CC_signature_18, x_CC_signature_21, x_CC_signature_22, x_CC_signature_23, x_CC_signature_24, cu_is h, cu_g0 h, cu_g1 h, cu_g2 h, cu_g3 h, cu_g4 h, cu_g5 h, cu_g6 h, cu_g7 h, cu_g8 h, cu_g9 h, cu_g10 h, cu_s5 h, cu_s7 h, cu_s10 h, cu_n1 h, cu_m1 h, cu_n2 h, cu_m2 h, cu_n3 h, cu_n4 h, cu_n5 h, cu_n6 h, cc_mix, Option.bind_some, Option.toList_some, Option.toList_none, List.cons_append, List.nil_append]
  rfl
theorem cc_pay (h : jl_C K g cc n) {u : Nat} (hu : u < 4) {x : Int32} : jx_m Z (d + 2) 5 [.inr (some (K.2.1 0 0)), .inl (nI u), .inl x] (jy_w K f g) = some (none, jy_w K (jy_up f 1 0 u (f 1 0 u + x)) g) := by
  have e : ¬ (1 : Int32) = 0 := by decide
  simp only [e_CC_pay, x_CC_pay_0, x_CC_pay_1, x_CC_pay_4, x_CC_pay_7, x_CC_pay_8, x_CC_pay_11, x_CC_pay_12, x_CC_pay_13, x_CC_pay_14, x_CC_pay_15, x_CC_pay_16, x_CC_pay_17, cu_is h, cu_g0 h, cu_g1 h, cu_g2 h, cu_g3 h, cu_g4 h, cu_g5 h, cu_g6 h, cu_g7 h, cu_g8 h, cu_g9 h, cu_g10 h, cu_s5 h, cu_s7 h, cu_s10 h, cu_n1 h, cu_m1 h, cu_n2 h, cu_m2 h, cu_n3 h, cu_n4 h, cu_n5 h, cu_n6 h, cc_user_y hu, hu, e, Option.bind_some, Option.toList_some, Option.toList_none, List.cons_append, List.nil_append, ↓reduceIte]
theorem cc_coinAt_y (h : jl_C K g cc n) (hn : jn_C f cc n) {c : Nat} (hc : c < cc) : jx_m Z (d + 1) 17 [.inr (some (K.2.1 0 0)), .inl (nI c)] (jy_w K f g) = some (some (.inr (some (K.2.1 7 c))), jy_w K f g) := by
  have h8 := hn.2.2.1
  have hc8 : c < 8 := by omega
  have e1 : ¬ nI c < 0 := nI_pos (by omega)
  have e2 : ¬ nI cc ≤ nI c := nI_ge hc (by omega)
  have e3 : ¬ (8 : Int32) ≤ nI c := nI_ge (b := 8) hc8 (by omega)
  simp only [e_CC_coinAt, x_CC_coinAt_0, x_CC_coinAt_1, x_CC_coinAt_4, x_CC_coinAt_5, x_CC_coinAt_6, x_CC_coinAt_9, x_CC_coinAt_12, x_CC_coinAt_13, x_CC_coinAt_15, x_CC_coinAt_18, x_CC_coinAt_19, x_CC_coinAt_22, x_CC_coinAt_23, x_CC_coinAt_24, x_CC_coinAt_27, x_CC_coinAt_28, cu_is h, cu_g0 h, cu_g1 h, cu_g2 h, cu_g3 h, cu_g4 h, cu_g5 h, cu_g6 h, cu_g7 h, cu_g8 h, cu_g9 h, cu_g10 h, cu_s5 h, cu_s7 h, cu_s10 h, cu_n1 h, cu_m1 h, cu_n2 h, cu_m2 h, cu_n3 h, cu_n4 h, cu_n5 h, cu_n6 h, hn.1, hc8, e1, e2, e3, (h.2.2.1 c hc).2.2.2.1, Option.bind_some, Option.toList_some, Option.toList_none, List.cons_append, List.nil_append, ↓reduceIte]
theorem cc_coinAt_n (h : jl_C K g cc n) {c : Int32} (hc : c < 0 ∨ f 0 0 5 ≤ c) : jx_m Z (d + 1) 17 [.inr (some (K.2.1 0 0)), .inl c] (jy_w K f g) = some (some (.inr none), jy_w K f g) := by
  by_cases e1 : c < 0
  · simp only [e_CC_coinAt, x_CC_coinAt_0, x_CC_coinAt_1, x_CC_coinAt_4, x_CC_coinAt_5, x_CC_coinAt_6, x_CC_coinAt_9, x_CC_coinAt_12, x_CC_coinAt_13, x_CC_coinAt_15, x_CC_coinAt_18, x_CC_coinAt_19, x_CC_coinAt_22, x_CC_coinAt_23, x_CC_coinAt_24, x_CC_coinAt_27, x_CC_coinAt_28, e1, ↓reduceIte]
  · have e2 : f 0 0 5 ≤ c := hc.resolve_left e1
    simp only [e_CC_coinAt, x_CC_coinAt_0, x_CC_coinAt_1, x_CC_coinAt_4, x_CC_coinAt_5, x_CC_coinAt_6, x_CC_coinAt_9, x_CC_coinAt_12, x_CC_coinAt_13, x_CC_coinAt_15, x_CC_coinAt_18, x_CC_coinAt_19, x_CC_coinAt_22, x_CC_coinAt_23, x_CC_coinAt_24, x_CC_coinAt_27, x_CC_coinAt_28, cu_is h, cu_g0 h, cu_g1 h, cu_g2 h, cu_g3 h, cu_g4 h, cu_g5 h, cu_g6 h, cu_g7 h, cu_g8 h, cu_g9 h, cu_g10 h, cu_s5 h, cu_s7 h, cu_s10 h, cu_n1 h, cu_m1 h, cu_n2 h, cu_m2 h, cu_n3 h, cu_n4 h, cu_n5 h, cu_n6 h, e1, e2, Option.bind_some, Option.toList_some, Option.toList_none, List.cons_append, List.nil_append, ↓reduceIte]
theorem cc_exitOf_y (h : jl_C K g cc n) (hn : jn_C f cc n) {c : Nat} (hc : c < cc) : jx_m Z (d + 2) 34 [.inr (some (K.2.1 0 0)), .inl (nI c)] (jy_w K f g) = some (some (.inr (some (K.2.1 8 c))), jy_w K f g) := by
  have hcl := h.2.2.1 c hc
  simp only [e_CC_exitOf, x_CC_exitOf_0, x_CC_exitOf_1, x_CC_exitOf_2, x_CC_exitOf_5, x_CC_exitOf_6, x_CC_exitOf_7, x_CC_exitOf_10, x_CC_exitOf_11, x_CC_exitOf_14, x_CC_exitOf_15, x_CC_exitOf_18, cu_is h, cu_g0 h, cu_g1 h, cu_g2 h, cu_g3 h, cu_g4 h, cu_g5 h, cu_g6 h, cu_g7 h, cu_g8 h, cu_g9 h, cu_g10 h, cu_s5 h, cu_s7 h, cu_s10 h, cu_n1 h, cu_m1 h, cu_n2 h, cu_m2 h, cu_n3 h, cu_n4 h, cu_n5 h, cu_n6 h, cc_coinAt_y h hn hc, cu_c0 hcl, cu_c1 hcl, cu_c2 hcl, cu_e0 hcl, cu_e1 hcl, cu_e2 hcl, cu_e3 hcl, cu_e4 hcl, cu_e5 hcl, cu_eis hcl, cu_n9 hcl, cu_l9 hcl, Option.bind_some, Option.toList_some, Option.toList_none, List.cons_append, List.nil_append, ↓reduceIte, reduceCtorEq]
theorem cc_exitOf_n (h : jl_C K g cc n) {c : Int32} (hc : c < 0 ∨ f 0 0 5 ≤ c) : jx_m Z (d + 2) 34 [.inr (some (K.2.1 0 0)), .inl c] (jy_w K f g) = some (some (.inr none), jy_w K f g) := by
  simp only [e_CC_exitOf, x_CC_exitOf_0, x_CC_exitOf_1, x_CC_exitOf_2, x_CC_exitOf_5, x_CC_exitOf_6, x_CC_exitOf_7, x_CC_exitOf_10, x_CC_exitOf_11, x_CC_exitOf_14, x_CC_exitOf_15, x_CC_exitOf_18, cu_is h, cu_g0 h, cu_g1 h, cu_g2 h, cu_g3 h, cu_g4 h, cu_g5 h, cu_g6 h, cu_g7 h, cu_g8 h, cu_g9 h, cu_g10 h, cu_s5 h, cu_s7 h, cu_s10 h, cu_n1 h, cu_m1 h, cu_n2 h, cu_m2 h, cu_n3 h, cu_n4 h, cu_n5 h, cu_n6 h, cc_coinAt_n h hc, Option.bind_some, Option.toList_some, Option.toList_none, List.cons_append, List.nil_append, ↓reduceIte]
theorem cc_blockAt_y (h : jl_C K g cc n) (hn : jn_C f cc n) {b : Nat} (h1 : 1 ≤ b) (h2 : b ≤ n) : jx_m Z (d + 1) 22 [.inr (some (K.2.1 0 0)), .inl (nI b)] (jy_w K f g) = some (some (.inr (some (K.2.1 10 b))), jy_w K f g) := by
  have h24 := hn.2.2.2
  have hb : b < 25 := by omega
  have e1 : ¬ nI b < 1 := nI_nlt (b := 1) h1 (by omega)
  have e2 : ¬ nI n < nI b := nI_nlt h2 (by omega)
  have e3 : ¬ (24 : Int32) < nI b := nI_nlt (a := 24) (b := b) (by omega) (by omega)
  simp only [e_CC_blockAt, x_CC_blockAt_0, x_CC_blockAt_1, x_CC_blockAt_2, x_CC_blockAt_5, x_CC_blockAt_6, x_CC_blockAt_7, x_CC_blockAt_10, x_CC_blockAt_13, x_CC_blockAt_14, x_CC_blockAt_16, x_CC_blockAt_19, x_CC_blockAt_20, x_CC_blockAt_23, x_CC_blockAt_24, x_CC_blockAt_25, x_CC_blockAt_28, x_CC_blockAt_29, cu_is h, cu_g0 h, cu_g1 h, cu_g2 h, cu_g3 h, cu_g4 h, cu_g5 h, cu_g6 h, cu_g7 h, cu_g8 h, cu_g9 h, cu_g10 h, cu_s5 h, cu_s7 h, cu_s10 h, cu_n1 h, cu_m1 h, cu_n2 h, cu_m2 h, cu_n3 h, cu_n4 h, cu_n5 h, cu_n6 h, hn.2.1, hb, e1, e2, e3, (h.2.2.2.1 b h1 h2).2.2.2.1, Option.bind_some, Option.toList_some, Option.toList_none, List.cons_append, List.nil_append, ↓reduceIte]
theorem cc_blockAt_n (h : jl_C K g cc n) {b : Int32} (hb : b < 1 ∨ f 0 0 7 < b) : jx_m Z (d + 1) 22 [.inr (some (K.2.1 0 0)), .inl b] (jy_w K f g) = some (some (.inr none), jy_w K f g) := by
  by_cases e1 : b < 1
  · simp only [e_CC_blockAt, x_CC_blockAt_0, x_CC_blockAt_1, x_CC_blockAt_2, x_CC_blockAt_5, x_CC_blockAt_6, x_CC_blockAt_7, x_CC_blockAt_10, x_CC_blockAt_13, x_CC_blockAt_14, x_CC_blockAt_16, x_CC_blockAt_19, x_CC_blockAt_20, x_CC_blockAt_23, x_CC_blockAt_24, x_CC_blockAt_25, x_CC_blockAt_28, x_CC_blockAt_29, e1, ↓reduceIte]
  · have e2 : f 0 0 7 < b := hb.resolve_left e1
    simp only [e_CC_blockAt, x_CC_blockAt_0, x_CC_blockAt_1, x_CC_blockAt_2, x_CC_blockAt_5, x_CC_blockAt_6, x_CC_blockAt_7, x_CC_blockAt_10, x_CC_blockAt_13, x_CC_blockAt_14, x_CC_blockAt_16, x_CC_blockAt_19, x_CC_blockAt_20, x_CC_blockAt_23, x_CC_blockAt_24, x_CC_blockAt_25, x_CC_blockAt_28, x_CC_blockAt_29, cu_is h, cu_g0 h, cu_g1 h, cu_g2 h, cu_g3 h, cu_g4 h, cu_g5 h, cu_g6 h, cu_g7 h, cu_g8 h, cu_g9 h, cu_g10 h, cu_s5 h, cu_s7 h, cu_s10 h, cu_n1 h, cu_m1 h, cu_n2 h, cu_m2 h, cu_n3 h, cu_n4 h, cu_n5 h, cu_n6 h, e1, e2, Option.bind_some, Option.toList_some, Option.toList_none, List.cons_append, List.nil_append, ↓reduceIte]
theorem cc_entryIn (h : jl_C K g cc n) (hn : jn_C f cc n) {b : Int32} {c : Nat} (hc : c < 8) : jx_m Z (d + 2) 21 [.inr (some (K.2.1 0 0)), .inl b, .inl (nI c)] (jy_w K f g) = some (some (.inr (ve_r f g b c)), jy_w K f g) := by
  unfold ve_r
  by_cases hb : b < 1 ∨ f 0 0 7 < b
  · simp only [e_CC_entryIn, x_CC_entryIn_0, x_CC_entryIn_1, x_CC_entryIn_2, x_CC_entryIn_5, x_CC_entryIn_6, x_CC_entryIn_7, x_CC_entryIn_10, x_CC_entryIn_11, x_CC_entryIn_14, x_CC_entryIn_15, x_CC_entryIn_17, x_CC_entryIn_20, x_CC_entryIn_21, x_CC_entryIn_24, x_CC_entryIn_25, x_CC_entryIn_28, x_CC_entryIn_29, x_CC_entryIn_30, cu_is h, cu_g0 h, cu_g1 h, cu_g2 h, cu_g3 h, cu_g4 h, cu_g5 h, cu_g6 h, cu_g7 h, cu_g8 h, cu_g9 h, cu_g10 h, cu_s5 h, cu_s7 h, cu_s10 h, cu_n1 h, cu_m1 h, cu_n2 h, cu_m2 h, cu_n3 h, cu_n4 h, cu_n5 h, cu_n6 h, cc_blockAt_n h hb, hb, Option.bind_some, Option.toList_some, Option.toList_none, List.cons_append, List.nil_append, ↓reduceIte]
  · obtain ⟨k, rfl, h1, h2⟩ := jz_blkC hn.2.1 hn.2.2.2 hb
    have h24 := hn.2.2.2
    have e1 : ¬ nI c < 0 := nI_pos (by omega)
    have e3 : nI c < 8 := nI_lt (b := 8) hc (by omega)
    have ek : (nI k).toNatClampNeg = k := nI_clamp (by omega)
    have hbl := h.2.2.2.1 k h1 h2
    simp only [e_CC_entryIn, x_CC_entryIn_0, x_CC_entryIn_1, x_CC_entryIn_2, x_CC_entryIn_5, x_CC_entryIn_6, x_CC_entryIn_7, x_CC_entryIn_10, x_CC_entryIn_11, x_CC_entryIn_14, x_CC_entryIn_15, x_CC_entryIn_17, x_CC_entryIn_20, x_CC_entryIn_21, x_CC_entryIn_24, x_CC_entryIn_25, x_CC_entryIn_28, x_CC_entryIn_29, x_CC_entryIn_30, cu_is h, cu_g0 h, cu_g1 h, cu_g2 h, cu_g3 h, cu_g4 h, cu_g5 h, cu_g6 h, cu_g7 h, cu_g8 h, cu_g9 h, cu_g10 h, cu_s5 h, cu_s7 h, cu_s10 h, cu_n1 h, cu_m1 h, cu_n2 h, cu_m2 h, cu_n3 h, cu_n4 h, cu_n5 h, cu_n6 h, cc_blockAt_y h hn h1 h2, cu_b0 hbl, cu_b1 hbl, cu_b2 hbl, cu_bis hbl, cu_n11 hbl, cu_n12 hbl, hb, hc, e1, e3, ek, Option.bind_some, Option.toList_some, Option.toList_none, List.cons_append, List.nil_append, ↓reduceIte, reduceCtorEq]
theorem ve_ok (h : jl_C K g cc n) (hn : jn_C f cc n) {b : Int32} {c a : Nat} (hc : c < 8) (ha : ve_r f g b c = some a) : K.1 a = some (13, a) := by
  unfold ve_r at ha
  split at ha
  · cases ha
  · rename_i hb
    obtain ⟨k, rfl, h1, h2⟩ := jz_blkC hn.2.1 hn.2.2.2 hb
    have h24 := hn.2.2.2
    rw [nI_clamp (by omega)] at ha
    exact h.2.2.2.2.1 k c h1 h2 hc a ha
theorem cc_held (h : jl_C K g cc n) {u c : Nat} (hu : u < 4) (hc : c < 8) : jx_m Z (d + 2) 13 [.inr (some (K.2.1 0 0)), .inl (nI u), .inl (nI c)] (jy_w K f g) = some (some (.inl (f 2 0 (8 * u + c))), jy_w K f g) := by
  have e : ¬ (1 : Int32) = 0 := by decide
  have e1 : ¬ nI c < 0 := nI_pos (by omega)
  have e3 : ¬ (8 : Int32) ≤ nI c := nI_ge (b := 8) hc (by omega)
  have hs : 8 * u + c < 32 := by omega
  simp only [e_CC_heldSince, x_CC_heldSince_0, x_CC_heldSince_1, x_CC_heldSince_4, x_CC_heldSince_7, x_CC_heldSince_8, x_CC_heldSince_11, x_CC_heldSince_12, x_CC_heldSince_14, x_CC_heldSince_17, x_CC_heldSince_18, x_CC_heldSince_21, x_CC_heldSince_22, x_CC_heldSince_24, x_CC_heldSince_25, x_CC_heldSince_26, x_CC_heldSince_27, x_CC_heldSince_28, x_CC_heldSince_31, x_CC_heldSince_32, cu_is h, cu_g0 h, cu_g1 h, cu_g2 h, cu_g3 h, cu_g4 h, cu_g5 h, cu_g6 h, cu_g7 h, cu_g8 h, cu_g9 h, cu_g10 h, cu_s5 h, cu_s7 h, cu_s10 h, cu_n1 h, cu_m1 h, cu_n2 h, cu_m2 h, cu_n3 h, cu_n4 h, cu_n5 h, cu_n6 h, cc_user_y hu, e, e1, e3, jz_u8, hs, Option.bind_some, Option.toList_some, Option.toList_none, List.cons_append, List.nil_append, ↓reduceIte]
theorem cc_held_n {r : Option Nat} {u c : Int32} (hc : c < 0 ∨ 8 ≤ c) : jx_m Z (d + 2) 13 [.inr r, .inl u, .inl c] w = some (some (.inl 0), w) := by
  simp only [e_CC_heldSince, x_CC_heldSince_0, x_CC_heldSince_1, x_CC_heldSince_4, x_CC_heldSince_7, x_CC_heldSince_8, x_CC_heldSince_11, x_CC_heldSince_12, x_CC_heldSince_14, x_CC_heldSince_31, x_CC_heldSince_32, cc_isUser, Option.bind_some, Option.toList_some, Option.toList_none, List.cons_append, List.nil_append]
  by_cases e1 : c < 0
  · by_cases e2 : u < 0 ∨ 4 ≤ u <;> simp [e1, e2]
  · have e3 := hc.resolve_left e1
    by_cases e2 : u < 0 ∨ 4 ≤ u <;> simp [e1, e2, e3]
theorem cc_good (h : jl_C K g cc n) (hn : jn_C f cc n) {b : Int32} {c : Nat} (hc : c < 8) : jx_m Z (d + 3) 42 [.inr (some (K.2.1 0 0)), .inl b, .inl (nI c)] (jy_w K f g) = some (some (.inl (jq_b (jq_gd (vc_E f g) b c))), jy_w K f g) := by
  unfold jq_gd vc_E
  cases hr : ve_r f g b c with
  | none => simp only [e_CC_hasGoodEntry, x_CC_hasGoodEntry_0, x_CC_hasGoodEntry_1, x_CC_hasGoodEntry_2, x_CC_hasGoodEntry_3, x_CC_hasGoodEntry_6, x_CC_hasGoodEntry_7, x_CC_hasGoodEntry_8, x_CC_hasGoodEntry_11, x_CC_hasGoodEntry_12, x_CC_hasGoodEntry_15, x_CC_hasGoodEntry_18, x_CC_hasGoodEntry_19, x_CC_hasGoodEntry_22, x_CC_hasGoodEntry_23, cu_is h, cu_g0 h, cu_g1 h, cu_g2 h, cu_g3 h, cu_g4 h, cu_g5 h, cu_g6 h, cu_g7 h, cu_g8 h, cu_g9 h, cu_g10 h, cu_s5 h, cu_s7 h, cu_s10 h, cu_n1 h, cu_m1 h, cu_n2 h, cu_m2 h, cu_n3 h, cu_n4 h, cu_n5 h, cu_n6 h, cc_entryIn h hn hc, hr, Option.bind_some, Option.toList_some, Option.toList_none, List.cons_append, List.nil_append, ↓reduceIte, Option.map_none, jq_b]; simp
  | some a =>
    have ha := ve_ok h hn hc hr
    simp only [e_CC_hasGoodEntry, x_CC_hasGoodEntry_0, x_CC_hasGoodEntry_1, x_CC_hasGoodEntry_2, x_CC_hasGoodEntry_3, x_CC_hasGoodEntry_6, x_CC_hasGoodEntry_7, x_CC_hasGoodEntry_8, x_CC_hasGoodEntry_11, x_CC_hasGoodEntry_12, x_CC_hasGoodEntry_15, x_CC_hasGoodEntry_18, x_CC_hasGoodEntry_19, x_CC_hasGoodEntry_22, x_CC_hasGoodEntry_23, cu_is h, cu_g0 h, cu_g1 h, cu_g2 h, cu_g3 h, cu_g4 h, cu_g5 h, cu_g6 h, cu_g7 h, cu_g8 h, cu_g9 h, cu_g10 h, cu_s5 h, cu_s7 h, cu_s10 h, cu_n1 h, cu_m1 h, cu_n2 h, cu_m2 h, cu_n3 h, cu_n4 h, cu_n5 h, cu_n6 h, cc_entryIn h hn hc, hr, cu_v h.1 ha (show 4 < 6 by decide), Option.bind_some, Option.toList_some, Option.toList_none, List.cons_append, List.nil_append, ↓reduceIte, reduceCtorEq, Option.map_some, vc_t, jq_b]
    by_cases e : f 13 a 4 = 0 <;> simp [e]
theorem cc_spends (h : jl_C K g cc n) (hn : jn_C f cc n) {b a : Int32} {c : Nat} (hc : c < 8) : jx_m Z (d + 3) 28 [.inr (some (K.2.1 0 0)), .inl (nI c), .inl b, .inl a] (jy_w K f g) = some (some (.inl (jq_b (jq_sp (vc_E f g) c b a))), jy_w K f g) := by
  unfold jq_sp vc_E
  cases hr : ve_r f g b c with
  | none =>
    simp only [e_CC_spends, x_CC_spends_0, x_CC_spends_1, x_CC_spends_2, x_CC_spends_3, x_CC_spends_6, x_CC_spends_8, x_CC_spends_9, x_CC_spends_10, x_CC_spends_11, x_CC_spends_14, x_CC_spends_16, x_CC_spends_18, x_CC_spends_21, x_CC_spends_23, x_CC_spends_26, x_CC_spends_28, x_CC_spends_31, x_CC_spends_34, x_CC_spends_35, x_CC_spends_36, x_CC_spends_38, x_CC_spends_41, x_CC_spends_44, x_CC_spends_46, x_CC_spends_49, x_CC_spends_50, x_CC_spends_53, x_CC_spends_54, x_CC_spends_55, x_CC_spends_58, x_CC_spends_60, x_CC_spends_63, x_CC_spends_66, x_CC_spends_68, x_CC_spends_71, x_CC_spends_73, x_CC_spends_76, x_CC_spends_79, x_CC_spends_80, x_CC_spends_83, x_CC_spends_84, cu_is h, cu_g0 h, cu_g1 h, cu_g2 h, cu_g3 h, cu_g4 h, cu_g5 h, cu_g6 h, cu_g7 h, cu_g8 h, cu_g9 h, cu_g10 h, cu_s5 h, cu_s7 h, cu_s10 h, cu_n1 h, cu_m1 h, cu_n2 h, cu_m2 h, cu_n3 h, cu_n4 h, cu_n5 h, cu_n6 h, cc_entryIn h hn hc, hr, Option.bind_some, Option.toList_some, Option.toList_none, List.cons_append, List.nil_append, ↓reduceIte, Option.map_none, jq_b]
    simp
  | some p =>
    have hp := ve_ok h hn hc hr
    cases hq : ve_r f g a c with
    | none =>
      simp only [e_CC_spends, x_CC_spends_0, x_CC_spends_1, x_CC_spends_2, x_CC_spends_3, x_CC_spends_6, x_CC_spends_8, x_CC_spends_9, x_CC_spends_10, x_CC_spends_11, x_CC_spends_14, x_CC_spends_16, x_CC_spends_18, x_CC_spends_21, x_CC_spends_23, x_CC_spends_26, x_CC_spends_28, x_CC_spends_31, x_CC_spends_34, x_CC_spends_35, x_CC_spends_36, x_CC_spends_38, x_CC_spends_41, x_CC_spends_44, x_CC_spends_46, x_CC_spends_49, x_CC_spends_50, x_CC_spends_53, x_CC_spends_54, x_CC_spends_55, x_CC_spends_58, x_CC_spends_60, x_CC_spends_63, x_CC_spends_66, x_CC_spends_68, x_CC_spends_71, x_CC_spends_73, x_CC_spends_76, x_CC_spends_79, x_CC_spends_80, x_CC_spends_83, x_CC_spends_84, cu_is h, cu_g0 h, cu_g1 h, cu_g2 h, cu_g3 h, cu_g4 h, cu_g5 h, cu_g6 h, cu_g7 h, cu_g8 h, cu_g9 h, cu_g10 h, cu_s5 h, cu_s7 h, cu_s10 h, cu_n1 h, cu_m1 h, cu_n2 h, cu_m2 h, cu_n3 h, cu_n4 h, cu_n5 h, cu_n6 h, cc_entryIn h hn hc, hr, hq, Option.bind_some, Option.toList_some, Option.toList_none, List.cons_append, List.nil_append, ↓reduceIte, Option.map_none, jq_b, reduceCtorEq]
      simp
    | some q =>
      have hqq := ve_ok h hn hc hq
      simp only [e_CC_spends, x_CC_spends_0, x_CC_spends_1, x_CC_spends_2, x_CC_spends_3, x_CC_spends_6, x_CC_spends_8, x_CC_spends_9, x_CC_spends_10, x_CC_spends_11, x_CC_spends_14, x_CC_spends_16, x_CC_spends_18, x_CC_spends_21, x_CC_spends_23, x_CC_spends_26, x_CC_spends_28, x_CC_spends_31, x_CC_spends_34, x_CC_spends_35, x_CC_spends_36, x_CC_spends_38, x_CC_spends_41, x_CC_spends_44, x_CC_spends_46, x_CC_spends_49, x_CC_spends_50, x_CC_spends_53, x_CC_spends_54, x_CC_spends_55, x_CC_spends_58, x_CC_spends_60, x_CC_spends_63, x_CC_spends_66, x_CC_spends_68, x_CC_spends_71, x_CC_spends_73, x_CC_spends_76, x_CC_spends_79, x_CC_spends_80, x_CC_spends_83, x_CC_spends_84, cu_is h, cu_g0 h, cu_g1 h, cu_g2 h, cu_g3 h, cu_g4 h, cu_g5 h, cu_g6 h, cu_g7 h, cu_g8 h, cu_g9 h, cu_g10 h, cu_s5 h, cu_s7 h, cu_s10 h, cu_n1 h, cu_m1 h, cu_n2 h, cu_m2 h, cu_n3 h, cu_n4 h, cu_n5 h, cu_n6 h, cc_entryIn h hn hc, hr, hq, cu_v h.1 hp (show 0 < 6 by decide), cu_v h.1 hp (show 1 < 6 by decide), cu_v h.1 hp (show 2 < 6 by decide), cu_v h.1 hp (show 4 < 6 by decide), cu_v h.1 hqq (show 3 < 6 by decide), cu_v h.1 hqq (show 4 < 6 by decide), Option.bind_some, Option.toList_some, Option.toList_none, List.cons_append, List.nil_append, ↓reduceIte, reduceCtorEq, Option.map_some, vc_t, jq_b]
      by_cases e1 : f 13 p 0 = 0
      · by_cases e2 : f 13 p 4 = 0
        · simp [e1, e2]
        · by_cases e3 : f 13 p 1 = a
          · by_cases e4 : b ≤ a
            · have e4' : ¬ a < b := Int32.not_lt.mpr e4
              simp [e1, e2, e3, e4, e4']
            · have e4' : a < b := Int32.not_le.mp e4
              by_cases e5 : f 13 q 4 = 0
              · simp [e1, e2, e3, e4, e4', e5]
              · by_cases e6 : f 13 q 3 = f 13 p 2 <;> simp [e1, e2, e3, e4, e4', e5, e6]
          · simp [e1, e2, e3]
      · simp [e1]
end CA
