/-! the class: loops that read; exits -/
def jq_ld (P : Nat → Bool) : Nat → Nat
  | 0 => 0
  | k + 1 => if P (k + 1) = true then k + 1 else jq_ld P k
def jq_an (Q : Nat → Bool) : Nat → Nat → Bool
  | 0, _ => false
  | m + 1, k => if Q k = true then true else jq_an Q m (k + 1)
def jq_chn (has : Nat → Bool) (sp : Nat → Nat → Bool) : Nat → Nat → Nat → Bool
  | 0, _, _ => true
  | m + 1, k, a => if a < k ∧ has k = true then (if sp k a = true then jq_chn has sp m (k + 1) k else false) else jq_chn has sp m (k + 1) a
def vc_has (f : jy_I) (g : jy_R) (c k : Nat) : Bool := (ve_r f g (nI k) c).isSome
def vc_nx (f : jy_I) (g : jy_R) (b : Int32) (c k : Nat) : Bool := decide (b < nI k) && vc_has f g c k
def vc_wh (f : jy_I) (n : Nat) (b : Int32) (k : Nat) : Bool := decide (b < nI k) && (decide (k ≤ n) && decide (f 10 k 2 = 0))
def vc_std (f : jy_I) (c b : Nat) : Bool := decide (¬ f 9 c b ≤ 0)
section CB
variable {Z : jx_Sc} {d : Nat} {K : jy_K} {f : jy_I} {g : jy_R} {w : jx_W} {cc n : Nat}
theorem cc_fnd (h : jl_C K g cc n) (hn : jn_C f cc n) {b : Int32} {c a : Nat} (hc : c < 8) (ha : K.1 a = some (13, a)) : jx_m Z (d + 4) 30 [.inr (some (K.2.1 0 0)), .inl (nI c), .inl b, .inr (some a)] (jy_w K f g) = some (some (.inl (jq_b (decide (¬ f 13 a 0 = 0) || jq_sp (vc_E f g) c b (f 13 a 1)))), jy_w K f g) := by
  have b1 : ¬ jq_b true = 0 := by decide
  have b0 : jq_b false = 0 := by decide
  simp only [e_CC_isFounded, x_CC_isFounded_0, x_CC_isFounded_1, x_CC_isFounded_4, x_CC_isFounded_7, x_CC_isFounded_8, x_CC_isFounded_9, x_CC_isFounded_10, x_CC_isFounded_11, x_CC_isFounded_14, x_CC_isFounded_17, x_CC_isFounded_20, x_CC_isFounded_21, x_CC_isFounded_24, x_CC_isFounded_25, cu_is h, cu_g0 h, cu_g1 h, cu_g2 h, cu_g3 h, cu_g4 h, cu_g5 h, cu_g6 h, cu_g7 h, cu_g8 h, cu_g9 h, cu_g10 h, cu_s5 h, cu_s7 h, cu_s10 h, cu_n1 h, cu_m1 h, cu_n2 h, cu_m2 h, cu_n3 h, cu_n4 h, cu_n5 h, cu_n6 h, cc_spends h hn hc, cu_v h.1 ha (show 0 < 6 by decide), cu_v h.1 ha (show 1 < 6 by decide), Option.bind_some, Option.toList_some, Option.toList_none, List.cons_append, List.nil_append, ↓reduceIte]
  by_cases e : f 13 a 0 = 0
  · cases e2 : jq_sp (vc_E f g) c b (f 13 a 1) <;> simp [e, b0, b1] <;> rfl
  · simp [e]
    rfl
theorem cc_next_l (h : jl_C K g cc n) (hn : jn_C f cc n) {b : Int32} {c : Nat} (hc : c < 8) : ∀ m k : Nat, 25 - k = m → k ≤ 25 → jx_run Z jX_CC_nextOf (jx_m Z (d + 2)) (2, [some (.inr (some (K.2.1 0 0))), some (.inl (nI c)), some (.inl b), some (.inl (nI k))], [], jy_w K f g) = some (some (.inl (nI (jq_fst (vc_nx f g b c) m k))), jy_w K f g) := by
  intro m
  induction m with
  | zero =>
    intro k hm hk
    have e : k = 25 := by omega
    subst e
    have h0 : (24 : Int32) < nI 25 := by decide
    rw [x_CC_nextOf_2]
    simp only [x_CC_nextOf_0, x_CC_nextOf_1, x_CC_nextOf_3, x_CC_nextOf_5, x_CC_nextOf_8, x_CC_nextOf_9, x_CC_nextOf_10, x_CC_nextOf_13, x_CC_nextOf_14, x_CC_nextOf_15, x_CC_nextOf_16, x_CC_nextOf_19, x_CC_nextOf_22, x_CC_nextOf_23, x_CC_nextOf_24, x_CC_nextOf_27, x_CC_nextOf_30, x_CC_nextOf_31, h0, ↓reduceIte]
    rfl
  | succ m ih =>
    intro k hm hk
    have h0 : ¬ (24 : Int32) < nI k := nI_nlt (a := 24) (b := k) (by omega) (by omega)
    have I := ih (k + 1) (by omega) (by omega)
    rw [x_CC_nextOf_2]
    simp only [x_CC_nextOf_0, x_CC_nextOf_1, x_CC_nextOf_3, x_CC_nextOf_5, x_CC_nextOf_8, x_CC_nextOf_9, x_CC_nextOf_10, x_CC_nextOf_13, x_CC_nextOf_14, x_CC_nextOf_15, x_CC_nextOf_16, x_CC_nextOf_19, x_CC_nextOf_22, x_CC_nextOf_23, x_CC_nextOf_24, x_CC_nextOf_27, x_CC_nextOf_30, x_CC_nextOf_31, cu_is h, cu_g0 h, cu_g1 h, cu_g2 h, cu_g3 h, cu_g4 h, cu_g5 h, cu_g6 h, cu_g7 h, cu_g8 h, cu_g9 h, cu_g10 h, cu_s5 h, cu_s7 h, cu_s10 h, cu_n1 h, cu_m1 h, cu_n2 h, cu_m2 h, cu_n3 h, cu_n4 h, cu_n5 h, cu_n6 h, cc_entryIn h hn hc, h0, jz_inc, Option.bind_some, Option.toList_some, Option.toList_none, List.cons_append, List.nil_append, ↓reduceIte]
    simp only [jq_fst]
    by_cases e1 : nI k ≤ b
    · have e1' : ¬ b < nI k := Int32.not_lt.mpr e1
      have e2 : vc_nx f g b c k = false := by simp [vc_nx, e1']
      simp only [e1, e2, ↓reduceIte, Bool.false_eq_true]
      exact I
    · have e1' : b < nI k := Int32.not_le.mp e1
      cases hr : ve_r f g (nI k) c with
      | none =>
        have e2 : vc_nx f g b c k = false := by simp [vc_nx, vc_has, hr]
        simp only [e1, e2, ↓reduceIte, Bool.false_eq_true]
        exact I
      | some a =>
        have e2 : vc_nx f g b c k = true := by simp [vc_nx, vc_has, hr, e1']
        simp only [e1, e2, ↓reduceIte, reduceCtorEq]
theorem cc_next (h : jl_C K g cc n) (hn : jn_C f cc n) {b : Int32} {c : Nat} (hc : c < 8) : jx_m Z (d + 3) 27 [.inr (some (K.2.1 0 0)), .inl (nI c), .inl b] (jy_w K f g) = some (some (.inl (nI (jq_fst (vc_nx f g b c) 24 1))), jy_w K f g) := by
  simp only [e_CC_nextOf, x_CC_nextOf_0, x_CC_nextOf_1, x_CC_nextOf_3, x_CC_nextOf_5, x_CC_nextOf_8, x_CC_nextOf_9, x_CC_nextOf_10, x_CC_nextOf_13, x_CC_nextOf_14, x_CC_nextOf_15, x_CC_nextOf_16, x_CC_nextOf_19, x_CC_nextOf_22, x_CC_nextOf_23, x_CC_nextOf_24, x_CC_nextOf_27, x_CC_nextOf_30, x_CC_nextOf_31]
  exact cc_next_l h hn hc 24 1 (by omega) (by omega)
theorem cc_last_l (h : jl_C K g cc n) (hn : jn_C f cc n) {c : Nat} (hc : c < 8) : ∀ k : Nat, k ≤ 24 → jx_run Z jX_CC_lastWith (jx_m Z (d + 2)) (3, [some (.inr (some (K.2.1 0 0))), some (.inl (nI c)), some (.inl (nI k))], [], jy_w K f g) = some (some (.inl (nI (jq_ld (vc_has f g c) k))), jy_w K f g) := by
  intro k
  induction k with
  | zero =>
    intro _
    have h0 : nI 0 < 1 := by decide
    rw [x_CC_lastWith_3]
    simp only [x_CC_lastWith_0, x_CC_lastWith_2, x_CC_lastWith_4, x_CC_lastWith_5, x_CC_lastWith_8, x_CC_lastWith_9, x_CC_lastWith_10, x_CC_lastWith_11, x_CC_lastWith_14, x_CC_lastWith_17, x_CC_lastWith_18, x_CC_lastWith_19, x_CC_lastWith_22, x_CC_lastWith_25, x_CC_lastWith_26, h0, ↓reduceIte]
    rfl
  | succ k ih =>
    intro hk
    have h0 : ¬ nI (k + 1) < 1 := nI_nlt (b := 1) (by omega) (by omega)
    have I := ih (by omega)
    rw [x_CC_lastWith_3]
    simp only [x_CC_lastWith_0, x_CC_lastWith_2, x_CC_lastWith_4, x_CC_lastWith_5, x_CC_lastWith_8, x_CC_lastWith_9, x_CC_lastWith_10, x_CC_lastWith_11, x_CC_lastWith_14, x_CC_lastWith_17, x_CC_lastWith_18, x_CC_lastWith_19, x_CC_lastWith_22, x_CC_lastWith_25, x_CC_lastWith_26, cu_is h, cu_g0 h, cu_g1 h, cu_g2 h, cu_g3 h, cu_g4 h, cu_g5 h, cu_g6 h, cu_g7 h, cu_g8 h, cu_g9 h, cu_g10 h, cu_s5 h, cu_s7 h, cu_s10 h, cu_n1 h, cu_m1 h, cu_n2 h, cu_m2 h, cu_n3 h, cu_n4 h, cu_n5 h, cu_n6 h, cc_entryIn h hn hc, h0, jz_dec, Option.bind_some, Option.toList_some, Option.toList_none, List.cons_append, List.nil_append, ↓reduceIte]
    simp only [jq_ld]
    cases hr : ve_r f g (nI (k + 1)) c with
    | none =>
      have e2 : vc_has f g c (k + 1) = false := by simp [vc_has, hr]
      simp only [e2, ↓reduceIte, Bool.false_eq_true]
      exact I
    | some a =>
      have e2 : vc_has f g c (k + 1) = true := by simp [vc_has, hr]
      simp only [e2, ↓reduceIte, reduceCtorEq]
theorem cc_last (h : jl_C K g cc n) (hn : jn_C f cc n) {c : Nat} (hc : c < 8) : jx_m Z (d + 3) 20 [.inr (some (K.2.1 0 0)), .inl (nI c)] (jy_w K f g) = some (some (.inl (nI (jq_ld (vc_has f g c) 24))), jy_w K f g) := by
  simp only [e_CC_lastWith, x_CC_lastWith_0, x_CC_lastWith_2, x_CC_lastWith_4, x_CC_lastWith_5, x_CC_lastWith_8, x_CC_lastWith_9, x_CC_lastWith_10, x_CC_lastWith_11, x_CC_lastWith_14, x_CC_lastWith_17, x_CC_lastWith_18, x_CC_lastWith_19, x_CC_lastWith_22, x_CC_lastWith_25, x_CC_lastWith_26]
  exact cc_last_l h hn hc 24 (by omega)
theorem cc_wh_l (h : jl_C K g cc n) (hn : jn_C f cc n) {b : Int32} : ∀ (m k : Nat) (l3 : Option jx_V), 25 - k = m → 1 ≤ k → k ≤ 25 → jx_run Z jX_CC_isWithheldAfter (jx_m Z (d + 1)) (2, [some (.inr (some (K.2.1 0 0))), some (.inl b), some (.inl (nI k)), l3], [], jy_w K f g) = some (some (.inl (jq_b (jq_an (vc_wh f n b) m k))), jy_w K f g) := by
  have h24 := hn.2.2.2
  intro m
  induction m with
  | zero =>
    intro k l3 hm h1 hk
    have e : k = 25 := by omega
    subst e
    have h0 : (24 : Int32) < nI 25 := by decide
    rw [x_CC_isWithheldAfter_2]
    simp only [x_CC_isWithheldAfter_0, x_CC_isWithheldAfter_1, x_CC_isWithheldAfter_3, x_CC_isWithheldAfter_5, x_CC_isWithheldAfter_8, x_CC_isWithheldAfter_9, x_CC_isWithheldAfter_10, x_CC_isWithheldAfter_13, x_CC_isWithheldAfter_14, x_CC_isWithheldAfter_15, x_CC_isWithheldAfter_16, x_CC_isWithheldAfter_19, x_CC_isWithheldAfter_20, x_CC_isWithheldAfter_23, x_CC_isWithheldAfter_24, x_CC_isWithheldAfter_27, x_CC_isWithheldAfter_30, x_CC_isWithheldAfter_31, x_CC_isWithheldAfter_32, x_CC_isWithheldAfter_35, x_CC_isWithheldAfter_38, x_CC_isWithheldAfter_39, h0, ↓reduceIte, jq_an, jq_b]
    simp
  | succ m ih =>
    intro k l3 hm h1 hk
    have h0 : ¬ (24 : Int32) < nI k := nI_nlt (a := 24) (b := k) (by omega) (by omega)
    have I := fun l3 => ih (k + 1) l3 (by omega) (by omega) (by omega)
    rw [x_CC_isWithheldAfter_2]
    by_cases hkn : k ≤ n
    · have hbl := h.2.2.2.1 k h1 hkn
      simp only [x_CC_isWithheldAfter_0, x_CC_isWithheldAfter_1, x_CC_isWithheldAfter_3, x_CC_isWithheldAfter_5, x_CC_isWithheldAfter_8, x_CC_isWithheldAfter_9, x_CC_isWithheldAfter_10, x_CC_isWithheldAfter_13, x_CC_isWithheldAfter_14, x_CC_isWithheldAfter_15, x_CC_isWithheldAfter_16, x_CC_isWithheldAfter_19, x_CC_isWithheldAfter_20, x_CC_isWithheldAfter_23, x_CC_isWithheldAfter_24, x_CC_isWithheldAfter_27, x_CC_isWithheldAfter_30, x_CC_isWithheldAfter_31, x_CC_isWithheldAfter_32, x_CC_isWithheldAfter_35, x_CC_isWithheldAfter_38, x_CC_isWithheldAfter_39, cu_is h, cu_g0 h, cu_g1 h, cu_g2 h, cu_g3 h, cu_g4 h, cu_g5 h, cu_g6 h, cu_g7 h, cu_g8 h, cu_g9 h, cu_g10 h, cu_s5 h, cu_s7 h, cu_s10 h, cu_n1 h, cu_m1 h, cu_n2 h, cu_m2 h, cu_n3 h, cu_n4 h, cu_n5 h, cu_n6 h, cc_blockAt_y h hn h1 hkn, cu_b0 hbl, cu_b1 hbl, cu_b2 hbl, cu_bis hbl, cu_n11 hbl, cu_n12 hbl, h0, jz_inc, Option.bind_some, Option.toList_some, Option.toList_none, List.cons_append, List.nil_append, ↓reduceIte, reduceCtorEq]
      simp only [jq_an]
      by_cases e1 : nI k ≤ b
      · have e1' : ¬ b < nI k := Int32.not_lt.mpr e1
        have e2 : vc_wh f n b k = false := by simp [vc_wh, e1']
        simp only [e1, e2, ↓reduceIte, Bool.false_eq_true]
        exact I _
      · have e1' : b < nI k := Int32.not_le.mp e1
        by_cases e3 : f 10 k 2 = 0
        · have e2 : vc_wh f n b k = true := by simp [vc_wh, e1', hkn, e3]
          simp only [e1, e2, e3, ↓reduceIte, not_true_eq_false]
          simp [jq_b]
        · have e2 : vc_wh f n b k = false := by simp [vc_wh, e3]
          simp only [e1, e2, e3, ↓reduceIte, Bool.false_eq_true, not_false_eq_true]
          exact I _
    · have hb : nI k < 1 ∨ f 0 0 7 < nI k := Or.inr (by rw [hn.2.1]; exact nI_lt (by omega) (by omega))
      have e2 : vc_wh f n b k = false := by simp [vc_wh, hkn]
      simp only [x_CC_isWithheldAfter_0, x_CC_isWithheldAfter_1, x_CC_isWithheldAfter_3, x_CC_isWithheldAfter_5, x_CC_isWithheldAfter_8, x_CC_isWithheldAfter_9, x_CC_isWithheldAfter_10, x_CC_isWithheldAfter_13, x_CC_isWithheldAfter_14, x_CC_isWithheldAfter_15, x_CC_isWithheldAfter_16, x_CC_isWithheldAfter_19, x_CC_isWithheldAfter_20, x_CC_isWithheldAfter_23, x_CC_isWithheldAfter_24, x_CC_isWithheldAfter_27, x_CC_isWithheldAfter_30, x_CC_isWithheldAfter_31, x_CC_isWithheldAfter_32, x_CC_isWithheldAfter_35, x_CC_isWithheldAfter_38, x_CC_isWithheldAfter_39, cu_is h, cu_g0 h, cu_g1 h, cu_g2 h, cu_g3 h, cu_g4 h, cu_g5 h, cu_g6 h, cu_g7 h, cu_g8 h, cu_g9 h, cu_g10 h, cu_s5 h, cu_s7 h, cu_s10 h, cu_n1 h, cu_m1 h, cu_n2 h, cu_m2 h, cu_n3 h, cu_n4 h, cu_n5 h, cu_n6 h, cc_blockAt_n h hb, h0, jz_inc, Option.bind_some, Option.toList_some, Option.toList_none, List.cons_append, List.nil_append, ↓reduceIte]
      simp only [jq_an, e2, ↓reduceIte, Bool.false_eq_true]
      by_cases e1 : nI k ≤ b
      · simp only [e1, ↓reduceIte]
        exact I _
      · simp only [e1, ↓reduceIte]
        exact I _
theorem cc_wh (h : jl_C K g cc n) (hn : jn_C f cc n) {b : Int32} : jx_m Z (d + 2) 25 [.inr (some (K.2.1 0 0)), .inl b] (jy_w K f g) = some (some (.inl (jq_b (jq_an (vc_wh f n b) 24 1))), jy_w K f g) := by
  simp only [e_CC_isWithheldAfter, x_CC_isWithheldAfter_0, x_CC_isWithheldAfter_1, x_CC_isWithheldAfter_3, x_CC_isWithheldAfter_5, x_CC_isWithheldAfter_8, x_CC_isWithheldAfter_9, x_CC_isWithheldAfter_10, x_CC_isWithheldAfter_13, x_CC_isWithheldAfter_14, x_CC_isWithheldAfter_15, x_CC_isWithheldAfter_16, x_CC_isWithheldAfter_19, x_CC_isWithheldAfter_20, x_CC_isWithheldAfter_23, x_CC_isWithheldAfter_24, x_CC_isWithheldAfter_27, x_CC_isWithheldAfter_30, x_CC_isWithheldAfter_31, x_CC_isWithheldAfter_32, x_CC_isWithheldAfter_35, x_CC_isWithheldAfter_38, x_CC_isWithheldAfter_39]
  exact cc_wh_l h hn 24 1 none (by omega) (by omega) (by omega)
theorem cc_chn_l (h : jl_C K g cc n) (hn : jn_C f cc n) {c : Nat} (hc : c < 8) {l3 : Option jx_V} : ∀ m k a : Nat, 25 - k = m → k ≤ 25 → a ≤ 100 → jx_run Z jX_CC_isSoundChain (jx_m Z (d + 3)) (30, [some (.inr (some (K.2.1 0 0))), some (.inl (nI c)), some (.inl (nI a)), l3, some (.inl (nI k))], [], jy_w K f g) = some (some (.inl (jq_b (jq_chn (vc_has f g c) (fun k a => jq_sp (vc_E f g) c (nI k) (nI a)) m k a))), jy_w K f g) := by
  have b1 : ¬ jq_b true = 0 := by decide
  have b0 : jq_b false = 0 := by decide
  intro m
  induction m with
  | zero =>
    intro k a hm hk ha
    have e : k = 25 := by omega
    subst e
    have h0 : (24 : Int32) < nI 25 := by decide
    rw [x_CC_isSoundChain_30]
    simp only [x_CC_isSoundChain_0, x_CC_isSoundChain_1, x_CC_isSoundChain_2, x_CC_isSoundChain_3, x_CC_isSoundChain_6, x_CC_isSoundChain_7, x_CC_isSoundChain_8, x_CC_isSoundChain_9, x_CC_isSoundChain_10, x_CC_isSoundChain_13, x_CC_isSoundChain_14, x_CC_isSoundChain_15, x_CC_isSoundChain_18, x_CC_isSoundChain_19, x_CC_isSoundChain_22, x_CC_isSoundChain_25, x_CC_isSoundChain_26, x_CC_isSoundChain_27, x_CC_isSoundChain_28, x_CC_isSoundChain_32, x_CC_isSoundChain_34, x_CC_isSoundChain_37, x_CC_isSoundChain_39, x_CC_isSoundChain_40, x_CC_isSoundChain_43, x_CC_isSoundChain_44, x_CC_isSoundChain_46, x_CC_isSoundChain_47, x_CC_isSoundChain_50, x_CC_isSoundChain_53, x_CC_isSoundChain_54, x_CC_isSoundChain_55, x_CC_isSoundChain_57, x_CC_isSoundChain_58, x_CC_isSoundChain_61, x_CC_isSoundChain_64, x_CC_isSoundChain_65, x_CC_isSoundChain_66, x_CC_isSoundChain_68, x_CC_isSoundChain_69, x_CC_isSoundChain_72, x_CC_isSoundChain_75, x_CC_isSoundChain_76, h0, ↓reduceIte, jq_chn, jq_b]
    simp
  | succ m ih =>
    intro k a hm hk ha
    have h0 : ¬ (24 : Int32) < nI k := nI_nlt (a := 24) (b := k) (by omega) (by omega)
    rw [x_CC_isSoundChain_30]
    simp only [x_CC_isSoundChain_0, x_CC_isSoundChain_1, x_CC_isSoundChain_2, x_CC_isSoundChain_3, x_CC_isSoundChain_6, x_CC_isSoundChain_7, x_CC_isSoundChain_8, x_CC_isSoundChain_9, x_CC_isSoundChain_10, x_CC_isSoundChain_13, x_CC_isSoundChain_14, x_CC_isSoundChain_15, x_CC_isSoundChain_18, x_CC_isSoundChain_19, x_CC_isSoundChain_22, x_CC_isSoundChain_25, x_CC_isSoundChain_26, x_CC_isSoundChain_27, x_CC_isSoundChain_28, x_CC_isSoundChain_32, x_CC_isSoundChain_34, x_CC_isSoundChain_37, x_CC_isSoundChain_39, x_CC_isSoundChain_40, x_CC_isSoundChain_43, x_CC_isSoundChain_44, x_CC_isSoundChain_46, x_CC_isSoundChain_47, x_CC_isSoundChain_50, x_CC_isSoundChain_53, x_CC_isSoundChain_54, x_CC_isSoundChain_55, x_CC_isSoundChain_57, x_CC_isSoundChain_58, x_CC_isSoundChain_61, x_CC_isSoundChain_64, x_CC_isSoundChain_65, x_CC_isSoundChain_66, x_CC_isSoundChain_68, x_CC_isSoundChain_69, x_CC_isSoundChain_72, x_CC_isSoundChain_75, x_CC_isSoundChain_76, cu_is h, cu_g0 h, cu_g1 h, cu_g2 h, cu_g3 h, cu_g4 h, cu_g5 h, cu_g6 h, cu_g7 h, cu_g8 h, cu_g9 h, cu_g10 h, cu_s5 h, cu_s7 h, cu_s10 h, cu_n1 h, cu_m1 h, cu_n2 h, cu_m2 h, cu_n3 h, cu_n4 h, cu_n5 h, cu_n6 h, cc_entryIn h hn hc, cc_spends h hn hc, h0, jz_inc, Option.bind_some, Option.toList_some, Option.toList_none, List.cons_append, List.nil_append, ↓reduceIte]
    simp only [jq_chn]
    by_cases e1 : a < k
    · have e1' : ¬ nI k ≤ nI a := nI_ge e1 (by omega)
      cases hr : ve_r f g (nI k) c with
      | none =>
        have e2 : vc_has f g c k = false := by simp [vc_has, hr]
        simp only [e1, e1', e2, ↓reduceIte, Bool.false_eq_true, and_false]
        exact ih (k + 1) a (by omega) (by omega) ha
      | some p =>
        have e2 : vc_has f g c k = true := by simp [vc_has, hr]
        by_cases e3 : jq_sp (vc_E f g) c (nI k) (nI a) = true
        · simp only [e1, e1', e2, e3, b1, ↓reduceIte, and_self, reduceCtorEq, not_false_eq_true]
          exact ih (k + 1) k (by omega) (by omega) (by omega)
        · have e3 : jq_sp (vc_E f g) c (nI k) (nI a) = false := by simpa using e3
          simp only [e1, e1', e2, e3, b0, ↓reduceIte, Bool.false_eq_true, and_self, reduceCtorEq, not_true_eq_false]
          simp
    · have e1' : nI k ≤ nI a := nI_le (by omega) (by omega)
      simp only [e1, e1', ↓reduceIte, false_and]
      exact ih (k + 1) a (by omega) (by omega) ha
def vc_ah (f : jy_I) (g : jy_R) (c : Nat) : Nat := jq_fst (vc_nx f g 0 c) 24 1
theorem jq_fst_le {P : Nat → Bool} : ∀ m k : Nat, jq_fst P m k < k + m ∨ jq_fst P m k = 0
  | 0, k => Or.inr rfl
  | m + 1, k => by
    simp only [jq_fst]
    split
    · left; omega
    · rcases jq_fst_le (P := P) m (k + 1) with q | q
      · left; omega
      · right; exact q
def vc_snd (f : jy_I) (g : jy_R) (c : Nat) : Bool := match ve_r f g (nI (vc_ah f g c)) c with
  | none => false
  | some a => if f 13 a 0 = 0 then false else jq_chn (vc_has f g c) (fun k a => jq_sp (vc_E f g) c (nI k) (nI a)) 24 1 (vc_ah f g c)
theorem cc_snd (h : jl_C K g cc n) (hn : jn_C f cc n) {c : Nat} (hc : c < 8) : jx_m Z (d + 4) 26 [.inr (some (K.2.1 0 0)), .inl (nI c)] (jy_w K f g) = some (some (.inl (jq_b (vc_snd f g c))), jy_w K f g) := by
  have hN := cc_next (Z := Z) (d := d) h hn (b := 0) hc
  rw [show jq_fst (vc_nx f g 0 c) 24 1 = vc_ah f g c from rfl] at hN
  have hle : vc_ah f g c ≤ 24 := by
    have := jq_fst_le (P := vc_nx f g 0 c) 24 1
    unfold vc_ah
    omega
  unfold vc_snd
  cases hr : ve_r f g (nI (vc_ah f g c)) c with
  | none =>
    simp only [e_CC_isSoundChain, x_CC_isSoundChain_0, x_CC_isSoundChain_1, x_CC_isSoundChain_2, x_CC_isSoundChain_3, x_CC_isSoundChain_6, x_CC_isSoundChain_7, x_CC_isSoundChain_8, x_CC_isSoundChain_9, x_CC_isSoundChain_10, x_CC_isSoundChain_13, x_CC_isSoundChain_14, x_CC_isSoundChain_15, x_CC_isSoundChain_18, x_CC_isSoundChain_19, x_CC_isSoundChain_22, x_CC_isSoundChain_25, x_CC_isSoundChain_26, x_CC_isSoundChain_27, x_CC_isSoundChain_28, x_CC_isSoundChain_32, x_CC_isSoundChain_34, x_CC_isSoundChain_37, x_CC_isSoundChain_39, x_CC_isSoundChain_40, x_CC_isSoundChain_43, x_CC_isSoundChain_44, x_CC_isSoundChain_46, x_CC_isSoundChain_47, x_CC_isSoundChain_50, x_CC_isSoundChain_53, x_CC_isSoundChain_54, x_CC_isSoundChain_55, x_CC_isSoundChain_57, x_CC_isSoundChain_58, x_CC_isSoundChain_61, x_CC_isSoundChain_64, x_CC_isSoundChain_65, x_CC_isSoundChain_66, x_CC_isSoundChain_68, x_CC_isSoundChain_69, x_CC_isSoundChain_72, x_CC_isSoundChain_75, x_CC_isSoundChain_76, cu_is h, cu_g0 h, cu_g1 h, cu_g2 h, cu_g3 h, cu_g4 h, cu_g5 h, cu_g6 h, cu_g7 h, cu_g8 h, cu_g9 h, cu_g10 h, cu_s5 h, cu_s7 h, cu_s10 h, cu_n1 h, cu_m1 h, cu_n2 h, cu_m2 h, cu_n3 h, cu_n4 h, cu_n5 h, cu_n6 h, cc_entryIn h hn hc, hN, hr, Option.bind_some, Option.toList_some, Option.toList_none, List.cons_append, List.nil_append, ↓reduceIte]
    simp [jq_b]
  | some a =>
    have ha := ve_ok h hn hc hr
    by_cases e : f 13 a 0 = 0
    · simp only [e_CC_isSoundChain, x_CC_isSoundChain_0, x_CC_isSoundChain_1, x_CC_isSoundChain_2, x_CC_isSoundChain_3, x_CC_isSoundChain_6, x_CC_isSoundChain_7, x_CC_isSoundChain_8, x_CC_isSoundChain_9, x_CC_isSoundChain_10, x_CC_isSoundChain_13, x_CC_isSoundChain_14, x_CC_isSoundChain_15, x_CC_isSoundChain_18, x_CC_isSoundChain_19, x_CC_isSoundChain_22, x_CC_isSoundChain_25, x_CC_isSoundChain_26, x_CC_isSoundChain_27, x_CC_isSoundChain_28, x_CC_isSoundChain_32, x_CC_isSoundChain_34, x_CC_isSoundChain_37, x_CC_isSoundChain_39, x_CC_isSoundChain_40, x_CC_isSoundChain_43, x_CC_isSoundChain_44, x_CC_isSoundChain_46, x_CC_isSoundChain_47, x_CC_isSoundChain_50, x_CC_isSoundChain_53, x_CC_isSoundChain_54, x_CC_isSoundChain_55, x_CC_isSoundChain_57, x_CC_isSoundChain_58, x_CC_isSoundChain_61, x_CC_isSoundChain_64, x_CC_isSoundChain_65, x_CC_isSoundChain_66, x_CC_isSoundChain_68, x_CC_isSoundChain_69, x_CC_isSoundChain_72, x_CC_isSoundChain_75, x_CC_isSoundChain_76, cu_is h, cu_g0 h, cu_g1 h, cu_g2 h, cu_g3 h, cu_g4 h, cu_g5 h, cu_g6 h, cu_g7 h, cu_g8 h, cu_g9 h, cu_g10 h, cu_s5 h, cu_s7 h, cu_s10 h, cu_n1 h, cu_m1 h, cu_n2 h, cu_m2 h, cu_n3 h, cu_n4 h, cu_n5 h, cu_n6 h, cc_entryIn h hn hc, hN, hr, cu_v h.1 ha (show 0 < 6 by decide), e, Option.bind_some, Option.toList_some, Option.toList_none, List.cons_append, List.nil_append, ↓reduceIte, reduceCtorEq, not_true_eq_false]
      simp [jq_b]
    · simp only [e_CC_isSoundChain, x_CC_isSoundChain_0, x_CC_isSoundChain_1, x_CC_isSoundChain_2, x_CC_isSoundChain_3, x_CC_isSoundChain_6, x_CC_isSoundChain_7, x_CC_isSoundChain_8, x_CC_isSoundChain_9, x_CC_isSoundChain_10, x_CC_isSoundChain_13, x_CC_isSoundChain_14, x_CC_isSoundChain_15, x_CC_isSoundChain_18, x_CC_isSoundChain_19, x_CC_isSoundChain_22, x_CC_isSoundChain_25, x_CC_isSoundChain_26, x_CC_isSoundChain_27, x_CC_isSoundChain_28, x_CC_isSoundChain_32, x_CC_isSoundChain_34, x_CC_isSoundChain_37, x_CC_isSoundChain_39, x_CC_isSoundChain_40, x_CC_isSoundChain_43, x_CC_isSoundChain_44, x_CC_isSoundChain_46, x_CC_isSoundChain_47, x_CC_isSoundChain_50, x_CC_isSoundChain_53, x_CC_isSoundChain_54, x_CC_isSoundChain_55, x_CC_isSoundChain_57, x_CC_isSoundChain_58, x_CC_isSoundChain_61, x_CC_isSoundChain_64, x_CC_isSoundChain_65, x_CC_isSoundChain_66, x_CC_isSoundChain_68, x_CC_isSoundChain_69, x_CC_isSoundChain_72, x_CC_isSoundChain_75, x_CC_isSoundChain_76, cu_is h, cu_g0 h, cu_g1 h, cu_g2 h, cu_g3 h, cu_g4 h, cu_g5 h, cu_g6 h, cu_g7 h, cu_g8 h, cu_g9 h, cu_g10 h, cu_s5 h, cu_s7 h, cu_s10 h, cu_n1 h, cu_m1 h, cu_n2 h, cu_m2 h, cu_n3 h, cu_n4 h, cu_n5 h, cu_n6 h, cc_entryIn h hn hc, hN, hr, cu_v h.1 ha (show 0 < 6 by decide), e, Option.bind_some, Option.toList_some, Option.toList_none, List.cons_append, List.nil_append, ↓reduceIte, reduceCtorEq, not_false_eq_true]
      exact cc_chn_l h hn hc 24 1 _ (by omega) (by omega) (by omega)
theorem cc_ref_y (h : jl_C K g cc n) (hn : jn_C f cc n) {u c b : Nat} (hu : u < 4) (hc : c < cc) (h1 : 1 ≤ b) (h2 : b ≤ n) : jx_m Z (d + 3) 33 [.inr (some (K.2.1 0 0)), .inl (nI u), .inl (nI c), .inl (nI b)] (jy_w K f g) = some (some (.inl (if f 8 c 0 = 0 then -4 else 0)), jy_w K f g) := by
  have hcl := h.2.2.1 c hc
  have e1 : ¬ (1 : Int32) = 0 := by decide
  simp only [e_CC_refusalToChallenge, x_CC_refusalToChallenge_0, x_CC_refusalToChallenge_1, x_CC_refusalToChallenge_2, x_CC_refusalToChallenge_5, x_CC_refusalToChallenge_7, x_CC_refusalToChallenge_8, x_CC_refusalToChallenge_11, x_CC_refusalToChallenge_14, x_CC_refusalToChallenge_16, x_CC_refusalToChallenge_19, x_CC_refusalToChallenge_20, x_CC_refusalToChallenge_21, x_CC_refusalToChallenge_24, x_CC_refusalToChallenge_27, x_CC_refusalToChallenge_28, x_CC_refusalToChallenge_29, x_CC_refusalToChallenge_31, x_CC_refusalToChallenge_34, x_CC_refusalToChallenge_37, x_CC_refusalToChallenge_38, x_CC_refusalToChallenge_41, x_CC_refusalToChallenge_43, cu_is h, cu_g0 h, cu_g1 h, cu_g2 h, cu_g3 h, cu_g4 h, cu_g5 h, cu_g6 h, cu_g7 h, cu_g8 h, cu_g9 h, cu_g10 h, cu_s5 h, cu_s7 h, cu_s10 h, cu_n1 h, cu_m1 h, cu_n2 h, cu_m2 h, cu_n3 h, cu_n4 h, cu_n5 h, cu_n6 h, cc_exitOf_y h hn hc, cc_user_y hu, cc_blockAt_y h hn h1 h2, cu_c0 hcl, cu_c1 hcl, cu_c2 hcl, cu_e0 hcl, cu_e1 hcl, cu_e2 hcl, cu_e3 hcl, cu_e4 hcl, cu_e5 hcl, cu_eis hcl, cu_n9 hcl, cu_l9 hcl, e1, Option.bind_some, Option.toList_some, Option.toList_none, List.cons_append, List.nil_append, ↓reduceIte, reduceCtorEq]
  by_cases e : f 8 c 0 = 0 <;> simp [e]
theorem cc_ref_n (h : jl_C K g cc n) (hn : jn_C f cc n) {u c b : Int32} (hb : (u < 0 ∨ 4 ≤ u) ∨ (c < 0 ∨ f 0 0 5 ≤ c) ∨ (b < 1 ∨ f 0 0 7 < b)) : jx_m Z (d + 3) 33 [.inr (some (K.2.1 0 0)), .inl u, .inl c, .inl b] (jy_w K f g) = some (some (.inl (-1)), jy_w K f g) := by
  have h8 := hn.2.2.1
  by_cases e2 : c < 0 ∨ f 0 0 5 ≤ c
  · simp only [e_CC_refusalToChallenge, x_CC_refusalToChallenge_0, x_CC_refusalToChallenge_1, x_CC_refusalToChallenge_2, x_CC_refusalToChallenge_5, x_CC_refusalToChallenge_7, x_CC_refusalToChallenge_8, x_CC_refusalToChallenge_11, x_CC_refusalToChallenge_14, x_CC_refusalToChallenge_16, x_CC_refusalToChallenge_19, x_CC_refusalToChallenge_20, x_CC_refusalToChallenge_21, x_CC_refusalToChallenge_24, x_CC_refusalToChallenge_27, x_CC_refusalToChallenge_28, cu_is h, cu_g0 h, cu_g1 h, cu_g2 h, cu_g3 h, cu_g4 h, cu_g5 h, cu_g6 h, cu_g7 h, cu_g8 h, cu_g9 h, cu_g10 h, cu_s5 h, cu_s7 h, cu_s10 h, cu_n1 h, cu_m1 h, cu_n2 h, cu_m2 h, cu_n3 h, cu_n4 h, cu_n5 h, cu_n6 h, cc_exitOf_n h e2, cc_isUser, Option.bind_some, Option.toList_some, Option.toList_none, List.cons_append, List.nil_append, ↓reduceIte]
    by_cases e1 : u < 0 ∨ 4 ≤ u <;> simp [e1]
  · have : ∃ k : Nat, c = nI k ∧ k < cc := by
      rw [hn.1, Int32.lt_iff_toInt_lt, Int32.le_iff_toInt_le, nI_toInt (by omega), jz_0] at e2
      exact ⟨c.toNatClampNeg, (jz_nI (by omega)).symm, by rw [jz_cl]; omega⟩
    obtain ⟨k, rfl, hk⟩ := this
    by_cases e1 : u < 0 ∨ 4 ≤ u
    · simp only [e_CC_refusalToChallenge, x_CC_refusalToChallenge_0, x_CC_refusalToChallenge_1, x_CC_refusalToChallenge_2, x_CC_refusalToChallenge_5, x_CC_refusalToChallenge_7, x_CC_refusalToChallenge_8, x_CC_refusalToChallenge_11, x_CC_refusalToChallenge_14, x_CC_refusalToChallenge_16, x_CC_refusalToChallenge_19, x_CC_refusalToChallenge_20, x_CC_refusalToChallenge_21, x_CC_refusalToChallenge_24, x_CC_refusalToChallenge_27, x_CC_refusalToChallenge_28, cu_is h, cu_g0 h, cu_g1 h, cu_g2 h, cu_g3 h, cu_g4 h, cu_g5 h, cu_g6 h, cu_g7 h, cu_g8 h, cu_g9 h, cu_g10 h, cu_s5 h, cu_s7 h, cu_s10 h, cu_n1 h, cu_m1 h, cu_n2 h, cu_m2 h, cu_n3 h, cu_n4 h, cu_n5 h, cu_n6 h, cc_exitOf_y h hn hk, cc_isUser, e1, Option.bind_some, Option.toList_some, Option.toList_none, List.cons_append, List.nil_append, ↓reduceIte]
    · have e3 : b < 1 ∨ f 0 0 7 < b := by
        rcases hb with hb | hb | hb
        · exact absurd hb e1
        · exact absurd hb e2
        · exact hb
      have e0 : ¬ (1 : Int32) = 0 := by decide
      simp only [e_CC_refusalToChallenge, x_CC_refusalToChallenge_0, x_CC_refusalToChallenge_1, x_CC_refusalToChallenge_2, x_CC_refusalToChallenge_5, x_CC_refusalToChallenge_7, x_CC_refusalToChallenge_8, x_CC_refusalToChallenge_11, x_CC_refusalToChallenge_14, x_CC_refusalToChallenge_16, x_CC_refusalToChallenge_19, x_CC_refusalToChallenge_20, x_CC_refusalToChallenge_21, x_CC_refusalToChallenge_24, x_CC_refusalToChallenge_27, x_CC_refusalToChallenge_28, cu_is h, cu_g0 h, cu_g1 h, cu_g2 h, cu_g3 h, cu_g4 h, cu_g5 h, cu_g6 h, cu_g7 h, cu_g8 h, cu_g9 h, cu_g10 h, cu_s5 h, cu_s7 h, cu_s10 h, cu_n1 h, cu_m1 h, cu_n2 h, cu_m2 h, cu_n3 h, cu_n4 h, cu_n5 h, cu_n6 h, cc_exitOf_y h hn hk, cc_isUser, cc_blockAt_n h e3, e0, e1, Option.bind_some, Option.toList_some, Option.toList_none, List.cons_append, List.nil_append, ↓reduceIte, reduceCtorEq]
/-! exits -/
theorem ex_st {c b : Nat} (hcl : jl_c K g c) (h1 : 1 ≤ b) (h2 : b ≤ 24) : jx_m Z (d + 1) 37 [.inr (some (K.2.1 8 c)), .inl (nI b)] (jy_w K f g) = some (some (.inl (f 9 c b)), jy_w K f g) := by
  have e1 : ¬ nI b < 1 := nI_nlt (b := 1) h1 (by omega)
  have e3 : ¬ (24 : Int32) < nI b := nI_nlt (a := 24) (b := b) h2 (by omega)
  have hb : b < 25 := by omega
  simp only [e_Ex_stateOf, x_Ex_stateOf_0, x_Ex_stateOf_1, x_Ex_stateOf_2, x_Ex_stateOf_5, x_Ex_stateOf_6, x_Ex_stateOf_8, x_Ex_stateOf_11, x_Ex_stateOf_12, x_Ex_stateOf_15, x_Ex_stateOf_16, x_Ex_stateOf_17, x_Ex_stateOf_20, x_Ex_stateOf_21, cu_c0 hcl, cu_c1 hcl, cu_c2 hcl, cu_e0 hcl, cu_e1 hcl, cu_e2 hcl, cu_e3 hcl, cu_e4 hcl, cu_e5 hcl, cu_eis hcl, cu_n9 hcl, cu_l9 hcl, e1, e3, hb, Option.bind_some, Option.toList_some, Option.toList_none, List.cons_append, List.nil_append, ↓reduceIte]
theorem ex_is {c b : Nat} (hcl : jl_c K g c) (h1 : 1 ≤ b) (h2 : b ≤ 24) : jx_m Z (d + 2) 36 [.inr (some (K.2.1 8 c)), .inl (nI b)] (jy_w K f g) = some (some (.inl (jq_b (vc_std f c b))), jy_w K f g) := by
  simp only [e_Ex_isChallengedBy, x_Ex_isChallengedBy_0, x_Ex_isChallengedBy_1, x_Ex_isChallengedBy_2, x_Ex_isChallengedBy_5, x_Ex_isChallengedBy_8, x_Ex_isChallengedBy_9, x_Ex_isChallengedBy_12, x_Ex_isChallengedBy_13, cu_c0 hcl, cu_c1 hcl, cu_c2 hcl, cu_e0 hcl, cu_e1 hcl, cu_e2 hcl, cu_e3 hcl, cu_e4 hcl, cu_e5 hcl, cu_eis hcl, cu_n9 hcl, cu_l9 hcl, ex_st hcl h1 h2, Option.bind_some, Option.toList_some, Option.toList_none, List.cons_append, List.nil_append, ↓reduceIte]
  unfold vc_std jq_b
  by_cases e : f 9 c b ≤ 0 <;> simp [e]
theorem ex_was {c b : Nat} (hcl : jl_c K g c) (h1 : 1 ≤ b) (h2 : b ≤ 24) : jx_m Z (d + 2) 41 [.inr (some (K.2.1 8 c)), .inl (nI b)] (jy_w K f g) = some (some (.inl (jq_b (decide (¬ f 9 c b = 0)))), jy_w K f g) := by
  simp only [e_Ex_wasChallengedBy, x_Ex_wasChallengedBy_0, x_Ex_wasChallengedBy_1, x_Ex_wasChallengedBy_2, x_Ex_wasChallengedBy_5, x_Ex_wasChallengedBy_8, x_Ex_wasChallengedBy_9, x_Ex_wasChallengedBy_12, x_Ex_wasChallengedBy_13, cu_c0 hcl, cu_c1 hcl, cu_c2 hcl, cu_e0 hcl, cu_e1 hcl, cu_e2 hcl, cu_e3 hcl, cu_e4 hcl, cu_e5 hcl, cu_eis hcl, cu_n9 hcl, cu_l9 hcl, ex_st hcl h1 h2, Option.bind_some, Option.toList_some, Option.toList_none, List.cons_append, List.nil_append, ↓reduceIte]
  unfold jq_b
  by_cases e : f 9 c b = 0 <;> simp [e]
theorem ex_ch {c b : Nat} (hcl : jl_c K g c) (h1 : 1 ≤ b) (h2 : b ≤ 24) : jx_m Z (d + 2) 38 [.inr (some (K.2.1 8 c)), .inl (nI b)] (jy_w K f g) = some (some (.inl (f 9 c b - 1)), jy_w K f g) := by
  simp only [e_Ex_challengerBy, x_Ex_challengerBy_0, x_Ex_challengerBy_1, x_Ex_challengerBy_2, x_Ex_challengerBy_5, x_Ex_challengerBy_6, x_Ex_challengerBy_7, cu_c0 hcl, cu_c1 hcl, cu_c2 hcl, cu_e0 hcl, cu_e1 hcl, cu_e2 hcl, cu_e3 hcl, cu_e4 hcl, cu_e5 hcl, cu_eis hcl, cu_n9 hcl, cu_l9 hcl, ex_st hcl h1 h2, Option.bind_some, Option.toList_some, Option.toList_none, List.cons_append, List.nil_append, ↓reduceIte]
theorem ex_op {c b : Nat} (ho : jy_ok K) (hcl : jl_c K g c) (h1 : 1 ≤ b) (h2 : b ≤ 24) {u : Int32} : jx_m Z (d + 1) 43 [.inr (some (K.2.1 8 c)), .inl (nI b), .inl u] (jy_w K f g) = some (none, jy_w K (jy_up f 9 c b (u + 1)) g) := by
  have e1 : ¬ nI b < 1 := nI_nlt (b := 1) h1 (by omega)
  have e3 : ¬ (24 : Int32) < nI b := nI_nlt (a := 24) (b := b) h2 (by omega)
  have hb : b < 25 := by omega
  simp only [e_Ex_openChallenge, x_Ex_openChallenge_0, x_Ex_openChallenge_1, x_Ex_openChallenge_2, x_Ex_openChallenge_5, x_Ex_openChallenge_6, x_Ex_openChallenge_8, x_Ex_openChallenge_11, x_Ex_openChallenge_12, x_Ex_openChallenge_15, x_Ex_openChallenge_16, x_Ex_openChallenge_17, x_Ex_openChallenge_18, x_Ex_openChallenge_19, x_Ex_openChallenge_20, cu_c0 hcl, cu_c1 hcl, cu_c2 hcl, cu_e0 hcl, cu_e1 hcl, cu_e2 hcl, cu_e3 hcl, cu_e4 hcl, cu_e5 hcl, cu_eis hcl, cu_n9 hcl, cu_l9 hcl, cu_m9 ho hcl hb, e1, e3, Option.bind_some, Option.toList_some, Option.toList_none, List.cons_append, List.nil_append, ↓reduceIte]
theorem ex_cl {c b : Nat} (ho : jy_ok K) (hcl : jl_c K g c) (h1 : 1 ≤ b) (h2 : b ≤ 24) : jx_m Z (d + 1) 45 [.inr (some (K.2.1 8 c)), .inl (nI b)] (jy_w K f g) = some (none, jy_w K (jy_up f 9 c b (-1)) g) := by
  have e1 : ¬ nI b < 1 := nI_nlt (b := 1) h1 (by omega)
  have e3 : ¬ (24 : Int32) < nI b := nI_nlt (a := 24) (b := b) h2 (by omega)
  have hb : b < 25 := by omega
  simp only [e_Ex_closeChallenge, x_Ex_closeChallenge_0, x_Ex_closeChallenge_1, x_Ex_closeChallenge_2, x_Ex_closeChallenge_5, x_Ex_closeChallenge_6, x_Ex_closeChallenge_8, x_Ex_closeChallenge_11, x_Ex_closeChallenge_12, x_Ex_closeChallenge_15, x_Ex_closeChallenge_16, x_Ex_closeChallenge_17, x_Ex_closeChallenge_18, cu_c0 hcl, cu_c1 hcl, cu_c2 hcl, cu_e0 hcl, cu_e1 hcl, cu_e2 hcl, cu_e3 hcl, cu_e4 hcl, cu_e5 hcl, cu_eis hcl, cu_n9 hcl, cu_l9 hcl, cu_m9 ho hcl hb, e1, e3, Option.bind_some, Option.toList_some, Option.toList_none, List.cons_append, List.nil_append, ↓reduceIte]
theorem ex_least_l {c : Nat} (hcl : jl_c K g c) : ∀ m k : Nat, 25 - k = m → 1 ≤ k → k ≤ 25 → jx_run Z jX_Ex_leastChallenge (jx_m Z (d + 2)) (2, [some (.inr (some (K.2.1 8 c))), some (.inl (nI k))], [], jy_w K f g) = some (some (.inl (nI (jq_fst (vc_std f c) m k))), jy_w K f g) := by
  have b1 : ¬ jq_b true = 0 := by decide
  have b0 : jq_b false = 0 := by decide
  intro m
  induction m with
  | zero =>
    intro k hm h1 hk
    have e : k = 25 := by omega
    subst e
    have h0 : (24 : Int32) < nI 25 := by decide
    rw [x_Ex_leastChallenge_2]
    simp only [x_Ex_leastChallenge_0, x_Ex_leastChallenge_1, x_Ex_leastChallenge_3, x_Ex_leastChallenge_5, x_Ex_leastChallenge_8, x_Ex_leastChallenge_9, x_Ex_leastChallenge_10, x_Ex_leastChallenge_13, x_Ex_leastChallenge_16, x_Ex_leastChallenge_17, x_Ex_leastChallenge_18, x_Ex_leastChallenge_21, x_Ex_leastChallenge_24, x_Ex_leastChallenge_25, h0, ↓reduceIte]
    rfl
  | succ m ih =>
    intro k hm h1 hk
    have h0 : ¬ (24 : Int32) < nI k := nI_nlt (a := 24) (b := k) (by omega) (by omega)
    have I := ih (k + 1) (by omega) (by omega) (by omega)
    rw [x_Ex_leastChallenge_2]
    simp only [x_Ex_leastChallenge_0, x_Ex_leastChallenge_1, x_Ex_leastChallenge_3, x_Ex_leastChallenge_5, x_Ex_leastChallenge_8, x_Ex_leastChallenge_9, x_Ex_leastChallenge_10, x_Ex_leastChallenge_13, x_Ex_leastChallenge_16, x_Ex_leastChallenge_17, x_Ex_leastChallenge_18, x_Ex_leastChallenge_21, x_Ex_leastChallenge_24, x_Ex_leastChallenge_25, cu_c0 hcl, cu_c1 hcl, cu_c2 hcl, cu_e0 hcl, cu_e1 hcl, cu_e2 hcl, cu_e3 hcl, cu_e4 hcl, cu_e5 hcl, cu_eis hcl, cu_n9 hcl, cu_l9 hcl, ex_is hcl h1 (show k ≤ 24 by omega), h0, jz_inc, Option.bind_some, Option.toList_some, Option.toList_none, List.cons_append, List.nil_append, ↓reduceIte]
    simp only [jq_fst]
    by_cases e : vc_std f c k = true
    · simp only [e, b1, ↓reduceIte]
    · have e : vc_std f c k = false := by simpa using e
      simp only [e, b0, ↓reduceIte, Bool.false_eq_true]
      exact I
theorem ex_least {c : Nat} (hcl : jl_c K g c) : jx_m Z (d + 3) 47 [.inr (some (K.2.1 8 c))] (jy_w K f g) = some (some (.inl (nI (jq_fst (vc_std f c) 24 1))), jy_w K f g) := by
  simp only [e_Ex_leastChallenge, x_Ex_leastChallenge_0, x_Ex_leastChallenge_1, x_Ex_leastChallenge_3, x_Ex_leastChallenge_5, x_Ex_leastChallenge_8, x_Ex_leastChallenge_9, x_Ex_leastChallenge_10, x_Ex_leastChallenge_13, x_Ex_leastChallenge_16, x_Ex_leastChallenge_17, x_Ex_leastChallenge_18, x_Ex_leastChallenge_21, x_Ex_leastChallenge_24, x_Ex_leastChallenge_25]
  exact ex_least_l hcl 24 1 (by omega) (by omega) (by omega)
theorem ex_cnt_l {c : Nat} (hcl : jl_c K g c) : ∀ m k r : Nat, 25 - k = m → 1 ≤ k → k ≤ 25 → jx_run Z jX_Ex_countChallenges (jx_m Z (d + 2)) (4, [some (.inr (some (K.2.1 8 c))), some (.inl (nI r)), some (.inl (nI k))], [], jy_w K f g) = some (some (.inl (nI (jq_cnt (vc_std f c) m k r))), jy_w K f g) := by
  have b1 : ¬ jq_b true = 0 := by decide
  have b0 : jq_b false = 0 := by decide
  intro m
  induction m with
  | zero =>
    intro k r hm h1 hk
    have e : k = 25 := by omega
    subst e
    have h0 : (24 : Int32) < nI 25 := by decide
    rw [x_Ex_countChallenges_4]
    simp only [x_Ex_countChallenges_0, x_Ex_countChallenges_1, x_Ex_countChallenges_2, x_Ex_countChallenges_3, x_Ex_countChallenges_5, x_Ex_countChallenges_7, x_Ex_countChallenges_10, x_Ex_countChallenges_11, x_Ex_countChallenges_12, x_Ex_countChallenges_15, x_Ex_countChallenges_18, x_Ex_countChallenges_21, x_Ex_countChallenges_24, x_Ex_countChallenges_27, x_Ex_countChallenges_28, h0, ↓reduceIte]
    rfl
  | succ m ih =>
    intro k r hm h1 hk
    have h0 : ¬ (24 : Int32) < nI k := nI_nlt (a := 24) (b := k) (by omega) (by omega)
    rw [x_Ex_countChallenges_4]
    simp only [x_Ex_countChallenges_0, x_Ex_countChallenges_1, x_Ex_countChallenges_2, x_Ex_countChallenges_3, x_Ex_countChallenges_5, x_Ex_countChallenges_7, x_Ex_countChallenges_10, x_Ex_countChallenges_11, x_Ex_countChallenges_12, x_Ex_countChallenges_15, x_Ex_countChallenges_18, x_Ex_countChallenges_21, x_Ex_countChallenges_24, x_Ex_countChallenges_27, x_Ex_countChallenges_28, cu_c0 hcl, cu_c1 hcl, cu_c2 hcl, cu_e0 hcl, cu_e1 hcl, cu_e2 hcl, cu_e3 hcl, cu_e4 hcl, cu_e5 hcl, cu_eis hcl, cu_n9 hcl, cu_l9 hcl, ex_is hcl h1 (show k ≤ 24 by omega), h0, jz_inc, Option.bind_some, Option.toList_some, Option.toList_none, List.cons_append, List.nil_append, ↓reduceIte]
    simp only [jq_cnt]
    by_cases e : vc_std f c k = true
    · simp only [e, b1, ↓reduceIte]
      exact ih (k + 1) (r + 1) (by omega) (by omega) (by omega)
    · have e : vc_std f c k = false := by simpa using e
      simp only [e, b0, ↓reduceIte, Bool.false_eq_true]
      exact ih (k + 1) r (by omega) (by omega) (by omega)
theorem ex_cnt {c : Nat} (hcl : jl_c K g c) : jx_m Z (d + 3) 57 [.inr (some (K.2.1 8 c))] (jy_w K f g) = some (some (.inl (nI (jq_cnt (vc_std f c) 24 1 0))), jy_w K f g) := by
  simp only [e_Ex_countChallenges, x_Ex_countChallenges_0, x_Ex_countChallenges_1, x_Ex_countChallenges_2, x_Ex_countChallenges_3, x_Ex_countChallenges_5, x_Ex_countChallenges_7, x_Ex_countChallenges_10, x_Ex_countChallenges_11, x_Ex_countChallenges_12, x_Ex_countChallenges_15, x_Ex_countChallenges_18, x_Ex_countChallenges_21, x_Ex_countChallenges_24, x_Ex_countChallenges_27, x_Ex_countChallenges_28]
  exact ex_cnt_l hcl 24 1 0 (by omega) (by omega) (by omega)
theorem ex_bonds {c : Nat} (hcl : jl_c K g c) : jx_m Z (d + 4) 64 [.inr (some (K.2.1 8 c))] (jy_w K f g) = some (some (.inl (if f 8 c 0 = 0 then 0 else 10 + 2 * nI (jq_cnt (vc_std f c) 24 1 0))), jy_w K f g) := by
  simp only [e_Ex_bonds, x_Ex_bonds_0, x_Ex_bonds_1, x_Ex_bonds_4, x_Ex_bonds_7, x_Ex_bonds_9, x_Ex_bonds_10, x_Ex_bonds_11, x_Ex_bonds_14, x_Ex_bonds_15, x_Ex_bonds_16, x_Ex_bonds_19, x_Ex_bonds_20, cu_c0 hcl, cu_c1 hcl, cu_c2 hcl, cu_e0 hcl, cu_e1 hcl, cu_e2 hcl, cu_e3 hcl, cu_e4 hcl, cu_e5 hcl, cu_eis hcl, cu_n9 hcl, cu_l9 hcl, ex_cnt hcl, Option.bind_some, Option.toList_some, Option.toList_none, List.cons_append, List.nil_append, ↓reduceIte]
  by_cases e : f 8 c 0 = 0 <;> simp [e]
def vc_look (f : jy_I) (c k : Nat) : Int32 := if f 8 c 0 = 0 then 0 else if k = 2 then f 8 c 1 + 1 else if k = 3 then f 8 c 2 else if k = 4 then f 8 c 3 else if k = 5 then f 8 c 4 else nI (jq_cnt (vc_std f c) 24 1 0)
theorem ex_look {c k : Nat} (hcl : jl_c K g c) (h1 : 2 ≤ k) (h2 : k ≤ 6) : jx_m Z (d + 4) 56 [.inr (some (K.2.1 8 c)), .inl (nI k)] (jy_w K f g) = some (some (.inl (vc_look f c k)), jy_w K f g) := by
  unfold vc_look
  by_cases e : f 8 c 0 = 0
  · simp only [e_Ex_look, x_Ex_look_0, x_Ex_look_1, x_Ex_look_4, x_Ex_look_7, x_Ex_look_8, cu_c0 hcl, cu_c1 hcl, cu_c2 hcl, cu_e0 hcl, cu_e1 hcl, cu_e2 hcl, cu_e3 hcl, cu_e4 hcl, cu_e5 hcl, cu_eis hcl, cu_n9 hcl, cu_l9 hcl, e, Option.bind_some, Option.toList_some, Option.toList_none, List.cons_append, List.nil_append, ↓reduceIte, not_true_eq_false]
  · have : k = 2 ∨ k = 3 ∨ k = 4 ∨ k = 5 ∨ k = 6 := by omega
    have n2 : nI 2 = 2 := rfl
    have n3 : nI 3 = 3 := rfl
    have n4 : nI 4 = 4 := rfl
    have n5 : nI 5 = 5 := rfl
    have n6 : nI 6 = 6 := rfl
    rcases this with rfl | rfl | rfl | rfl | rfl
    · simp only [n2, e_Ex_look, x_Ex_look_0, x_Ex_look_1, x_Ex_look_4, x_Ex_look_7, x_Ex_look_8, x_Ex_look_9, x_Ex_look_10_k2, x_Ex_look_10_k3, x_Ex_look_10_k4, x_Ex_look_10_k5, x_Ex_look_10_k6, x_Ex_look_44, x_Ex_look_45, x_Ex_look_48, x_Ex_look_49, x_Ex_look_50, x_Ex_look_51, x_Ex_look_52, x_Ex_look_55, x_Ex_look_56, x_Ex_look_57, x_Ex_look_60, x_Ex_look_61, x_Ex_look_62, x_Ex_look_65, x_Ex_look_66, x_Ex_look_67, x_Ex_look_70, x_Ex_look_71, x_Ex_look_72, cu_c0 hcl, cu_c1 hcl, cu_c2 hcl, cu_e0 hcl, cu_e1 hcl, cu_e2 hcl, cu_e3 hcl, cu_e4 hcl, cu_e5 hcl, cu_eis hcl, cu_n9 hcl, cu_l9 hcl, ex_cnt hcl, e, Option.bind_some, Option.toList_some, Option.toList_none, List.cons_append, List.nil_append, ↓reduceIte, not_false_eq_true]
    · simp only [n3, e_Ex_look, x_Ex_look_0, x_Ex_look_1, x_Ex_look_4, x_Ex_look_7, x_Ex_look_8, x_Ex_look_9, x_Ex_look_10_k2, x_Ex_look_10_k3, x_Ex_look_10_k4, x_Ex_look_10_k5, x_Ex_look_10_k6, x_Ex_look_44, x_Ex_look_45, x_Ex_look_48, x_Ex_look_49, x_Ex_look_50, x_Ex_look_51, x_Ex_look_52, x_Ex_look_55, x_Ex_look_56, x_Ex_look_57, x_Ex_look_60, x_Ex_look_61, x_Ex_look_62, x_Ex_look_65, x_Ex_look_66, x_Ex_look_67, x_Ex_look_70, x_Ex_look_71, x_Ex_look_72, cu_c0 hcl, cu_c1 hcl, cu_c2 hcl, cu_e0 hcl, cu_e1 hcl, cu_e2 hcl, cu_e3 hcl, cu_e4 hcl, cu_e5 hcl, cu_eis hcl, cu_n9 hcl, cu_l9 hcl, ex_cnt hcl, e, Option.bind_some, Option.toList_some, Option.toList_none, List.cons_append, List.nil_append, ↓reduceIte, not_false_eq_true]
      simp
    · simp only [n4, e_Ex_look, x_Ex_look_0, x_Ex_look_1, x_Ex_look_4, x_Ex_look_7, x_Ex_look_8, x_Ex_look_9, x_Ex_look_10_k2, x_Ex_look_10_k3, x_Ex_look_10_k4, x_Ex_look_10_k5, x_Ex_look_10_k6, x_Ex_look_44, x_Ex_look_45, x_Ex_look_48, x_Ex_look_49, x_Ex_look_50, x_Ex_look_51, x_Ex_look_52, x_Ex_look_55, x_Ex_look_56, x_Ex_look_57, x_Ex_look_60, x_Ex_look_61, x_Ex_look_62, x_Ex_look_65, x_Ex_look_66, x_Ex_look_67, x_Ex_look_70, x_Ex_look_71, x_Ex_look_72, cu_c0 hcl, cu_c1 hcl, cu_c2 hcl, cu_e0 hcl, cu_e1 hcl, cu_e2 hcl, cu_e3 hcl, cu_e4 hcl, cu_e5 hcl, cu_eis hcl, cu_n9 hcl, cu_l9 hcl, ex_cnt hcl, e, Option.bind_some, Option.toList_some, Option.toList_none, List.cons_append, List.nil_append, ↓reduceIte, not_false_eq_true]
      simp
    · simp only [n5, e_Ex_look, x_Ex_look_0, x_Ex_look_1, x_Ex_look_4, x_Ex_look_7, x_Ex_look_8, x_Ex_look_9, x_Ex_look_10_k2, x_Ex_look_10_k3, x_Ex_look_10_k4, x_Ex_look_10_k5, x_Ex_look_10_k6, x_Ex_look_44, x_Ex_look_45, x_Ex_look_48, x_Ex_look_49, x_Ex_look_50, x_Ex_look_51, x_Ex_look_52, x_Ex_look_55, x_Ex_look_56, x_Ex_look_57, x_Ex_look_60, x_Ex_look_61, x_Ex_look_62, x_Ex_look_65, x_Ex_look_66, x_Ex_look_67, x_Ex_look_70, x_Ex_look_71, x_Ex_look_72, cu_c0 hcl, cu_c1 hcl, cu_c2 hcl, cu_e0 hcl, cu_e1 hcl, cu_e2 hcl, cu_e3 hcl, cu_e4 hcl, cu_e5 hcl, cu_eis hcl, cu_n9 hcl, cu_l9 hcl, ex_cnt hcl, e, Option.bind_some, Option.toList_some, Option.toList_none, List.cons_append, List.nil_append, ↓reduceIte, not_false_eq_true]
      simp
    · simp only [n6, e_Ex_look, x_Ex_look_0, x_Ex_look_1, x_Ex_look_4, x_Ex_look_7, x_Ex_look_8, x_Ex_look_9, x_Ex_look_10_k2, x_Ex_look_10_k3, x_Ex_look_10_k4, x_Ex_look_10_k5, x_Ex_look_10_k6, x_Ex_look_44, x_Ex_look_45, x_Ex_look_48, x_Ex_look_49, x_Ex_look_50, x_Ex_look_51, x_Ex_look_52, x_Ex_look_55, x_Ex_look_56, x_Ex_look_57, x_Ex_look_60, x_Ex_look_61, x_Ex_look_62, x_Ex_look_65, x_Ex_look_66, x_Ex_look_67, x_Ex_look_70, x_Ex_look_71, x_Ex_look_72, cu_c0 hcl, cu_c1 hcl, cu_c2 hcl, cu_e0 hcl, cu_e1 hcl, cu_e2 hcl, cu_e3 hcl, cu_e4 hcl, cu_e5 hcl, cu_eis hcl, cu_n9 hcl, cu_l9 hcl, ex_cnt hcl, e, Option.bind_some, Option.toList_some, Option.toList_none, List.cons_append, List.nil_append, ↓reduceIte, not_false_eq_true]
      simp
end CB
