/-! the reference: loops that only read -/
def jq_fst (P : Nat → Bool) : Nat → Nat → Nat
  | 0, _ => 0
  | m + 1, k => if P k = true then k else jq_fst P m (k + 1)
def jq_dn (P : Nat → Bool) (a : Nat) : Nat → Nat → Nat
  | 0, r => r
  | b + 1, r => if a < b + 1 then jq_dn P a b (if P (b + 1) = true then b + 1 else r) else r
def jq_upl (P : Nat → Bool) : Nat → Nat → Nat → Nat
  | 0, _, r => r
  | m + 1, k, r => jq_upl P m (k + 1) (if P k = true then k else r)
def jq_any (P : Nat → Bool) : Nat → Nat → Bool → Bool
  | 0, _, s => s
  | m + 1, k, s => jq_any P m (k + 1) (s || P k)
def jq_cnt (P : Nat → Bool) : Nat → Nat → Nat → Nat
  | 0, _, r => r
  | m + 1, k, r => jq_cnt P m (k + 1) (r + if P k = true then 1 else 0)
def jq_snd (hid has dep : Nat → Bool) (sp : Nat → Nat → Bool) : Nat → Nat → Bool → Nat → Bool
  | 0, _, all, bf => all && decide (0 < bf)
  | m + 1, k, all, bf => if has k = true then jq_snd hid has dep sp m (k + 1) ((all && !hid k) && (if bf = 0 then dep k else sp k bf)) k else jq_snd hid has dep sp m (k + 1) (all && !hid k) bf
def vr_has (f : jy_I) (c : Nat) (b : Nat) : Bool := decide (¬ f 30 0 (8 * b + c) = 0)
def vr_dep (f : jy_I) (c : Nat) (b : Nat) : Bool := decide (¬ f 31 0 (8 * b + c) = 0)
def vr_hid (f : jy_I) (b : Nat) : Bool := decide (¬ f 29 0 b = 0)
def vr_std (f : jy_I) (c : Nat) (b : Nat) : Bool := decide (¬ f 47 0 (25 * c + b) = 0)
section RC
variable {Z : jx_Sc} {d : Nat} {K : jy_K} {f : jy_I} {g : jy_R} {call : jx_C}
theorem rm_next_l (h : jl_R K g) {c a : Nat} (hc : c < 8) (ha : a ≤ 100) : ∀ b r : Nat, b ≤ 24 → jx_run Z jX_RM_next call (8, [some (.inr (some (K.2.1 20 0))), some (.inl (nI a)), some (.inl (nI c)), some (.inl (nI r)), some (.inl (nI b))], [], jy_w K f g) = some (some (.inl (nI (jq_dn (vr_has f c) a b r))), jy_w K f g) := by
  intro b
  induction b with
  | zero =>
    intro r _
    have h0 : nI 0 ≤ nI a := nI_le (Nat.zero_le _) (by omega)
    rw [x_RM_next_8]
    simp only [x_RM_next_0, x_RM_next_1, x_RM_next_2, x_RM_next_3, x_RM_next_6, x_RM_next_10, x_RM_next_11, x_RM_next_14, x_RM_next_15, x_RM_next_18, x_RM_next_20, x_RM_next_22, x_RM_next_23, x_RM_next_24, x_RM_next_25, x_RM_next_26, x_RM_next_29, x_RM_next_31, x_RM_next_34, x_RM_next_35, x_RM_next_36, x_RM_next_39, x_RM_next_42, x_RM_next_43, h0, ↓reduceIte]
    rfl
  | succ b ih =>
    intro r hb
    rw [x_RM_next_8]
    by_cases hab : a < b + 1
    · have h0 : ¬ nI (b + 1) ≤ nI a := nI_ge hab (by omega)
      have hk : 8 * (b + 1) + c < 200 := by omega
      simp only [x_RM_next_0, x_RM_next_1, x_RM_next_2, x_RM_next_3, x_RM_next_6, x_RM_next_10, x_RM_next_11, x_RM_next_14, x_RM_next_15, x_RM_next_18, x_RM_next_20, x_RM_next_22, x_RM_next_23, x_RM_next_24, x_RM_next_25, x_RM_next_26, x_RM_next_29, x_RM_next_31, x_RM_next_34, x_RM_next_35, x_RM_next_36, x_RM_next_39, x_RM_next_42, x_RM_next_43, ru_is h, ru_g0 h, ru_s0 h, ru_g1 h, ru_s1 h, ru_g2 h, ru_s2 h, ru_g3 h, ru_g4 h, ru_s4 h, ru_g5 h, ru_g6 h, ru_g7 h, ru_g8 h, ru_s8 h, ru_g9 h, ru_g10 h, ru_g11 h, ru_g12 h, ru_g13 h, ru_g14 h, ru_g15 h, ru_g16 h, ru_g17 h, ru_g18 h, ru_g19 h, ru_g20 h, ru_g21 h, ru_g22 h, ru_g23 h, ru_g24 h, ru_g25 h, ru_g26 h, ru_g27 h, ru_g28 h, ru_g29 h, ru_n3 h, ru_m3 h, ru_n5 h, ru_m5 h, ru_n6 h, ru_m6 h, ru_n7 h, ru_m7 h, ru_n9 h, ru_m9 h, ru_n10 h, ru_m10 h, ru_n11 h, ru_m11 h, ru_n12 h, ru_m12 h, ru_n13 h, ru_m13 h, ru_n14 h, ru_m14 h, ru_n15 h, ru_m15 h, ru_n16 h, ru_m16 h, ru_n17 h, ru_m17 h, ru_n18 h, ru_m18 h, ru_n19 h, ru_m19 h, ru_n20 h, ru_m20 h, ru_n21 h, ru_m21 h, ru_n22 h, ru_m22 h, ru_n23 h, ru_m23 h, ru_n24 h, ru_m24 h, ru_n25 h, ru_m25 h, ru_n26 h, ru_m26 h, ru_n27 h, ru_m27 h, ru_n28 h, ru_m28 h, ru_n29 h, ru_m29 h, Option.bind_some, Option.toList_some, Option.toList_none, List.cons_append, List.nil_append, h0, ↓reduceIte, jz_8i, hk, jz_dec]
      simp only [jq_dn, hab, if_true]
      by_cases e : f 30 0 (8 * (b + 1) + c) = 0
      · have e' : vr_has f c (b + 1) = false := by simp [vr_has, e]
        simp only [e, e', ↓reduceIte, Bool.false_eq_true]
        exact ih r (by omega)
      · have e' : vr_has f c (b + 1) = true := by simp [vr_has, e]
        simp only [e, e', ↓reduceIte]
        exact ih (b + 1) (by omega)
    · have h0 : nI (b + 1) ≤ nI a := nI_le (by omega) (by omega)
      simp only [x_RM_next_0, x_RM_next_1, x_RM_next_2, x_RM_next_3, x_RM_next_6, x_RM_next_10, x_RM_next_11, x_RM_next_14, x_RM_next_15, x_RM_next_18, x_RM_next_20, x_RM_next_22, x_RM_next_23, x_RM_next_24, x_RM_next_25, x_RM_next_26, x_RM_next_29, x_RM_next_31, x_RM_next_34, x_RM_next_35, x_RM_next_36, x_RM_next_39, x_RM_next_42, x_RM_next_43, h0, ↓reduceIte]
      simp only [jq_dn, hab, if_false]
theorem rm_next (h : jl_R K g) {cc n c a : Nat} (hn : jn_R f cc n) (hc : c < 8) (ha : a ≤ 100) : jx_m Z (d + 1) 96 [.inr (some (K.2.1 20 0)), .inl (nI a), .inl (nI c)] (jy_w K f g) = some (some (.inl (nI (jq_dn (vr_has f c) a n 0))), jy_w K f g) := by
  simp only [e_RM_next, x_RM_next_0, x_RM_next_1, x_RM_next_2, x_RM_next_3, x_RM_next_6, x_RM_next_10, x_RM_next_11, x_RM_next_14, x_RM_next_15, x_RM_next_18, x_RM_next_20, x_RM_next_22, x_RM_next_23, x_RM_next_24, x_RM_next_25, x_RM_next_26, x_RM_next_29, x_RM_next_31, x_RM_next_34, x_RM_next_35, x_RM_next_36, x_RM_next_39, x_RM_next_42, x_RM_next_43, ru_is h, ru_g0 h, ru_s0 h, ru_g1 h, ru_s1 h, ru_g2 h, ru_s2 h, ru_g3 h, ru_g4 h, ru_s4 h, ru_g5 h, ru_g6 h, ru_g7 h, ru_g8 h, ru_s8 h, ru_g9 h, ru_g10 h, ru_g11 h, ru_g12 h, ru_g13 h, ru_g14 h, ru_g15 h, ru_g16 h, ru_g17 h, ru_g18 h, ru_g19 h, ru_g20 h, ru_g21 h, ru_g22 h, ru_g23 h, ru_g24 h, ru_g25 h, ru_g26 h, ru_g27 h, ru_g28 h, ru_g29 h, Option.bind_some, Option.toList_some, Option.toList_none, List.cons_append, List.nil_append, hn.2.1]
  exact rm_next_l h hc ha n 0 hn.2.2.2
theorem rm_latest_l (h : jl_R K g) {cc n c : Nat} (hn : jn_R f cc n) (hc : c < 8) : ∀ m k r : Nat, n + 1 - k = m → k ≤ 100 → jx_run Z jX_RM_latest call (4, [some (.inr (some (K.2.1 20 0))), some (.inl (nI c)), some (.inl (nI r)), some (.inl (nI k))], [], jy_w K f g) = some (some (.inl (nI (jq_upl (vr_has f c) m k r))), jy_w K f g) := by
  have h24 := hn.2.2.2
  intro m
  induction m with
  | zero =>
    intro k r hm hk
    have h0 : nI n < nI k := nI_lt (by omega) (by omega)
    rw [x_RM_latest_4]
    simp only [x_RM_latest_0, x_RM_latest_1, x_RM_latest_2, x_RM_latest_3, x_RM_latest_5, x_RM_latest_6, x_RM_latest_9, x_RM_latest_12, x_RM_latest_13, x_RM_latest_16, x_RM_latest_18, x_RM_latest_19, x_RM_latest_20, x_RM_latest_21, x_RM_latest_22, x_RM_latest_23, x_RM_latest_26, x_RM_latest_27, x_RM_latest_30, x_RM_latest_31, x_RM_latest_32, x_RM_latest_35, x_RM_latest_38, x_RM_latest_39, ru_is h, ru_g0 h, ru_s0 h, ru_g1 h, ru_s1 h, ru_g2 h, ru_s2 h, ru_g3 h, ru_g4 h, ru_s4 h, ru_g5 h, ru_g6 h, ru_g7 h, ru_g8 h, ru_s8 h, ru_g9 h, ru_g10 h, ru_g11 h, ru_g12 h, ru_g13 h, ru_g14 h, ru_g15 h, ru_g16 h, ru_g17 h, ru_g18 h, ru_g19 h, ru_g20 h, ru_g21 h, ru_g22 h, ru_g23 h, ru_g24 h, ru_g25 h, ru_g26 h, ru_g27 h, ru_g28 h, ru_g29 h, Option.bind_some, Option.toList_some, Option.toList_none, List.cons_append, List.nil_append, hn.2.1, h0, ↓reduceIte]
    rfl
  | succ m ih =>
    intro k r hm hk
    have h0 : ¬ nI n < nI k := nI_nlt (by omega) (by omega)
    have hkk : 8 * k + c < 200 := by omega
    rw [x_RM_latest_4]
    simp only [x_RM_latest_0, x_RM_latest_1, x_RM_latest_2, x_RM_latest_3, x_RM_latest_5, x_RM_latest_6, x_RM_latest_9, x_RM_latest_12, x_RM_latest_13, x_RM_latest_16, x_RM_latest_18, x_RM_latest_19, x_RM_latest_20, x_RM_latest_21, x_RM_latest_22, x_RM_latest_23, x_RM_latest_26, x_RM_latest_27, x_RM_latest_30, x_RM_latest_31, x_RM_latest_32, x_RM_latest_35, x_RM_latest_38, x_RM_latest_39, ru_is h, ru_g0 h, ru_s0 h, ru_g1 h, ru_s1 h, ru_g2 h, ru_s2 h, ru_g3 h, ru_g4 h, ru_s4 h, ru_g5 h, ru_g6 h, ru_g7 h, ru_g8 h, ru_s8 h, ru_g9 h, ru_g10 h, ru_g11 h, ru_g12 h, ru_g13 h, ru_g14 h, ru_g15 h, ru_g16 h, ru_g17 h, ru_g18 h, ru_g19 h, ru_g20 h, ru_g21 h, ru_g22 h, ru_g23 h, ru_g24 h, ru_g25 h, ru_g26 h, ru_g27 h, ru_g28 h, ru_g29 h, ru_n3 h, ru_m3 h, ru_n5 h, ru_m5 h, ru_n6 h, ru_m6 h, ru_n7 h, ru_m7 h, ru_n9 h, ru_m9 h, ru_n10 h, ru_m10 h, ru_n11 h, ru_m11 h, ru_n12 h, ru_m12 h, ru_n13 h, ru_m13 h, ru_n14 h, ru_m14 h, ru_n15 h, ru_m15 h, ru_n16 h, ru_m16 h, ru_n17 h, ru_m17 h, ru_n18 h, ru_m18 h, ru_n19 h, ru_m19 h, ru_n20 h, ru_m20 h, ru_n21 h, ru_m21 h, ru_n22 h, ru_m22 h, ru_n23 h, ru_m23 h, ru_n24 h, ru_m24 h, ru_n25 h, ru_m25 h, ru_n26 h, ru_m26 h, ru_n27 h, ru_m27 h, ru_n28 h, ru_m28 h, ru_n29 h, ru_m29 h, Option.bind_some, Option.toList_some, Option.toList_none, List.cons_append, List.nil_append, hn.2.1, h0, ↓reduceIte, jz_8i, hkk, jz_inc]
    simp only [jq_upl]
    by_cases e : f 30 0 (8 * k + c) = 0
    · have e' : vr_has f c k = false := by simp [vr_has, e]
      simp only [e, e', ↓reduceIte, Bool.false_eq_true]
      exact ih (k + 1) r (by omega) (by omega)
    · have e' : vr_has f c k = true := by simp [vr_has, e]
      simp only [e, e', ↓reduceIte]
      exact ih (k + 1) k (by omega) (by omega)
theorem rm_latest (h : jl_R K g) {cc n c : Nat} (hn : jn_R f cc n) (hc : c < 8) : jx_m Z (d + 1) 78 [.inr (some (K.2.1 20 0)), .inl (nI c)] (jy_w K f g) = some (some (.inl (nI (jq_upl (vr_has f c) n 1 0))), jy_w K f g) := by
  simp only [e_RM_latest, x_RM_latest_0, x_RM_latest_1, x_RM_latest_2, x_RM_latest_3, x_RM_latest_5, x_RM_latest_6, x_RM_latest_9, x_RM_latest_12, x_RM_latest_13, x_RM_latest_16, x_RM_latest_18, x_RM_latest_19, x_RM_latest_20, x_RM_latest_21, x_RM_latest_22, x_RM_latest_23, x_RM_latest_26, x_RM_latest_27, x_RM_latest_30, x_RM_latest_31, x_RM_latest_32, x_RM_latest_35, x_RM_latest_38, x_RM_latest_39]
  exact rm_latest_l h hn hc n 1 0 (by omega) (by omega)
theorem rm_hid_l (h : jl_R K g) {cc n : Nat} (hn : jn_R f cc n) {x : Int32} : ∀ (m k : Nat) (s : Bool), n + 1 - k = m → 1 ≤ k → k ≤ 100 → jx_run Z jX_RM_hiddenAfter call (6, [some (.inr (some (K.2.1 20 0))), some (.inl x), some (.inl (jq_b s)), some (.inl (nI k))], [], jy_w K f g) = some (some (.inl (jq_b (jq_any (vr_hid f) m k s))), jy_w K f g) := by
  have h24 := hn.2.2.2
  intro m
  induction m with
  | zero =>
    intro k s hm h1 hk
    have h0 : nI n < nI k := nI_lt (by omega) (by omega)
    rw [x_RM_hiddenAfter_6]
    simp only [x_RM_hiddenAfter_0, x_RM_hiddenAfter_1, x_RM_hiddenAfter_2, x_RM_hiddenAfter_3, x_RM_hiddenAfter_4, x_RM_hiddenAfter_5, x_RM_hiddenAfter_7, x_RM_hiddenAfter_8, x_RM_hiddenAfter_11, x_RM_hiddenAfter_14, x_RM_hiddenAfter_15, x_RM_hiddenAfter_18, x_RM_hiddenAfter_19, x_RM_hiddenAfter_22, x_RM_hiddenAfter_23, x_RM_hiddenAfter_24, x_RM_hiddenAfter_27, x_RM_hiddenAfter_28, x_RM_hiddenAfter_31, x_RM_hiddenAfter_32, x_RM_hiddenAfter_33, x_RM_hiddenAfter_36, x_RM_hiddenAfter_39, x_RM_hiddenAfter_40, ru_is h, ru_g0 h, ru_s0 h, ru_g1 h, ru_s1 h, ru_g2 h, ru_s2 h, ru_g3 h, ru_g4 h, ru_s4 h, ru_g5 h, ru_g6 h, ru_g7 h, ru_g8 h, ru_s8 h, ru_g9 h, ru_g10 h, ru_g11 h, ru_g12 h, ru_g13 h, ru_g14 h, ru_g15 h, ru_g16 h, ru_g17 h, ru_g18 h, ru_g19 h, ru_g20 h, ru_g21 h, ru_g22 h, ru_g23 h, ru_g24 h, ru_g25 h, ru_g26 h, ru_g27 h, ru_g28 h, ru_g29 h, Option.bind_some, Option.toList_some, Option.toList_none, List.cons_append, List.nil_append, hn.2.1, h0, ↓reduceIte, jq_any]
    cases s <;> simp [jq_b]
  | succ m ih =>
    intro k s hm h1 hk
    have h0 : ¬ nI n < nI k := nI_nlt (by omega) (by omega)
    have hkk : k < 25 := by omega
    rw [x_RM_hiddenAfter_6]
    simp only [x_RM_hiddenAfter_0, x_RM_hiddenAfter_1, x_RM_hiddenAfter_2, x_RM_hiddenAfter_3, x_RM_hiddenAfter_4, x_RM_hiddenAfter_5, x_RM_hiddenAfter_7, x_RM_hiddenAfter_8, x_RM_hiddenAfter_11, x_RM_hiddenAfter_14, x_RM_hiddenAfter_15, x_RM_hiddenAfter_18, x_RM_hiddenAfter_19, x_RM_hiddenAfter_22, x_RM_hiddenAfter_23, x_RM_hiddenAfter_24, x_RM_hiddenAfter_27, x_RM_hiddenAfter_28, x_RM_hiddenAfter_31, x_RM_hiddenAfter_32, x_RM_hiddenAfter_33, x_RM_hiddenAfter_36, x_RM_hiddenAfter_39, x_RM_hiddenAfter_40, ru_is h, ru_g0 h, ru_s0 h, ru_g1 h, ru_s1 h, ru_g2 h, ru_s2 h, ru_g3 h, ru_g4 h, ru_s4 h, ru_g5 h, ru_g6 h, ru_g7 h, ru_g8 h, ru_s8 h, ru_g9 h, ru_g10 h, ru_g11 h, ru_g12 h, ru_g13 h, ru_g14 h, ru_g15 h, ru_g16 h, ru_g17 h, ru_g18 h, ru_g19 h, ru_g20 h, ru_g21 h, ru_g22 h, ru_g23 h, ru_g24 h, ru_g25 h, ru_g26 h, ru_g27 h, ru_g28 h, ru_g29 h, ru_n3 h, ru_m3 h, ru_n5 h, ru_m5 h, ru_n6 h, ru_m6 h, ru_n7 h, ru_m7 h, ru_n9 h, ru_m9 h, ru_n10 h, ru_m10 h, ru_n11 h, ru_m11 h, ru_n12 h, ru_m12 h, ru_n13 h, ru_m13 h, ru_n14 h, ru_m14 h, ru_n15 h, ru_m15 h, ru_n16 h, ru_m16 h, ru_n17 h, ru_m17 h, ru_n18 h, ru_m18 h, ru_n19 h, ru_m19 h, ru_n20 h, ru_m20 h, ru_n21 h, ru_m21 h, ru_n22 h, ru_m22 h, ru_n23 h, ru_m23 h, ru_n24 h, ru_m24 h, ru_n25 h, ru_m25 h, ru_n26 h, ru_m26 h, ru_n27 h, ru_m27 h, ru_n28 h, ru_m28 h, ru_n29 h, ru_m29 h, Option.bind_some, Option.toList_some, Option.toList_none, List.cons_append, List.nil_append, hn.2.1, h0, ↓reduceIte, hkk, jz_inc]
    simp only [jq_any]
    cases s with
    | true =>
      have e0 : ¬ jq_b true = 0 := by decide
      have := ih (k + 1) true (by omega) (by omega) (by omega)
      simp only [e0, ↓reduceIte, Bool.true_or]
      exact this
    | false =>
      have e0 : jq_b false = 0 := by decide
      simp only [e0, ↓reduceIte, Bool.false_or]
      by_cases e : f 29 0 k = 0
      · have e' : vr_hid f k = false := by simp [vr_hid, e]
        simp only [e, e', ↓reduceIte]
        exact ih (k + 1) false (by omega) (by omega) (by omega)
      · have e' : vr_hid f k = true := by simp [vr_hid, e]
        simp only [e, e', ↓reduceIte]
        exact ih (k + 1) true (by omega) (by omega) (by omega)
theorem rm_hid (h : jl_R K g) {cc n a : Nat} (hn : jn_R f cc n) (ha : a ≤ 24) : jx_m Z (d + 1) 95 [.inr (some (K.2.1 20 0)), .inl (nI a)] (jy_w K f g) = some (some (.inl (jq_b (jq_any (vr_hid f) (n - a) (a + 1) false))), jy_w K f g) := by
  simp only [e_RM_hiddenAfter, x_RM_hiddenAfter_0, x_RM_hiddenAfter_1, x_RM_hiddenAfter_2, x_RM_hiddenAfter_3, x_RM_hiddenAfter_4, x_RM_hiddenAfter_5, x_RM_hiddenAfter_7, x_RM_hiddenAfter_8, x_RM_hiddenAfter_11, x_RM_hiddenAfter_14, x_RM_hiddenAfter_15, x_RM_hiddenAfter_18, x_RM_hiddenAfter_19, x_RM_hiddenAfter_22, x_RM_hiddenAfter_23, x_RM_hiddenAfter_24, x_RM_hiddenAfter_27, x_RM_hiddenAfter_28, x_RM_hiddenAfter_31, x_RM_hiddenAfter_32, x_RM_hiddenAfter_33, x_RM_hiddenAfter_36, x_RM_hiddenAfter_39, x_RM_hiddenAfter_40, jz_inc]
  exact rm_hid_l h hn (n - a) (a + 1) false (by omega) (by omega) (by omega)
theorem rm_std_l (h : jl_R K g) {cc n c : Nat} (hn : jn_R f cc n) (hc : c < 8) : ∀ m k r : Nat, n + 1 - k = m → k ≤ 100 → jx_run Z jX_RM_standing call (4, [some (.inr (some (K.2.1 20 0))), some (.inl (nI c)), some (.inl (nI r)), some (.inl (nI k))], [], jy_w K f g) = some (some (.inl (nI (jq_cnt (vr_std f c) m k r))), jy_w K f g) := by
  have h24 := hn.2.2.2
  intro m
  induction m with
  | zero =>
    intro k r hm hk
    have h0 : nI n < nI k := nI_lt (by omega) (by omega)
    rw [x_RM_standing_4]
    simp only [x_RM_standing_0, x_RM_standing_1, x_RM_standing_2, x_RM_standing_3, x_RM_standing_5, x_RM_standing_6, x_RM_standing_9, x_RM_standing_12, x_RM_standing_13, x_RM_standing_14, x_RM_standing_17, x_RM_standing_19, x_RM_standing_20, x_RM_standing_21, x_RM_standing_22, x_RM_standing_23, x_RM_standing_24, x_RM_standing_27, x_RM_standing_28, x_RM_standing_31, x_RM_standing_32, x_RM_standing_33, x_RM_standing_34, x_RM_standing_37, x_RM_standing_40, x_RM_standing_41, ru_is h, ru_g0 h, ru_s0 h, ru_g1 h, ru_s1 h, ru_g2 h, ru_s2 h, ru_g3 h, ru_g4 h, ru_s4 h, ru_g5 h, ru_g6 h, ru_g7 h, ru_g8 h, ru_s8 h, ru_g9 h, ru_g10 h, ru_g11 h, ru_g12 h, ru_g13 h, ru_g14 h, ru_g15 h, ru_g16 h, ru_g17 h, ru_g18 h, ru_g19 h, ru_g20 h, ru_g21 h, ru_g22 h, ru_g23 h, ru_g24 h, ru_g25 h, ru_g26 h, ru_g27 h, ru_g28 h, ru_g29 h, Option.bind_some, Option.toList_some, Option.toList_none, List.cons_append, List.nil_append, hn.2.1, h0, ↓reduceIte]
    rfl
  | succ m ih =>
    intro k r hm hk
    have h0 : ¬ nI n < nI k := nI_nlt (by omega) (by omega)
    have hkk : 25 * c + k < 200 := by omega
    rw [x_RM_standing_4]
    simp only [x_RM_standing_0, x_RM_standing_1, x_RM_standing_2, x_RM_standing_3, x_RM_standing_5, x_RM_standing_6, x_RM_standing_9, x_RM_standing_12, x_RM_standing_13, x_RM_standing_14, x_RM_standing_17, x_RM_standing_19, x_RM_standing_20, x_RM_standing_21, x_RM_standing_22, x_RM_standing_23, x_RM_standing_24, x_RM_standing_27, x_RM_standing_28, x_RM_standing_31, x_RM_standing_32, x_RM_standing_33, x_RM_standing_34, x_RM_standing_37, x_RM_standing_40, x_RM_standing_41, ru_is h, ru_g0 h, ru_s0 h, ru_g1 h, ru_s1 h, ru_g2 h, ru_s2 h, ru_g3 h, ru_g4 h, ru_s4 h, ru_g5 h, ru_g6 h, ru_g7 h, ru_g8 h, ru_s8 h, ru_g9 h, ru_g10 h, ru_g11 h, ru_g12 h, ru_g13 h, ru_g14 h, ru_g15 h, ru_g16 h, ru_g17 h, ru_g18 h, ru_g19 h, ru_g20 h, ru_g21 h, ru_g22 h, ru_g23 h, ru_g24 h, ru_g25 h, ru_g26 h, ru_g27 h, ru_g28 h, ru_g29 h, ru_n3 h, ru_m3 h, ru_n5 h, ru_m5 h, ru_n6 h, ru_m6 h, ru_n7 h, ru_m7 h, ru_n9 h, ru_m9 h, ru_n10 h, ru_m10 h, ru_n11 h, ru_m11 h, ru_n12 h, ru_m12 h, ru_n13 h, ru_m13 h, ru_n14 h, ru_m14 h, ru_n15 h, ru_m15 h, ru_n16 h, ru_m16 h, ru_n17 h, ru_m17 h, ru_n18 h, ru_m18 h, ru_n19 h, ru_m19 h, ru_n20 h, ru_m20 h, ru_n21 h, ru_m21 h, ru_n22 h, ru_m22 h, ru_n23 h, ru_m23 h, ru_n24 h, ru_m24 h, ru_n25 h, ru_m25 h, ru_n26 h, ru_m26 h, ru_n27 h, ru_m27 h, ru_n28 h, ru_m28 h, ru_n29 h, ru_m29 h, Option.bind_some, Option.toList_some, Option.toList_none, List.cons_append, List.nil_append, hn.2.1, h0, ↓reduceIte, jz_25i, hkk, jz_inc, Int32.add_zero]
    simp only [jq_cnt]
    by_cases e : f 47 0 (25 * c + k) = 0
    · have e' : vr_std f c k = false := by simp [vr_std, e]
      simp only [e, e', ↓reduceIte, Bool.false_eq_true]
      exact ih (k + 1) r (by omega) (by omega)
    · have e' : vr_std f c k = true := by simp [vr_std, e]
      simp only [e, e', ↓reduceIte]
      exact ih (k + 1) (r + 1) (by omega) (by omega)
theorem rm_std (h : jl_R K g) {cc n c : Nat} (hn : jn_R f cc n) (hc : c < 8) : jx_m Z (d + 1) 100 [.inr (some (K.2.1 20 0)), .inl (nI c)] (jy_w K f g) = some (some (.inl (nI (jq_cnt (vr_std f c) n 1 0))), jy_w K f g) := by
  simp only [e_RM_standing, x_RM_standing_0, x_RM_standing_1, x_RM_standing_2, x_RM_standing_3, x_RM_standing_5, x_RM_standing_6, x_RM_standing_9, x_RM_standing_12, x_RM_standing_13, x_RM_standing_14, x_RM_standing_17, x_RM_standing_19, x_RM_standing_20, x_RM_standing_21, x_RM_standing_22, x_RM_standing_23, x_RM_standing_24, x_RM_standing_27, x_RM_standing_28, x_RM_standing_31, x_RM_standing_32, x_RM_standing_33, x_RM_standing_34, x_RM_standing_37, x_RM_standing_40, x_RM_standing_41]
  exact rm_std_l h hn hc n 1 0 (by omega) (by omega)
end RC
