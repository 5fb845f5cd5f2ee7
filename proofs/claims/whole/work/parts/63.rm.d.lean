/-! rows of a state as a whole; the reference: sound, leaf, level, cancel -/
def jy_row {α : Type} (f : Nat → Nat → Nat → α) (k i : Nat) (h : Nat → α) : Nat → Nat → Nat → α := fun k' i' => if k' = k ∧ i' = i then h else f k' i'
section RW
variable {α : Type} {f : Nat → Nat → Nat → α} {k i k' i' j : Nat} {h h' : Nat → α} {v : α}
theorem jy_row_at : jy_row f k i h k i = h := if_pos ⟨rfl, rfl⟩
theorem jy_row_k (e : ¬ k' = k) : jy_row f k i h k' = f k' := by
  funext i'
  exact if_neg (fun q => e q.1)
theorem jy_row_i (e : ¬ i' = i) : jy_row f k i h k' i' = f k' i' := if_neg (fun q => e q.2)
theorem jy_up_row' : jy_up f k i j v = jy_row f k i (va_up (f k i) j v) := by
  funext k' i' j'
  unfold jy_up jy_row va_up
  by_cases e1 : k' = k
  · by_cases e2 : i' = i
    · by_cases e3 : j' = j
      · simp [e1, e2, e3]
      · simp [e1, e2, e3]
    · simp [e2]
  · simp [e1]
theorem jy_row_row : jy_row (jy_row f k i h) k i h' = jy_row f k i h' := by
  funext k' i'
  unfold jy_row
  by_cases e : k' = k ∧ i' = i <;> simp [e]
theorem jy_row_cm (e : ¬ k' = k) : jy_row (jy_row f k i h) k' i' h' = jy_row (jy_row f k' i' h') k i h := by
  funext a b
  unfold jy_row
  by_cases e1 : a = k
  · by_cases e2 : a = k'
    · exact absurd (e2.symm.trans e1) e
    · have e' : ¬ k = k' := fun q => e q.symm
      by_cases e3 : b = i <;> simp [e1, e3, e']
  · simp [e1]
theorem jy_pu_at : jy_up (jy_row f k i h) k i j v = jy_row f k i (va_up h j v) := by
  rw [jy_up_row', jy_row_at, jy_row_row]
theorem jy_pu_ne (e : ¬ k = k') : jy_up (jy_row f k' i' h) k i j v = jy_row (jy_up f k i j v) k' i' h := by
  rw [jy_up_row', jy_up_row', jy_row_k e, jy_row_cm e]
theorem jy_row_id : jy_row f k i (f k i) = f := by
  funext a b
  unfold jy_row
  by_cases e : a = k ∧ b = i
  · rw [if_pos e, e.1, e.2]
  · rw [if_neg e]
end RW
def vr_leaf (f : jy_I) (b c : Nat) : Int32 := if f 30 0 (8 * b + c) = 0 then 0 else if f 31 0 (8 * b + c) = 0 then jq_mix (f 35 0 (8 * b + c)) (8 * f 32 0 (8 * b + c) + nI c) (4 * f 33 0 (8 * b + c) + f 34 0 (8 * b + c)) else jq_mix (nI c) (f 34 0 (8 * b + c)) (f 25 0 c)
section RD
variable {Z : jx_Sc} {d : Nat} {K : jy_K} {f : jy_I} {g : jy_R} {call : jx_C}
theorem rm_sound_l (h : jl_R K g) {cc n c : Nat} (hn : jn_R f cc n) (hc : c < 8) : ∀ (m k : Nat) (all : Bool) (bf : Nat), n + 1 - k = m → 1 ≤ k → k ≤ 100 → bf ≤ 100 → jx_run Z jX_RM_sound (jx_m Z (d + 4)) (7, [some (.inr (some (K.2.1 20 0))), some (.inl (nI c)), some (.inl (jq_b all)), some (.inl (nI bf)), some (.inl (nI k))], [], jy_w K f g) = some (some (.inl (jq_b (jq_snd (vr_hid f) (vr_has f c) (vr_dep f c) (fun k bf => jq_sp (vr_E f) c (nI k) (nI bf)) m k all bf))), jy_w K f g) := by
  have h24 := hn.2.2.2
  have bt : ¬ jq_b true = 0 := by decide
  have bf0 : jq_b false = 0 := by decide
  intro m
  induction m with
  | zero =>
    intro k all bf hm h1 hk hb
    have h0 : nI n < nI k := nI_lt (by omega) (by omega)
    rw [x_RM_sound_7]
    simp only [x_RM_sound_0, x_RM_sound_1, x_RM_sound_2, x_RM_sound_3, x_RM_sound_4, x_RM_sound_5, x_RM_sound_9, x_RM_sound_10, x_RM_sound_13, x_RM_sound_16, x_RM_sound_17, x_RM_sound_20, x_RM_sound_21, x_RM_sound_24, x_RM_sound_26, x_RM_sound_27, x_RM_sound_30, x_RM_sound_31, x_RM_sound_34, x_RM_sound_35, x_RM_sound_36, x_RM_sound_37, x_RM_sound_40, x_RM_sound_42, x_RM_sound_44, x_RM_sound_45, x_RM_sound_46, x_RM_sound_47, x_RM_sound_48, x_RM_sound_51, x_RM_sound_52, x_RM_sound_55, x_RM_sound_56, x_RM_sound_59, x_RM_sound_60, x_RM_sound_63, x_RM_sound_65, x_RM_sound_67, x_RM_sound_68, x_RM_sound_69, x_RM_sound_70, x_RM_sound_71, x_RM_sound_74, x_RM_sound_77, x_RM_sound_78, x_RM_sound_80, x_RM_sound_81, x_RM_sound_82, x_RM_sound_85, x_RM_sound_88, x_RM_sound_89, x_RM_sound_92, x_RM_sound_93, x_RM_sound_94, x_RM_sound_96, x_RM_sound_97, x_RM_sound_100, x_RM_sound_103, x_RM_sound_104, x_RM_sound_107, x_RM_sound_108, x_RM_sound_111, x_RM_sound_112, x_RM_sound_115, x_RM_sound_116, ru_is h, ru_g0 h, ru_s0 h, ru_g1 h, ru_s1 h, ru_g2 h, ru_s2 h, ru_g3 h, ru_g4 h, ru_s4 h, ru_g5 h, ru_g6 h, ru_g7 h, ru_g8 h, ru_s8 h, ru_g9 h, ru_g10 h, ru_g11 h, ru_g12 h, ru_g13 h, ru_g14 h, ru_g15 h, ru_g16 h, ru_g17 h, ru_g18 h, ru_g19 h, ru_g20 h, ru_g21 h, ru_g22 h, ru_g23 h, ru_g24 h, ru_g25 h, ru_g26 h, ru_g27 h, ru_g28 h, ru_g29 h, Option.bind_some, Option.toList_some, Option.toList_none, List.cons_append, List.nil_append, hn.2.1, h0, ↓reduceIte, jq_snd]
    by_cases e : bf = 0
    · subst e
      have e0 : nI 0 ≤ 0 := by decide
      cases all <;> simp [jq_b, e0]
    · have e0 : ¬ nI bf ≤ 0 := nI_nle (by omega) (by omega)
      have e1 : 0 < bf := by omega
      cases all <;> simp [jq_b, e0, e1]
  | succ m ih =>
    intro k all bf hm h1 hk hb
    have h0 : ¬ nI n < nI k := nI_nlt (by omega) (by omega)
    have hk25 : k < 25 := by omega
    have hkk : 8 * k + c < 200 := by omega
    rw [x_RM_sound_7]
    simp only [x_RM_sound_0, x_RM_sound_1, x_RM_sound_2, x_RM_sound_3, x_RM_sound_4, x_RM_sound_5, x_RM_sound_9, x_RM_sound_10, x_RM_sound_13, x_RM_sound_16, x_RM_sound_17, x_RM_sound_20, x_RM_sound_21, x_RM_sound_24, x_RM_sound_26, x_RM_sound_27, x_RM_sound_30, x_RM_sound_31, x_RM_sound_34, x_RM_sound_35, x_RM_sound_36, x_RM_sound_37, x_RM_sound_40, x_RM_sound_42, x_RM_sound_44, x_RM_sound_45, x_RM_sound_46, x_RM_sound_47, x_RM_sound_48, x_RM_sound_51, x_RM_sound_52, x_RM_sound_55, x_RM_sound_56, x_RM_sound_59, x_RM_sound_60, x_RM_sound_63, x_RM_sound_65, x_RM_sound_67, x_RM_sound_68, x_RM_sound_69, x_RM_sound_70, x_RM_sound_71, x_RM_sound_74, x_RM_sound_77, x_RM_sound_78, x_RM_sound_80, x_RM_sound_81, x_RM_sound_82, x_RM_sound_85, x_RM_sound_88, x_RM_sound_89, x_RM_sound_92, x_RM_sound_93, x_RM_sound_94, x_RM_sound_96, x_RM_sound_97, x_RM_sound_100, x_RM_sound_103, x_RM_sound_104, x_RM_sound_107, x_RM_sound_108, x_RM_sound_111, x_RM_sound_112, x_RM_sound_115, x_RM_sound_116, ru_is h, ru_g0 h, ru_s0 h, ru_g1 h, ru_s1 h, ru_g2 h, ru_s2 h, ru_g3 h, ru_g4 h, ru_s4 h, ru_g5 h, ru_g6 h, ru_g7 h, ru_g8 h, ru_s8 h, ru_g9 h, ru_g10 h, ru_g11 h, ru_g12 h, ru_g13 h, ru_g14 h, ru_g15 h, ru_g16 h, ru_g17 h, ru_g18 h, ru_g19 h, ru_g20 h, ru_g21 h, ru_g22 h, ru_g23 h, ru_g24 h, ru_g25 h, ru_g26 h, ru_g27 h, ru_g28 h, ru_g29 h, ru_n3 h, ru_m3 h, ru_n5 h, ru_m5 h, ru_n6 h, ru_m6 h, ru_n7 h, ru_m7 h, ru_n9 h, ru_m9 h, ru_n10 h, ru_m10 h, ru_n11 h, ru_m11 h, ru_n12 h, ru_m12 h, ru_n13 h, ru_m13 h, ru_n14 h, ru_m14 h, ru_n15 h, ru_m15 h, ru_n16 h, ru_m16 h, ru_n17 h, ru_m17 h, ru_n18 h, ru_m18 h, ru_n19 h, ru_m19 h, ru_n20 h, ru_m20 h, ru_n21 h, ru_m21 h, ru_n22 h, ru_m22 h, ru_n23 h, ru_m23 h, ru_n24 h, ru_m24 h, ru_n25 h, ru_m25 h, ru_n26 h, ru_m26 h, ru_n27 h, ru_m27 h, ru_n28 h, ru_m28 h, ru_n29 h, ru_m29 h, Option.bind_some, Option.toList_some, Option.toList_none, List.cons_append, List.nil_append, rm_spends h hn hc, hn.2.1, h0, ↓reduceIte, jz_8i, hkk, hk25, jz_inc]
    simp only [jq_snd]
    have I1 := ih (k + 1)
    by_cases ea : all = true
    · subst ea
      simp only [bt, ↓reduceIte, Bool.true_and]
      by_cases eh : f 29 0 k = 0
      · have eh' : vr_hid f k = false := by simp [vr_hid, eh]
        simp only [eh, eh', ↓reduceIte, not_true_eq_false, not_false_eq_true, Bool.not_false, Bool.true_and]
        by_cases ee : f 30 0 (8 * k + c) = 0
        · have ee' : vr_has f c k = false := by simp [vr_has, ee]
          simp only [ee, ee', ↓reduceIte, Bool.false_eq_true]
          exact I1 true bf (by omega) (by omega) (by omega) hb
        · have ee' : vr_has f c k = true := by simp [vr_has, ee]
          by_cases eb : bf = 0
          · subst eb
            have e0 : nI 0 = 0 := nI_0
            by_cases ed : f 31 0 (8 * k + c) = 0
            · have ed' : vr_dep f c k = false := by simp [vr_dep, ed]
              have := I1 false k (by omega) (by omega) (by omega) (by omega)
              simp only [ee, ee', e0, ed, ed', ↓reduceIte, not_true_eq_false, not_false_eq_true]
              simpa [jq_b] using this
            · have ed' : vr_dep f c k = true := by simp [vr_dep, ed]
              have := I1 true k (by omega) (by omega) (by omega) (by omega)
              simp only [ee, ee', e0, ed, ed', ↓reduceIte, not_true_eq_false, not_false_eq_true]
              simpa [jq_b] using this
          · have e0 : ¬ nI bf = 0 := nI_ne0 (by omega) (by omega)
            cases es : jq_sp (vr_E f) c (nI k) (nI bf) with
            | false =>
              have := I1 false k (by omega) (by omega) (by omega) (by omega)
              simp only [ee, ee', e0, eb, es, bf0, ↓reduceIte, not_true_eq_false, not_false_eq_true]
              simpa [jq_b] using this
            | true =>
              have := I1 true k (by omega) (by omega) (by omega) (by omega)
              simp only [ee, ee', e0, eb, es, bt, ↓reduceIte, not_true_eq_false, not_false_eq_true]
              simpa [jq_b] using this
      · have eh' : vr_hid f k = true := by simp [vr_hid, eh]
        simp only [eh, eh', ↓reduceIte, not_true_eq_false, not_false_eq_true, Bool.not_true, Bool.false_and]
        by_cases ee : f 30 0 (8 * k + c) = 0
        · have ee' : vr_has f c k = false := by simp [vr_has, ee]
          have := I1 false bf (by omega) (by omega) (by omega) hb
          simp only [ee, ee', ↓reduceIte, Bool.false_eq_true]
          simpa [jq_b] using this
        · have ee' : vr_has f c k = true := by simp [vr_has, ee]
          have := I1 false k (by omega) (by omega) (by omega) (by omega)
          simp only [ee, ee', ↓reduceIte]
          simpa [jq_b] using this
    · have ea : all = false := by simpa using ea
      subst ea
      simp only [bf0, ↓reduceIte, Bool.false_and]
      by_cases ee : f 30 0 (8 * k + c) = 0
      · have ee' : vr_has f c k = false := by simp [vr_has, ee]
        have := I1 false bf (by omega) (by omega) (by omega) hb
        simp only [ee, ee', ↓reduceIte, Bool.false_eq_true]
        simpa [jq_b] using this
      · have ee' : vr_has f c k = true := by simp [vr_has, ee]
        have := I1 false k (by omega) (by omega) (by omega) (by omega)
        simp only [ee, ee', ↓reduceIte]
        simpa [jq_b] using this
theorem rm_sound (h : jl_R K g) {cc n c : Nat} (hn : jn_R f cc n) (hc : c < 8) : jx_m Z (d + 5) 82 [.inr (some (K.2.1 20 0)), .inl (nI c)] (jy_w K f g) = some (some (.inl (jq_b (jq_snd (vr_hid f) (vr_has f c) (vr_dep f c) (fun k bf => jq_sp (vr_E f) c (nI k) (nI bf)) n 1 true 0))), jy_w K f g) := by
  simp only [e_RM_sound, x_RM_sound_0, x_RM_sound_1, x_RM_sound_2, x_RM_sound_3, x_RM_sound_4, x_RM_sound_5, x_RM_sound_9, x_RM_sound_10, x_RM_sound_13, x_RM_sound_16, x_RM_sound_17, x_RM_sound_20, x_RM_sound_21, x_RM_sound_24, x_RM_sound_26, x_RM_sound_27, x_RM_sound_30, x_RM_sound_31, x_RM_sound_34, x_RM_sound_35, x_RM_sound_36, x_RM_sound_37, x_RM_sound_40, x_RM_sound_42, x_RM_sound_44, x_RM_sound_45, x_RM_sound_46, x_RM_sound_47, x_RM_sound_48, x_RM_sound_51, x_RM_sound_52, x_RM_sound_55, x_RM_sound_56, x_RM_sound_59, x_RM_sound_60, x_RM_sound_63, x_RM_sound_65, x_RM_sound_67, x_RM_sound_68, x_RM_sound_69, x_RM_sound_70, x_RM_sound_71, x_RM_sound_74, x_RM_sound_77, x_RM_sound_78, x_RM_sound_80, x_RM_sound_81, x_RM_sound_82, x_RM_sound_85, x_RM_sound_88, x_RM_sound_89, x_RM_sound_92, x_RM_sound_93, x_RM_sound_94, x_RM_sound_96, x_RM_sound_97, x_RM_sound_100, x_RM_sound_103, x_RM_sound_104, x_RM_sound_107, x_RM_sound_108, x_RM_sound_111, x_RM_sound_112, x_RM_sound_115, x_RM_sound_116]
  exact rm_sound_l h hn hc n 1 true 0 (by omega) (by omega) (by omega) (by omega)
theorem rm_leaf (h : jl_R K g) {b c : Nat} (hb : b ≤ 24) (hc : c < 8) : jx_m Z (d + 2) 103 [.inr (some (K.2.1 20 0)), .inl (nI b), .inl (nI c)] (jy_w K f g) = some (some (.inl (vr_leaf f b c)), jy_w K f g) := by
  have hk : 8 * b + c < 200 := by omega
  simp only [e_RM_leaf, x_RM_leaf_0, x_RM_leaf_2, x_RM_leaf_3, x_RM_leaf_4, x_RM_leaf_5, x_RM_leaf_6, x_RM_leaf_7, x_RM_leaf_8, x_RM_leaf_11, x_RM_leaf_12, x_RM_leaf_13, x_RM_leaf_16, x_RM_leaf_17, x_RM_leaf_18, x_RM_leaf_19, x_RM_leaf_22, x_RM_leaf_23, x_RM_leaf_24, x_RM_leaf_27, x_RM_leaf_28, x_RM_leaf_29, x_RM_leaf_32, x_RM_leaf_33, x_RM_leaf_34, x_RM_leaf_35, x_RM_leaf_38, x_RM_leaf_39, x_RM_leaf_40, x_RM_leaf_43, x_RM_leaf_46, x_RM_leaf_47, x_RM_leaf_50, x_RM_leaf_51, x_RM_leaf_52, x_RM_leaf_54, x_RM_leaf_55, x_RM_leaf_58, x_RM_leaf_59, x_RM_leaf_60, x_RM_leaf_61, x_RM_leaf_62, x_RM_leaf_63, x_RM_leaf_64, x_RM_leaf_65, x_RM_leaf_68, x_RM_leaf_69, x_RM_leaf_70, x_RM_leaf_71, x_RM_leaf_72, x_RM_leaf_75, x_RM_leaf_76, x_RM_leaf_77, x_RM_leaf_78, x_RM_leaf_81, ru_is h, ru_g0 h, ru_s0 h, ru_g1 h, ru_s1 h, ru_g2 h, ru_s2 h, ru_g3 h, ru_g4 h, ru_s4 h, ru_g5 h, ru_g6 h, ru_g7 h, ru_g8 h, ru_s8 h, ru_g9 h, ru_g10 h, ru_g11 h, ru_g12 h, ru_g13 h, ru_g14 h, ru_g15 h, ru_g16 h, ru_g17 h, ru_g18 h, ru_g19 h, ru_g20 h, ru_g21 h, ru_g22 h, ru_g23 h, ru_g24 h, ru_g25 h, ru_g26 h, ru_g27 h, ru_g28 h, ru_g29 h, ru_n3 h, ru_m3 h, ru_n5 h, ru_m5 h, ru_n6 h, ru_m6 h, ru_n7 h, ru_m7 h, ru_n9 h, ru_m9 h, ru_n10 h, ru_m10 h, ru_n11 h, ru_m11 h, ru_n12 h, ru_m12 h, ru_n13 h, ru_m13 h, ru_n14 h, ru_m14 h, ru_n15 h, ru_m15 h, ru_n16 h, ru_m16 h, ru_n17 h, ru_m17 h, ru_n18 h, ru_m18 h, ru_n19 h, ru_m19 h, ru_n20 h, ru_m20 h, ru_n21 h, ru_m21 h, ru_n22 h, ru_m22 h, ru_n23 h, ru_m23 h, ru_n24 h, ru_m24 h, ru_n25 h, ru_m25 h, ru_n26 h, ru_m26 h, ru_n27 h, ru_m27 h, ru_n28 h, ru_m28 h, ru_n29 h, ru_m29 h, Option.bind_some, Option.toList_some, Option.toList_none, List.cons_append, List.nil_append, rm_mix, jz_8i, hk, hc]
  unfold vr_leaf
  by_cases e1 : f 30 0 (8 * b + c) = 0
  · simp [e1]
  · by_cases e2 : f 31 0 (8 * b + c) = 0 <;> simp [e1, e2]
end RD
