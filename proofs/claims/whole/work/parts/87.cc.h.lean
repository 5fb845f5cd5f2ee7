/-! the class: what fits, build -/
def vc_fit (f : jy_I) (g : jy_R) (cc c : Nat) (r : Option Nat) : Bool := match r with
  | none => false
  | some a => decide (c < cc ∧ f 7 c 1 = 0 ∧ f 8 c 0 = 0) && (match ve_r f g (nI (vc_last f g c)) c with
    | none => false
    | some q => decide (¬ f 13 a 4 = 0 ∧ f 13 a 1 = nI (vc_last f g c) ∧ f 13 a 2 = f 13 q 3))
def vk_tk (f : jy_I) (g : jy_R) (cc : Nat) (hon : Int32) (W : Nat → Option Nat) (i : Nat) : Bool := if hon = 0 then true else vc_fit f g cc i (W i)
def vk_pe (f : jy_I) (g : jy_R) (cc : Nat) (hon : Int32) (W : Nat → Option Nat) (c : Nat) : Nat → Option Nat := fun i => if i < c ∧ vk_tk f g cc hon W i = true then W i else none
def vk_pw (W : Nat → Option Nat) (c : Nat) : Nat → Option Nat := fun i => if i < c then none else W i
theorem ve_row {f : jy_I} {g : jy_R} {n : Nat} {p : Nat → Option Nat} (h7 : f 0 0 7 = nI n) (h24 : n ≤ 24) : ve_r f (jy_row g 11 (n + 1) p) = ve_r f g := by
  funext b c
  unfold ve_r
  by_cases hb : b < 1 ∨ f 0 0 7 < b
  · rw [if_pos hb, if_pos hb]
  · obtain ⟨k, rfl, h1, h2⟩ := jz_blkC h7 h24 hb
    rw [if_neg hb, if_neg hb, nI_clamp (by omega), jy_row_i (by omega)]
theorem ve_rowk {f : jy_I} {g : jy_R} {k i : Nat} {p : Nat → Option Nat} (hk : ¬ 11 = k) : ve_r f (jy_row g k i p) = ve_r f g := by
  funext b c
  unfold ve_r
  rw [jy_row_k hk]
theorem vc_has_ve {f : jy_I} {g g' : jy_R} (h : ve_r f g' = ve_r f g) : vc_has f g' = vc_has f g := by
  funext c k
  unfold vc_has
  rw [h]
theorem vc_fit_ve {f : jy_I} {g g' : jy_R} (h : ve_r f g' = ve_r f g) : vc_fit f g' = vc_fit f g := by
  funext cc c r
  unfold vc_fit vc_last
  rw [vc_has_ve h, h]
section CH
variable {Z : jx_Sc} {d : Nat} {K : jy_K} {f : jy_I} {g : jy_R} {w : jx_W} {cc n : Nat} {call : jx_C} {x : Int32}
theorem cc_fit (h : jl_C K g cc n) (hn : jn_C f cc n) {c : Nat} (hc : c < 8) {r : Option Nat} (hr : jl_e K r) : jx_m Z (d + 4) 19 [.inr (some (K.2.1 0 0)), .inl (nI c), .inr r] (jy_w K f g) = some (some (.inl (jq_b (vc_fit f g cc c r))), jy_w K f g) := by
  have h8 := hn.2.2.1
  have hL := cc_last (Z := Z) (d := d) h hn hc
  rw [show jq_ld (vc_has f g c) 24 = vc_last f g c from rfl] at hL
  by_cases q : c < cc
  · have hcl := h.2.2.1 c q
    cases r with
    | none =>
      simp only [e_CC_isFitToFollow, x_CC_isFitToFollow_0, x_CC_isFitToFollow_1, x_CC_isFitToFollow_2, x_CC_isFitToFollow_5, x_CC_isFitToFollow_6, x_CC_isFitToFollow_7, x_CC_isFitToFollow_10, x_CC_isFitToFollow_11, x_CC_isFitToFollow_14, x_CC_isFitToFollow_15, x_CC_isFitToFollow_18, x_CC_isFitToFollow_21, x_CC_isFitToFollow_22, x_CC_isFitToFollow_25, x_CC_isFitToFollow_28, x_CC_isFitToFollow_31, x_CC_isFitToFollow_32, cu_is h, cu_g0 h, cu_g1 h, cu_g2 h, cu_g3 h, cu_g4 h, cu_g5 h, cu_g6 h, cu_g7 h, cu_g8 h, cu_g9 h, cu_g10 h, cu_s5 h, cu_s7 h, cu_s10 h, cu_n1 h, cu_m1 h, cu_n2 h, cu_m2 h, cu_n3 h, cu_n4 h, cu_n5 h, cu_n6 h, cc_coinAt_y h hn q, Option.bind_some, Option.toList_some, Option.toList_none, List.cons_append, List.nil_append, ↓reduceIte]
      simp [vc_fit, jq_b]
    | some a =>
      have ha := hr a rfl
      unfold vc_fit
      by_cases q1 : f 7 c 1 = 0
      · by_cases q2 : f 8 c 0 = 0
        · cases hq : ve_r f g (nI (vc_last f g c)) c with
          | none =>
            simp only [e_CC_isFitToFollow, x_CC_isFitToFollow_0, x_CC_isFitToFollow_1, x_CC_isFitToFollow_2, x_CC_isFitToFollow_5, x_CC_isFitToFollow_6, x_CC_isFitToFollow_7, x_CC_isFitToFollow_10, x_CC_isFitToFollow_11, x_CC_isFitToFollow_14, x_CC_isFitToFollow_15, x_CC_isFitToFollow_18, x_CC_isFitToFollow_21, x_CC_isFitToFollow_22, x_CC_isFitToFollow_25, x_CC_isFitToFollow_28, x_CC_isFitToFollow_31, x_CC_isFitToFollow_32, x_CC_isFitToFollow_33, x_CC_isFitToFollow_34, x_CC_isFitToFollow_35, x_CC_isFitToFollow_38, x_CC_isFitToFollow_40, x_CC_isFitToFollow_41, x_CC_isFitToFollow_43, x_CC_isFitToFollow_44, x_CC_isFitToFollow_47, x_CC_isFitToFollow_49, x_CC_isFitToFollow_51, x_CC_isFitToFollow_54, x_CC_isFitToFollow_55, x_CC_isFitToFollow_58, x_CC_isFitToFollow_61, x_CC_isFitToFollow_62, x_CC_isFitToFollow_65, x_CC_isFitToFollow_67, x_CC_isFitToFollow_70, x_CC_isFitToFollow_71, x_CC_isFitToFollow_74, x_CC_isFitToFollow_76, x_CC_isFitToFollow_79, x_CC_isFitToFollow_82, x_CC_isFitToFollow_83, x_CC_isFitToFollow_86, x_CC_isFitToFollow_87, cu_is h, cu_g0 h, cu_g1 h, cu_g2 h, cu_g3 h, cu_g4 h, cu_g5 h, cu_g6 h, cu_g7 h, cu_g8 h, cu_g9 h, cu_g10 h, cu_s5 h, cu_s7 h, cu_s10 h, cu_n1 h, cu_m1 h, cu_n2 h, cu_m2 h, cu_n3 h, cu_n4 h, cu_n5 h, cu_n6 h, cc_coinAt_y h hn q, cu_c0 hcl, cu_c1 hcl, cu_c2 hcl, cu_e0 hcl, cu_e1 hcl, cu_e2 hcl, cu_e3 hcl, cu_e4 hcl, cu_e5 hcl, cu_eis hcl, cu_n9 hcl, cu_l9 hcl, hL, cc_entryIn h hn hc, hq, q1, q2, Option.bind_some, Option.toList_some, Option.toList_none, List.cons_append, List.nil_append, ↓reduceIte, reduceCtorEq, not_true_eq_false]
            simp [jq_b]
          | some e =>
            have hE := ve_ok h hn hc hq
            simp only [e_CC_isFitToFollow, x_CC_isFitToFollow_0, x_CC_isFitToFollow_1, x_CC_isFitToFollow_2, x_CC_isFitToFollow_5, x_CC_isFitToFollow_6, x_CC_isFitToFollow_7, x_CC_isFitToFollow_10, x_CC_isFitToFollow_11, x_CC_isFitToFollow_14, x_CC_isFitToFollow_15, x_CC_isFitToFollow_18, x_CC_isFitToFollow_21, x_CC_isFitToFollow_22, x_CC_isFitToFollow_25, x_CC_isFitToFollow_28, x_CC_isFitToFollow_31, x_CC_isFitToFollow_32, x_CC_isFitToFollow_33, x_CC_isFitToFollow_34, x_CC_isFitToFollow_35, x_CC_isFitToFollow_38, x_CC_isFitToFollow_40, x_CC_isFitToFollow_41, x_CC_isFitToFollow_43, x_CC_isFitToFollow_44, x_CC_isFitToFollow_47, x_CC_isFitToFollow_49, x_CC_isFitToFollow_51, x_CC_isFitToFollow_54, x_CC_isFitToFollow_55, x_CC_isFitToFollow_58, x_CC_isFitToFollow_61, x_CC_isFitToFollow_62, x_CC_isFitToFollow_65, x_CC_isFitToFollow_67, x_CC_isFitToFollow_70, x_CC_isFitToFollow_71, x_CC_isFitToFollow_74, x_CC_isFitToFollow_76, x_CC_isFitToFollow_79, x_CC_isFitToFollow_82, x_CC_isFitToFollow_83, x_CC_isFitToFollow_86, x_CC_isFitToFollow_87, cu_is h, cu_g0 h, cu_g1 h, cu_g2 h, cu_g3 h, cu_g4 h, cu_g5 h, cu_g6 h, cu_g7 h, cu_g8 h, cu_g9 h, cu_g10 h, cu_s5 h, cu_s7 h, cu_s10 h, cu_n1 h, cu_m1 h, cu_n2 h, cu_m2 h, cu_n3 h, cu_n4 h, cu_n5 h, cu_n6 h, cc_coinAt_y h hn q, cu_c0 hcl, cu_c1 hcl, cu_c2 hcl, cu_e0 hcl, cu_e1 hcl, cu_e2 hcl, cu_e3 hcl, cu_e4 hcl, cu_e5 hcl, cu_eis hcl, cu_n9 hcl, cu_l9 hcl, hL, cc_entryIn h hn hc, hq, q, q1, q2, cu_v h.1 ha (show 4 < 6 by decide), cu_v h.1 ha (show 1 < 6 by decide), cu_v h.1 ha (show 2 < 6 by decide), cu_v h.1 hE (show 3 < 6 by decide), Option.bind_some, Option.toList_some, Option.toList_none, List.cons_append, List.nil_append, ↓reduceIte, reduceCtorEq, not_true_eq_false]
            by_cases z1 : f 13 a 4 = 0
            · simp [z1, jq_b]
            · by_cases z2 : f 13 a 1 = nI (vc_last f g c)
              · by_cases z3 : f 13 a 2 = f 13 e 3 <;> simp [z1, z2, z3, jq_b]
              · simp [z1, z2, jq_b]
        · simp only [e_CC_isFitToFollow, x_CC_isFitToFollow_0, x_CC_isFitToFollow_1, x_CC_isFitToFollow_2, x_CC_isFitToFollow_5, x_CC_isFitToFollow_6, x_CC_isFitToFollow_7, x_CC_isFitToFollow_10, x_CC_isFitToFollow_11, x_CC_isFitToFollow_14, x_CC_isFitToFollow_15, x_CC_isFitToFollow_18, x_CC_isFitToFollow_21, x_CC_isFitToFollow_22, x_CC_isFitToFollow_25, x_CC_isFitToFollow_28, x_CC_isFitToFollow_31, x_CC_isFitToFollow_32, cu_is h, cu_g0 h, cu_g1 h, cu_g2 h, cu_g3 h, cu_g4 h, cu_g5 h, cu_g6 h, cu_g7 h, cu_g8 h, cu_g9 h, cu_g10 h, cu_s5 h, cu_s7 h, cu_s10 h, cu_n1 h, cu_m1 h, cu_n2 h, cu_m2 h, cu_n3 h, cu_n4 h, cu_n5 h, cu_n6 h, cc_coinAt_y h hn q, cu_c0 hcl, cu_c1 hcl, cu_c2 hcl, cu_e0 hcl, cu_e1 hcl, cu_e2 hcl, cu_e3 hcl, cu_e4 hcl, cu_e5 hcl, cu_eis hcl, cu_n9 hcl, cu_l9 hcl, q1, q2, Option.bind_some, Option.toList_some, Option.toList_none, List.cons_append, List.nil_append, ↓reduceIte, reduceCtorEq, not_true_eq_false]
          simp [jq_b, q2]
      · simp only [e_CC_isFitToFollow, x_CC_isFitToFollow_0, x_CC_isFitToFollow_1, x_CC_isFitToFollow_2, x_CC_isFitToFollow_5, x_CC_isFitToFollow_6, x_CC_isFitToFollow_7, x_CC_isFitToFollow_10, x_CC_isFitToFollow_11, x_CC_isFitToFollow_14, x_CC_isFitToFollow_15, x_CC_isFitToFollow_18, x_CC_isFitToFollow_21, x_CC_isFitToFollow_22, x_CC_isFitToFollow_25, x_CC_isFitToFollow_28, x_CC_isFitToFollow_31, x_CC_isFitToFollow_32, cu_is h, cu_g0 h, cu_g1 h, cu_g2 h, cu_g3 h, cu_g4 h, cu_g5 h, cu_g6 h, cu_g7 h, cu_g8 h, cu_g9 h, cu_g10 h, cu_s5 h, cu_s7 h, cu_s10 h, cu_n1 h, cu_m1 h, cu_n2 h, cu_m2 h, cu_n3 h, cu_n4 h, cu_n5 h, cu_n6 h, cc_coinAt_y h hn q, cu_c0 hcl, cu_c1 hcl, cu_c2 hcl, cu_e0 hcl, cu_e1 hcl, cu_e2 hcl, cu_e3 hcl, cu_e4 hcl, cu_e5 hcl, cu_eis hcl, cu_n9 hcl, cu_l9 hcl, q1, Option.bind_some, Option.toList_some, Option.toList_none, List.cons_append, List.nil_append, ↓reduceIte, reduceCtorEq, not_false_eq_true]
        simp [jq_b, q1]
  · have qq : nI c < 0 ∨ f 0 0 5 ≤ nI c := Or.inr (by rw [hn.1]; exact nI_le (by omega) (by omega))
    have z : vc_fit f g cc c r = false := by
      unfold vc_fit
      cases r with
      | none => rfl
      | some a => simp [q]
    rw [z]
    cases r with
    | none =>
      simp only [e_CC_isFitToFollow, x_CC_isFitToFollow_0, x_CC_isFitToFollow_1, x_CC_isFitToFollow_2, x_CC_isFitToFollow_5, x_CC_isFitToFollow_6, x_CC_isFitToFollow_7, x_CC_isFitToFollow_10, x_CC_isFitToFollow_11, x_CC_isFitToFollow_14, x_CC_isFitToFollow_15, x_CC_isFitToFollow_18, x_CC_isFitToFollow_21, x_CC_isFitToFollow_22, x_CC_isFitToFollow_25, x_CC_isFitToFollow_28, x_CC_isFitToFollow_31, x_CC_isFitToFollow_32, cu_is h, cu_g0 h, cu_g1 h, cu_g2 h, cu_g3 h, cu_g4 h, cu_g5 h, cu_g6 h, cu_g7 h, cu_g8 h, cu_g9 h, cu_g10 h, cu_s5 h, cu_s7 h, cu_s10 h, cu_n1 h, cu_m1 h, cu_n2 h, cu_m2 h, cu_n3 h, cu_n4 h, cu_n5 h, cu_n6 h, cc_coinAt_n h qq, Option.bind_some, Option.toList_some, Option.toList_none, List.cons_append, List.nil_append, ↓reduceIte]
      simp [jq_b]
    | some a =>
      simp only [e_CC_isFitToFollow, x_CC_isFitToFollow_0, x_CC_isFitToFollow_1, x_CC_isFitToFollow_2, x_CC_isFitToFollow_5, x_CC_isFitToFollow_6, x_CC_isFitToFollow_7, x_CC_isFitToFollow_10, x_CC_isFitToFollow_11, x_CC_isFitToFollow_14, x_CC_isFitToFollow_15, x_CC_isFitToFollow_18, x_CC_isFitToFollow_21, x_CC_isFitToFollow_22, x_CC_isFitToFollow_25, x_CC_isFitToFollow_28, x_CC_isFitToFollow_31, x_CC_isFitToFollow_32, cu_is h, cu_g0 h, cu_g1 h, cu_g2 h, cu_g3 h, cu_g4 h, cu_g5 h, cu_g6 h, cu_g7 h, cu_g8 h, cu_g9 h, cu_g10 h, cu_s5 h, cu_s7 h, cu_s10 h, cu_n1 h, cu_m1 h, cu_n2 h, cu_m2 h, cu_n3 h, cu_n4 h, cu_n5 h, cu_n6 h, cc_coinAt_n h qq, Option.bind_some, Option.toList_some, Option.toList_none, List.cons_append, List.nil_append, ↓reduceIte, reduceCtorEq]
      simp [jq_b]
/-- the references in the middle of build -/
def vk_gb (f : jy_I) (g : jy_R) (cc n : Nat) (hon : Int32) (kk c : Nat) : jy_R := jy_row (jy_row g 11 (n + 1) (vk_pe f g cc hon (g kk 0) c)) kk 0 (vk_pw (g kk 0) c)
theorem vk_pe_ok (h : jl_C K g cc n) {hon : Int32} {kk c : Nat} (hkk : kk = 5 ∨ kk = 6) (i : Nat) (hi : i < 8) : jl_e K (vk_pe f g cc hon (g kk 0) c i) := by
  unfold vk_pe
  split
  · rcases hkk with rfl | rfl
    · exact (h.2.2.2.2.2.1 i hi).1
    · exact (h.2.2.2.2.2.1 i hi).2
  · intro a q
    cases q
theorem vk_gb_C (h : jl_C K g cc n) {hon : Int32} {kk c : Nat} (hkk : kk = 5 ∨ kk = 6) : jl_C K (vk_gb f g cc n hon kk c) cc n := by
  have k0 : ¬ 0 = kk := by omega
  have k3 : ¬ 3 = kk := by omega
  have k4 : ¬ 4 = kk := by omega
  have k7 : ¬ 7 = kk := by omega
  have k8 : ¬ 8 = kk := by omega
  have k10 : ¬ 10 = kk := by omega
  have k11 : ¬ 11 = kk := by omega
  unfold vk_gb
  refine h.gx (jy_x.rf h.1) h.2.2.2.2.2.2 ?_ ?_ ?_ ?_ ?_ ?_
  · rw [jy_row_k k0, jy_row_k (by decide)]
  · intro c _
    rw [jy_row_k k3, jy_row_k (by decide)]
  · intro b _ _
    rw [jy_row_k k4, jy_row_k (by decide)]
  · intro c _
    rw [jy_row_k k7, jy_row_k (by decide), jy_row_k k8, jy_row_k (by decide)]
    exact ⟨rfl, rfl⟩
  · intro b q1 q2
    rw [jy_row_k k10, jy_row_k (by decide), jy_row_k k11, jy_row_i (by omega)]
    exact ⟨rfl, rfl⟩
  · intro i hi
    have hw := h.2.2.2.2.2.1 i hi
    have hp : ∀ (W : Nat → Option Nat), jl_e K (W i) → jl_e K (vk_pw W c i) := by
      intro W hW
      unfold vk_pw
      split
      · intro a q
        cases q
      · exact hW
    rcases hkk with rfl | rfl
    · refine ⟨?_, ?_⟩
      · rw [jy_row_at]
        exact hp _ hw.1
      · rw [jy_row_k (by decide), jy_row_k (by decide)]
        exact hw.2
    · refine ⟨?_, ?_⟩
      · rw [jy_row_k (by decide), jy_row_k (by decide)]
        exact hw.1
      · rw [jy_row_at]
        exact hp _ hw.2
theorem jl_f.gg {b : Nat} {g' : jy_R} (h : jl_f K g b) (e : g' 10 b = g 10 b) : jl_f K g' b := by
  unfold jl_f at h ⊢
  rw [e]
  exact h
theorem cc_bld_l (h : jl_C K g cc n) (hn : jn_C f cc n) (hb : jl_f K g (n + 1)) {hon s : Int32} {kk : Nat} (hkk : kk = 5 ∨ kk = 6) : ∀ m c : Nat, 8 - c = m → c ≤ 8 → jx_run Z jX_CC_build (jx_m Z (d + 4)) (41, [some (.inr (some (K.2.1 0 0))), some (.inl hon), some (.inl s), some (.inr (some (K.2.1 10 (n + 1)))), some (.inr (some (K.2.1 kk 0))), some (.inl (nI c))], [], jy_w K f (vk_gb f g cc n hon kk c)) = jx_run Z jX_CC_build (jx_m Z (d + 4)) (90, [some (.inr (some (K.2.1 0 0))), some (.inl hon), some (.inl s), some (.inr (some (K.2.1 10 (n + 1)))), some (.inr (some (K.2.1 kk 0))), some (.inl (nI 8))], [], jy_w K f (vk_gb f g cc n hon kk 8)) := by
  have b1 : ¬ jq_b true = 0 := by decide
  have b0 : jq_b false = 0 := by decide
  have k10 : ¬ 10 = kk := by omega
  have k11 : ¬ 11 = kk := by omega
  intro m
  induction m with
  | zero =>
    intro c hm hc
    have e : c = 8 := by omega
    subst e
    have h0 : (8 : Int32) ≤ nI 8 := by decide
    rw [x_CC_build_41]
    simp only [x_CC_build_43, x_CC_build_45, x_CC_build_48, x_CC_build_49, x_CC_build_52, x_CC_build_53, x_CC_build_55, x_CC_build_57, x_CC_build_59, x_CC_build_60, x_CC_build_63, x_CC_build_66, x_CC_build_67, x_CC_build_70, x_CC_build_72, x_CC_build_74, x_CC_build_76, x_CC_build_77, x_CC_build_78, x_CC_build_80, x_CC_build_82, x_CC_build_83, x_CC_build_84, x_CC_build_87, h0, ↓reduceIte]
  | succ m ih =>
    intro c hm hc
    have h0 : ¬ (8 : Int32) ≤ nI c := nI_ge (b := 8) (by omega) (by omega)
    have hc8 : c < 8 := by omega
    have hC := vk_gb_C (f := f) (c := c) (hon := hon) h hkk
    have hbf : jl_f K (vk_gb f g cc n hon kk c) (n + 1) := hb.gg (by unfold vk_gb; rw [jy_row_k k10, jy_row_k (by decide)])
    have hve : ve_r f (vk_gb f g cc n hon kk c) = ve_r f g := by
      unfold vk_gb
      rw [ve_rowk k11, ve_row hn.2.1 hn.2.2.2]
    have hWc : vk_gb f g cc n hon kk c kk 0 c = g kk 0 c := by
      unfold vk_gb
      rw [jy_row_at]
      unfold vk_pw
      rw [if_neg (by omega)]
    have hWe : jl_e K (g kk 0 c) := by
      rcases hkk with rfl | rfl
      · exact (h.2.2.2.2.2.1 c hc8).1
      · exact (h.2.2.2.2.2.1 c hc8).2
    have rd : jx_gA (jy_w K f (vk_gb f g cc n hon kk c)) (K.2.1 kk 0) (nI c) = some (g kk 0 c) := by
      have : jx_gA (jy_w K f (vk_gb f g cc n hon kk c)) (K.2.1 kk 0) (nI c) = some (vk_gb f g cc n hon kk c kk 0 c) := by
        rcases hkk with rfl | rfl
        · exact cu_n5 hC hc8
        · exact cu_n6 hC hc8
      rw [hWc] at this
      exact this
    have wr : ∀ G : jy_R, jl_C K G cc n → jx_sA (jy_w K f G) (K.2.1 kk 0) (nI c) none = some (jy_w K f (jy_up G kk 0 c none)) := by
      intro G hG
      rcases hkk with rfl | rfl
      · exact cu_p5 hG hc8 (fun a q => by cases q)
      · exact cu_p6 hG hc8 (fun a q => by cases q)
    have hpw : va_up (vk_pw (g kk 0) c) c none = vk_pw (g kk 0) (c + 1) := by
      funext i
      unfold va_up vk_pw
      by_cases e1 : i = c
      · subst e1
        simp
      · by_cases e2 : i < c
        · simp [e1, e2, show i < c + 1 by omega]
        · simp [e1, e2, show ¬ i < c + 1 by omega]
    have I := ih (c + 1) (by omega) (by omega)
    have hfit := cc_fit (Z := Z) (d := d) hC hn hc8 hWe
    rw [vc_fit_ve hve] at hfit
    by_cases tk : vk_tk f g cc hon (g kk 0) c = true
    · have hpe : va_up (vk_pe f g cc hon (g kk 0) c) c (g kk 0 c) = vk_pe f g cc hon (g kk 0) (c + 1) := by
        funext i
        unfold va_up vk_pe
        by_cases e1 : i = c
        · subst e1
          simp [tk]
        · by_cases e2 : i < c
          · simp [e1, e2, show i < c + 1 by omega]
          · simp [e1, e2, show ¬ i < c + 1 by omega]
      have e2 : jy_up (jy_up (vk_gb f g cc n hon kk c) 11 (n + 1) c (g kk 0 c)) kk 0 c none = vk_gb f g cc n hon kk (c + 1) := by
        unfold vk_gb
        rw [jy_pu_ne k11, jy_pu_at, jy_pu_at, hpe, hpw]
      have hC2 : jl_C K (jy_up (vk_gb f g cc n hon kk c) 11 (n + 1) c (g kk 0 c)) cc n := by
        have : jy_up (vk_gb f g cc n hon kk c) 11 (n + 1) c (g kk 0 c) = jy_row (jy_row g 11 (n + 1) (vk_pe f g cc hon (g kk 0) (c + 1))) kk 0 (vk_pw (g kk 0) c) := by
          unfold vk_gb
          rw [jy_pu_ne k11, jy_pu_at, hpe]
        rw [this]
        refine hC.gx (jy_x.rf h.1) h.2.2.2.2.2.2 ?_ ?_ ?_ ?_ ?_ ?_
        · have k0 : ¬ 0 = kk := by omega
          unfold vk_gb
          rw [jy_row_k k0, jy_row_k k0, jy_row_k (by decide), jy_row_k (by decide)]
        · intro c _
          have k0 : ¬ 3 = kk := by omega
          unfold vk_gb
          rw [jy_row_k k0, jy_row_k k0, jy_row_k (by decide), jy_row_k (by decide)]
        · intro b _ _
          have k0 : ¬ 4 = kk := by omega
          unfold vk_gb
          rw [jy_row_k k0, jy_row_k k0, jy_row_k (by decide), jy_row_k (by decide)]
        · intro c _
          have k7 : ¬ 7 = kk := by omega
          have k8 : ¬ 8 = kk := by omega
          unfold vk_gb
          rw [jy_row_k k7, jy_row_k k7, jy_row_k (by decide), jy_row_k (by decide), jy_row_k k8, jy_row_k k8, jy_row_k (by decide), jy_row_k (by decide)]
          exact ⟨rfl, rfl⟩
        · intro b q1 q2
          unfold vk_gb
          rw [jy_row_k k10, jy_row_k k10, jy_row_k (by decide), jy_row_k (by decide), jy_row_k k11, jy_row_k k11, jy_row_i (by omega), jy_row_i (by omega)]
          exact ⟨rfl, rfl⟩
        · intro i hi
          have := hC.2.2.2.2.2.1 i hi
          have q5 : (jy_row (jy_row g 11 (n + 1) (vk_pe f g cc hon (g kk 0) (c + 1))) kk 0 (vk_pw (g kk 0) c)) 5 0 i = vk_gb f g cc n hon kk c 5 0 i := by
            unfold vk_gb jy_row
            by_cases z : 5 = kk <;> simp [z]
          have q6 : (jy_row (jy_row g 11 (n + 1) (vk_pe f g cc hon (g kk 0) (c + 1))) kk 0 (vk_pw (g kk 0) c)) 6 0 i = vk_gb f g cc n hon kk c 6 0 i := by
            unfold vk_gb jy_row
            by_cases z : 6 = kk <;> simp [z]
          rw [q5, q6]
          exact this
      have w11 := cf_p11 (f := f) h.1 hbf hc8 hWe
      have go : jx_run Z jX_CC_build (jx_m Z (d + 4)) (66, [some (.inr (some (K.2.1 0 0))), some (.inl hon), some (.inl s), some (.inr (some (K.2.1 10 (n + 1)))), some (.inr (some (K.2.1 kk 0))), some (.inl (nI c))], [], jy_w K f (vk_gb f g cc n hon kk c)) = jx_run Z jX_CC_build (jx_m Z (d + 4)) (90, [some (.inr (some (K.2.1 0 0))), some (.inl hon), some (.inl s), some (.inr (some (K.2.1 10 (n + 1)))), some (.inr (some (K.2.1 kk 0))), some (.inl (nI 8))], [], jy_w K f (vk_gb f g cc n hon kk 8)) := by
        simp only [x_CC_build_66, x_CC_build_67, x_CC_build_70, x_CC_build_72, x_CC_build_74, x_CC_build_76, x_CC_build_77, x_CC_build_78, x_CC_build_80, x_CC_build_82, x_CC_build_83, x_CC_build_84, x_CC_build_87, cf_b0 hbf, rd, w11, wr _ hC2, e2, jz_inc, Option.bind_some, Option.toList_some, Option.toList_none, List.cons_append, List.nil_append, ↓reduceIte]
        exact I
      rw [x_CC_build_41]
      unfold vk_tk at tk
      by_cases z : hon = 0
      · subst z
        simp only [x_CC_build_43, x_CC_build_45, x_CC_build_48, x_CC_build_49, x_CC_build_52, x_CC_build_53, x_CC_build_55, x_CC_build_57, x_CC_build_59, x_CC_build_60, x_CC_build_63, h0, ↓reduceIte]
        exact go
      · rw [if_neg z] at tk
        have ci : jx_is (jy_w K f (vk_gb f g cc n hon kk c)) (K.2.1 0 0) 0 = true := cu_is hC
        simp only [x_CC_build_43, x_CC_build_45, x_CC_build_48, x_CC_build_49, x_CC_build_52, x_CC_build_53, x_CC_build_55, x_CC_build_57, x_CC_build_59, x_CC_build_60, x_CC_build_63, rd, hfit, tk, b1, ci, h0, z, Option.bind_some, Option.toList_some, Option.toList_none, List.cons_append, List.nil_append, ↓reduceIte]
        exact go
    · have tk : vk_tk f g cc hon (g kk 0) c = false := by simpa using tk
      have hpe : vk_pe f g cc hon (g kk 0) c = vk_pe f g cc hon (g kk 0) (c + 1) := by
        funext i
        unfold vk_pe
        by_cases e1 : i = c
        · subst e1
          simp [tk]
        · by_cases e2 : i < c
          · simp [e2, show i < c + 1 by omega]
          · simp [e2, show ¬ i < c + 1 by omega]
      have e2 : jy_up (vk_gb f g cc n hon kk c) kk 0 c none = vk_gb f g cc n hon kk (c + 1) := by
        unfold vk_gb
        rw [jy_pu_at, hpe, hpw]
      have z : ¬ hon = 0 := by
        intro z
        unfold vk_tk at tk
        rw [if_pos z] at tk
        cases tk
      unfold vk_tk at tk
      rw [if_neg z] at tk
      have ci : jx_is (jy_w K f (vk_gb f g cc n hon kk c)) (K.2.1 0 0) 0 = true := cu_is hC
      rw [x_CC_build_41]
      simp only [x_CC_build_43, x_CC_build_45, x_CC_build_48, x_CC_build_49, x_CC_build_52, x_CC_build_53, x_CC_build_55, x_CC_build_57, x_CC_build_59, x_CC_build_60, x_CC_build_63, x_CC_build_66, x_CC_build_67, x_CC_build_70, x_CC_build_72, x_CC_build_74, x_CC_build_76, x_CC_build_77, x_CC_build_78, x_CC_build_80, x_CC_build_82, x_CC_build_83, x_CC_build_84, x_CC_build_87, rd, hfit, tk, b0, ci, wr _ hC, e2, h0, z, jz_inc, Option.bind_some, Option.toList_some, Option.toList_none, List.cons_append, List.nil_append, ↓reduceIte]
      exact I
def vk_bk (hon : Int32) : Nat := if hon = 0 then 6 else 5
def vk_bg (K : jy_K) (f : jy_I) (g : jy_R) (cc n : Nat) (hon s : Int32) : jy_R := vk_gb (vb_f f (n + 1) s) (vb_g K g (n + 1)) cc n hon (vk_bk hon) 8
def vk_bf (K : jy_K) (f : jy_I) (g : jy_R) (cc n : Nat) (hon s : Int32) : jy_I := jy_up (jy_row (vb_f f (n + 1) s) 12 (n + 1) (vt_T (fun c => vc_lf (vb_f f (n + 1) s) (vk_bg K f g cc n hon s 11 (n + 1) c)) (vb_f f (n + 1) s 12 (n + 1)))) 0 0 7 (nI (n + 1))
theorem vb_n {b : Nat} (hn : jn_C f cc n) : jn_C (vb_f f b x) cc n := by
  unfold jn_C at hn ⊢
  have e5 : vb_f f b x 0 0 5 = f 0 0 5 := by simp [vb_f, jy_up, jy_z]
  have e7 : vb_f f b x 0 0 7 = f 0 0 7 := by simp [vb_f, jy_up, jy_z]
  rw [e5, e7]
  exact hn
theorem cc_bld (h : jl_C K g cc n) (hF : jl_F K cc n) (hn : jn_C f cc n) {hon s : Int32} (hs : s = 0 ∨ s = 1) : jx_m Z (d + 5) 18 [.inr (some (K.2.1 0 0)), .inl hon, .inl s] (jy_w K f g) = some (if n = 24 then (some (.inl (-2)), jy_w K f g) else (some (.inl (nI (n + 1))), jy_w (vb_K K (n + 1)) (vk_bf K f g cc n hon s) (jy_up (vk_bg K f g cc n hon s) 4 0 (n + 1) (some K.2.2.1)))) := by
  have h24 := hn.2.2.2
  by_cases q : n = 24
  · subst q
    have e : ¬ nI 24 < 24 := by decide
    simp only [e_CC_build, x_CC_build_0, x_CC_build_1, x_CC_build_4, x_CC_build_6, x_CC_build_9, x_CC_build_11, cu_is h, cu_g0 h, cu_g1 h, cu_g2 h, cu_g3 h, cu_g4 h, cu_g5 h, cu_g6 h, cu_g7 h, cu_g8 h, cu_g9 h, cu_g10 h, cu_s5 h, cu_s7 h, cu_s10 h, cu_n1 h, cu_m1 h, cu_n2 h, cu_m2 h, cu_n3 h, cu_n4 h, cu_n5 h, cu_n6 h, hn.2.1, e, Option.bind_some, Option.toList_some, Option.toList_none, List.cons_append, List.nil_append, ↓reduceIte]
  · have e : nI n < 24 := nI_lt (b := 24) (by omega) (by omega)
    obtain ⟨n10, n11, n12⟩ := hF.2 (n + 1) (by omega)
    obtain ⟨x, l10, l11, l12, a10, a11, a12⟩ := vb_x h.1 n10 n11 n12
    have hC := vb_Cl h hF
    have hfr := vb_fr (g := g) h.1 n10 n11 n12
    have hn' := vb_n (b := n + 1) (x := s) hn
    have ini := bl_init (Z := Z) (d := d + 3) (f := f) (g := g) h.1 n10 n11 n12 hs
    have a0 : (vb_K K (n + 1)).2.1 0 0 = K.2.1 0 0 := (x.2.1 0 0 h.2.1.1.1).2
    have hkk : vk_bk hon = 5 ∨ vk_bk hon = 6 := by unfold vk_bk; split <;> simp
    have L := cc_bld_l (Z := Z) (d := d) hC hn' hfr (hon := hon) (s := s) hkk 8 0 (by omega) (by omega)
    have g0 : vk_gb (vb_f f (n + 1) s) (vb_g K g (n + 1)) cc n hon (vk_bk hon) 0 = vb_g K g (n + 1) := by
      unfold vk_gb
      have p1 : vk_pe (vb_f f (n + 1) s) (vb_g K g (n + 1)) cc hon (vb_g K g (n + 1) (vk_bk hon) 0) 0 = vb_g K g (n + 1) 11 (n + 1) := by
        funext i
        simp [vk_pe, vb_g, jy_up, jy_z]
      have p2 : vk_pw (vb_g K g (n + 1) (vk_bk hon) 0) 0 = vb_g K g (n + 1) (vk_bk hon) 0 := by
        funext i
        simp [vk_pw]
      rw [p1, jy_row_id, p2, jy_row_id]
    rw [g0] at L
    have hC2 : jl_C (vb_K K (n + 1)) (vk_bg K f g cc n hon s) cc n := vk_gb_C hC hkk
    have hf2 : jl_f (vb_K K (n + 1)) (vk_bg K f g cc n hon s) (n + 1) := hfr.gg (by
      have k10 : ¬ 10 = vk_bk hon := by omega
      unfold vk_bg vk_gb
      rw [jy_row_k k10, jy_row_k (by decide)])
    have he2 : ∀ c, c < 8 → jl_e (vb_K K (n + 1)) (vk_bg K f g cc n hon s 11 (n + 1) c) := by
      intro c hc
      have k11 : ¬ 11 = vk_bk hon := by omega
      unfold vk_bg vk_gb
      rw [jy_row_k k11, jy_row_at]
      exact vk_pe_ok hC hkk c hc
    have ap := cc_app (Z := Z) (d := d) hC2 hn'.2.1 (show n < 24 by omega) hf2 he2
    rw [a0, a10] at ap
    have ci : jx_is (jy_w (vb_K K (n + 1)) (vb_f f (n + 1) s) (vk_bg K f g cc n hon s)) (K.2.1 0 0) 0 = true := by
      have := cu_is (f := vb_f f (n + 1) s) hC2
      rw [a0] at this
      exact this
    have g8 : jx_gF (jy_w (vb_K K (n + 1)) (vb_f f (n + 1) s) (vb_g K g (n + 1))) (K.2.1 0 0) 0 8 = some (.inr (some ((vb_K K (n + 1)).2.1 5 0))) := by
      have := cu_g8 (f := vb_f f (n + 1) s) hC
      rw [a0] at this
      exact this
    have g9 : jx_gF (jy_w (vb_K K (n + 1)) (vb_f f (n + 1) s) (vb_g K g (n + 1))) (K.2.1 0 0) 0 9 = some (.inr (some ((vb_K K (n + 1)).2.1 6 0))) := by
      have := cu_g9 (f := vb_f f (n + 1) s) hC
      rw [a0] at this
      exact this
    rw [a0, a10] at L
    have fin : jx_run Z jX_CC_build (jx_m Z (d + 4)) (90, [some (.inr (some (K.2.1 0 0))), some (.inl hon), some (.inl s), some (.inr (some K.2.2.1)), some (.inr (some ((vb_K K (n + 1)).2.1 (vk_bk hon) 0))), some (.inl (nI 8))], [], jy_w (vb_K K (n + 1)) (vb_f f (n + 1) s) (vk_bg K f g cc n hon s)) = some (some (.inl (nI (n + 1))), jy_w (vb_K K (n + 1)) (vk_bf K f g cc n hon s) (jy_up (vk_bg K f g cc n hon s) 4 0 (n + 1) (some K.2.2.1))) := by
      simp only [x_CC_build_90, x_CC_build_91, x_CC_build_92, x_CC_build_95, ci, ap, Option.bind_some, Option.toList_some, Option.toList_none, List.cons_append, List.nil_append, ↓reduceIte]
      rfl
    by_cases z : hon = 0
    · have hb6 : vk_bk hon = 6 := if_pos z
      have L' := L
      rw [hb6] at L' fin
      simp only [e_CC_build, x_CC_build_0, x_CC_build_1, x_CC_build_4, x_CC_build_6, x_CC_build_9, x_CC_build_11, x_CC_build_12, x_CC_build_15, x_CC_build_16, x_CC_build_17, x_CC_build_20, x_CC_build_21, x_CC_build_22, x_CC_build_25, x_CC_build_26, x_CC_build_29, x_CC_build_32, x_CC_build_33, x_CC_build_36, x_CC_build_38, x_CC_build_39, cu_is h, cu_g0 h, cu_g1 h, cu_g2 h, cu_g3 h, cu_g4 h, cu_g5 h, cu_g6 h, cu_g7 h, cu_g8 h, cu_g9 h, cu_g10 h, cu_s5 h, cu_s7 h, cu_s10 h, cu_n1 h, cu_m1 h, cu_n2 h, cu_m2 h, cu_n3 h, cu_n4 h, cu_n5 h, cu_n6 h, hn.2.1, e, q, jy_w_nx, ini, g9, z, Option.bind_some, Option.toList_some, Option.toList_none, List.cons_append, List.nil_append, ↓reduceIte]
      rw [z] at L' fin
      exact (show _ = _ from L').trans ((by rw [show vk_gb (vb_f f (n + 1) s) (vb_g K g (n + 1)) cc n 0 6 8 = vk_bg K f g cc n 0 s from by unfold vk_bg vk_bk; simp]; exact fin))
    · have hb5 : vk_bk hon = 5 := if_neg z
      have L' := L
      rw [hb5] at L' fin
      simp only [e_CC_build, x_CC_build_0, x_CC_build_1, x_CC_build_4, x_CC_build_6, x_CC_build_9, x_CC_build_11, x_CC_build_12, x_CC_build_15, x_CC_build_16, x_CC_build_17, x_CC_build_20, x_CC_build_21, x_CC_build_22, x_CC_build_25, x_CC_build_26, x_CC_build_29, x_CC_build_32, x_CC_build_33, x_CC_build_36, x_CC_build_38, x_CC_build_39, cu_is h, cu_g0 h, cu_g1 h, cu_g2 h, cu_g3 h, cu_g4 h, cu_g5 h, cu_g6 h, cu_g7 h, cu_g8 h, cu_g9 h, cu_g10 h, cu_s5 h, cu_s7 h, cu_s10 h, cu_n1 h, cu_m1 h, cu_n2 h, cu_m2 h, cu_n3 h, cu_n4 h, cu_n5 h, cu_n6 h, hn.2.1, e, q, jy_w_nx, ini, g8, z, Option.bind_some, Option.toList_some, Option.toList_none, List.cons_append, List.nil_append, ↓reduceIte]
      exact (show _ = _ from L').trans ((by rw [show vk_gb (vb_f f (n + 1) s) (vb_g K g (n + 1)) cc n hon 5 8 = vk_bg K f g cc n hon s from by unfold vk_bg; rw [hb5]]; exact fin))
end CH
