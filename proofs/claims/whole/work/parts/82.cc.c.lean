/-! the class: begin, cancel, trees -/
def vc_zr (S : Nat → Int32) (k : Nat) : Nat → Int32 := fun j => if j < k then 0 else S j
theorem vc_zr_up {S : Nat → Int32} {k : Nat} : va_up (vc_zr S k) k 0 = vc_zr S (k + 1) := by
  funext j
  unfold va_up vc_zr
  by_cases e1 : j = k
  · rw [if_pos e1, if_pos (by omega)]
  · by_cases e2 : j < k
    · rw [if_neg e1, if_pos e2, if_pos (by omega)]
    · rw [if_neg e1, if_neg e2, if_neg (by omega)]
theorem vc_zr_0 {S : Nat → Int32} : vc_zr S 0 = S := by
  funext j
  unfold vc_zr
  rw [if_neg (by omega)]
def vk_beg (f : jy_I) (c : Nat) (u b a t : Int32) : jy_I := jy_up (jy_up (jy_up (jy_up (jy_up f 8 c 0 1) 8 c 1 u) 8 c 2 b) 8 c 3 a) 8 c 4 t
def vc_ch (f : jy_I) (c b : Nat) : Nat := (f 9 c b - 1).toNatClampNeg
def vc_cok (f : jy_I) (c : Nat) : Prop := ∀ b, 1 ≤ b → b ≤ 24 → vc_std f c b = true → ∃ u, u < 4 ∧ f 9 c b - 1 = nI u
def vc_can (f : jy_I) (c u : Nat) : jy_I := jy_up (jy_row f 1 0 (jq_cnc (vc_std f c) (vc_ch f c) 24 1 (va_up (f 1 0) u (f 1 0 u + 10)))) 8 c 0 0
/-- a block that is made but not yet in its place -/
def jl_f (K : jy_K) (g : jy_R) (b : Nat) : Prop := jy_lv K 10 b ∧ jy_lv K 11 b ∧ jy_lv K 12 b ∧ g 10 b 0 = some (K.2.1 11 b) ∧ g 10 b 1 = some (K.2.1 12 b)
theorem jl_b.f {K : jy_K} {g : jy_R} {b : Nat} (h : jl_b K g b) : jl_f K g b := ⟨h.1, h.2.1, h.2.2.1, h.2.2.2.2.1, h.2.2.2.2.2⟩
def vt_a (lf old : Nat → Int32) (c : Nat) : Nat → Int32 := fun j => if 8 ≤ j ∧ j < 8 + c then lf (j - 8) else old j
def vt_b (p : Nat → Int32) (v F i : Nat) : Nat → Int32 := fun j => if F ≤ j ∧ j < i then jq_over (p (2 * j)) (p (2 * j + 1)) (nI v) else p j
def vt_T (lf old : Nat → Int32) : Nat → Int32 := vt_b (vt_b (vt_b (vt_a lf old 8) 1 4 8) 2 2 4) 3 1 2
/-- the leaf of an entry -/
def vc_lf (f : jy_I) (r : Option Nat) : Int32 := match r with
  | none => 0
  | some a => f 13 a 5
section CC
variable {Z : jx_Sc} {d : Nat} {K : jy_K} {f : jy_I} {g : jy_R} {w : jx_W} {cc n : Nat} {call : jx_C}
theorem ex_beg_l {F : jy_I} {c : Nat} (ho : jy_ok K) (hcl : jl_c K g c) {x1 x2 x3 x4 : Int32} : ∀ m k : Nat, 25 - k = m → k ≤ 25 → jx_run Z jX_Ex_begin call (29, [some (.inr (some (K.2.1 8 c))), some (.inl x1), some (.inl x2), some (.inl x3), some (.inl x4), some (.inl (nI k))], [], jy_w K (jy_row F 9 c (vc_zr (f 9 c) k)) g) = some (none, jy_w K (jy_row F 9 c (vc_zr (f 9 c) 25)) g) := by
  intro m
  induction m with
  | zero =>
    intro k hm hk
    have e : k = 25 := by omega
    subst e
    have h0 : Int32.ofNat 25 ≤ nI 25 := by decide
    rw [x_Ex_begin_29]
    simp only [x_Ex_begin_31, x_Ex_begin_32, x_Ex_begin_35, x_Ex_begin_36, x_Ex_begin_39, x_Ex_begin_40, x_Ex_begin_43, x_Ex_begin_45, x_Ex_begin_46, x_Ex_begin_47, x_Ex_begin_50, x_Ex_begin_53, cu_c0 hcl, cu_c1 hcl, cu_c2 hcl, cu_e0 hcl, cu_e1 hcl, cu_e2 hcl, cu_e3 hcl, cu_e4 hcl, cu_e5 hcl, cu_eis hcl, cu_n9 hcl, cu_l9 hcl, h0, Option.bind_some, Option.toList_some, Option.toList_none, List.cons_append, List.nil_append, ↓reduceIte]
  | succ m ih =>
    intro k hm hk
    have h0 : ¬ Int32.ofNat 25 ≤ nI k := nI_ge (b := 25) (by omega) (by omega)
    have hk25 : k < 25 := by omega
    rw [x_Ex_begin_29]
    simp only [x_Ex_begin_31, x_Ex_begin_32, x_Ex_begin_35, x_Ex_begin_36, x_Ex_begin_39, x_Ex_begin_40, x_Ex_begin_43, x_Ex_begin_45, x_Ex_begin_46, x_Ex_begin_47, x_Ex_begin_50, x_Ex_begin_53, cu_c0 hcl, cu_c1 hcl, cu_c2 hcl, cu_e0 hcl, cu_e1 hcl, cu_e2 hcl, cu_e3 hcl, cu_e4 hcl, cu_e5 hcl, cu_eis hcl, cu_n9 hcl, cu_l9 hcl, cu_m9 ho hcl hk25, h0, jz_inc, jy_pu_at, vc_zr_up, Option.bind_some, Option.toList_some, Option.toList_none, List.cons_append, List.nil_append, ↓reduceIte]
    exact ih (k + 1) (by omega) (by omega)
theorem ex_beg {c : Nat} (ho : jy_ok K) (hcl : jl_c K g c) {u b a t : Int32} : jx_m Z (d + 1) 31 [.inr (some (K.2.1 8 c)), .inl u, .inl b, .inl a, .inl t] (jy_w K f g) = some (none, jy_w K (jy_row (vk_beg f c u b a t) 9 c (vc_zr (f 9 c) 25)) g) := by
  have L := ex_beg_l (Z := Z) (call := jx_m Z d) (f := f) (F := vk_beg f c u b a t) ho hcl (x1 := u) (x2 := b) (x3 := a) (x4 := t) 25 0 (by omega) (by omega)
  have e0 : jy_row (vk_beg f c u b a t) 9 c (vc_zr (f 9 c) 0) = vk_beg f c u b a t := by
    have : vc_zr (f 9 c) 0 = vk_beg f c u b a t 9 c := by
      rw [vc_zr_0]
      funext j
      simp [vk_beg, jy_up]
    rw [this, jy_row_id]
  rw [e0] at L
  have h01 : (1 : Int32) = 0 ∨ (1 : Int32) = 1 := Or.inr rfl
  simp only [e_Ex_begin, x_Ex_begin_0, x_Ex_begin_1, x_Ex_begin_2, x_Ex_begin_5, x_Ex_begin_6, x_Ex_begin_7, x_Ex_begin_10, x_Ex_begin_11, x_Ex_begin_12, x_Ex_begin_15, x_Ex_begin_16, x_Ex_begin_17, x_Ex_begin_20, x_Ex_begin_21, x_Ex_begin_23, x_Ex_begin_26, x_Ex_begin_27, cu_c0 hcl, cu_c1 hcl, cu_c2 hcl, cu_e0 hcl, cu_e1 hcl, cu_e2 hcl, cu_e3 hcl, cu_e4 hcl, cu_e5 hcl, cu_eis hcl, cu_n9 hcl, cu_l9 hcl, cu_x0 ho hcl, cu_x1 ho hcl, cu_x2 ho hcl, cu_x3 ho hcl, cu_x4 ho hcl, h01, Option.bind_some, Option.toList_some, Option.toList_none, List.cons_append, List.nil_append, ↓reduceIte]
  exact L
theorem cc_can_l (h : jl_C K g cc n) {c : Nat} (hcl : jl_c K g c) (hok : vc_cok f c) {x : Int32} : ∀ (m k : Nat) (M : Nat → Int32), 25 - k = m → 1 ≤ k → k ≤ 25 → jx_run Z jX_CC_cancel (jx_m Z (d + 2)) (9, [some (.inr (some (K.2.1 0 0))), some (.inr (some (K.2.1 8 c))), some (.inl x), some (.inl (nI k))], [], jy_w K (jy_row f 1 0 M) g) = some (none, jy_w K (jy_up (jy_row f 1 0 (jq_cnc (vc_std f c) (vc_ch f c) m k M)) 8 c 0 0) g) := by
  have b1 : ¬ jq_b true = 0 := by decide
  have b0 : jq_b false = 0 := by decide
  intro m
  induction m with
  | zero =>
    intro k M hm h1 hk
    have e : k = 25 := by omega
    subst e
    have h0 : (24 : Int32) < nI 25 := by decide
    have h01 : (0 : Int32) = 0 ∨ (0 : Int32) = 1 := Or.inl rfl
    rw [x_CC_cancel_9]
    simp only [x_CC_cancel_10, x_CC_cancel_12, x_CC_cancel_15, x_CC_cancel_16, x_CC_cancel_17, x_CC_cancel_20, x_CC_cancel_23, x_CC_cancel_24, x_CC_cancel_25, x_CC_cancel_26, x_CC_cancel_29, x_CC_cancel_30, x_CC_cancel_33, x_CC_cancel_36, x_CC_cancel_39, x_CC_cancel_40, x_CC_cancel_41, x_CC_cancel_44, cu_x0 h.1 hcl, h0, h01, Option.bind_some, Option.toList_some, Option.toList_none, List.cons_append, List.nil_append, ↓reduceIte]
    rfl
  | succ m ih =>
    intro k M hm h1 hk
    have h0 : ¬ (24 : Int32) < nI k := nI_nlt (a := 24) (b := k) (by omega) (by omega)
    have hs : vc_std (jy_row f 1 0 M) c k = vc_std f c k := by unfold vc_std; rw [jy_row_k (by decide)]
    rw [x_CC_cancel_9]
    simp only [x_CC_cancel_10, x_CC_cancel_12, x_CC_cancel_15, x_CC_cancel_16, x_CC_cancel_17, x_CC_cancel_20, x_CC_cancel_23, x_CC_cancel_24, x_CC_cancel_25, x_CC_cancel_26, x_CC_cancel_29, x_CC_cancel_30, x_CC_cancel_33, x_CC_cancel_36, x_CC_cancel_39, x_CC_cancel_40, x_CC_cancel_41, x_CC_cancel_44, cu_is h, cu_g0 h, cu_g1 h, cu_g2 h, cu_g3 h, cu_g4 h, cu_g5 h, cu_g6 h, cu_g7 h, cu_g8 h, cu_g9 h, cu_g10 h, cu_s5 h, cu_s7 h, cu_s10 h, cu_n1 h, cu_m1 h, cu_n2 h, cu_m2 h, cu_n3 h, cu_n4 h, cu_n5 h, cu_n6 h, cu_c0 hcl, cu_c1 hcl, cu_c2 hcl, cu_e0 hcl, cu_e1 hcl, cu_e2 hcl, cu_e3 hcl, cu_e4 hcl, cu_e5 hcl, cu_eis hcl, cu_n9 hcl, cu_l9 hcl, ex_is hcl h1 (show k ≤ 24 by omega), ex_ch hcl h1 (show k ≤ 24 by omega), hs, h0, jz_inc, Option.bind_some, Option.toList_some, Option.toList_none, List.cons_append, List.nil_append, ↓reduceIte]
    simp only [jq_cnc]
    by_cases e : vc_std f c k = true
    · obtain ⟨u, hu, hcu⟩ := hok k h1 (by omega) e
      have hcc : vc_ch f c k = u := by unfold vc_ch; exact jz_of hcu (by omega)
      have e9 : jy_row f 1 0 M 9 c k = f 9 c k := by rw [jy_row_k (by decide)]
      simp only [e, b1, e9, hcu, hcc, x_CC_cancel_10, x_CC_cancel_12, x_CC_cancel_15, x_CC_cancel_16, x_CC_cancel_17, x_CC_cancel_20, x_CC_cancel_23, x_CC_cancel_24, x_CC_cancel_25, x_CC_cancel_26, x_CC_cancel_29, x_CC_cancel_30, x_CC_cancel_33, x_CC_cancel_36, x_CC_cancel_39, x_CC_cancel_40, x_CC_cancel_41, x_CC_cancel_44, cu_is h, cu_g0 h, cu_g1 h, cu_g2 h, cu_g3 h, cu_g4 h, cu_g5 h, cu_g6 h, cu_g7 h, cu_g8 h, cu_g9 h, cu_g10 h, cu_s5 h, cu_s7 h, cu_s10 h, cu_n1 h, cu_m1 h, cu_n2 h, cu_m2 h, cu_n3 h, cu_n4 h, cu_n5 h, cu_n6 h, cu_c0 hcl, cu_c1 hcl, cu_c2 hcl, cu_e0 hcl, cu_e1 hcl, cu_e2 hcl, cu_e3 hcl, cu_e4 hcl, cu_e5 hcl, cu_eis hcl, cu_n9 hcl, cu_l9 hcl, cc_pay h hu, jy_row_at, jy_pu_at, jz_inc, Option.bind_some, Option.toList_some, Option.toList_none, List.cons_append, List.nil_append, ↓reduceIte]
      exact ih (k + 1) _ (by omega) (by omega) (by omega)
    · have e : vc_std f c k = false := by simpa using e
      simp only [e, b0, ↓reduceIte, Bool.false_eq_true]
      exact ih (k + 1) M (by omega) (by omega) (by omega)
theorem cc_can (h : jl_C K g cc n) {c u : Nat} (hcl : jl_c K g c) (hu : u < 4) (hk : vc_cok f c) : jx_m Z (d + 3) 35 [.inr (some (K.2.1 0 0)), .inr (some (K.2.1 8 c)), .inl (nI u)] (jy_w K f g) = some (none, jy_w K (vc_can f c u) g) := by
  have L := cc_can_l (Z := Z) (d := d) h hcl hk (x := nI u) 24 1 (va_up (f 1 0) u (f 1 0 u + 10)) (by omega) (by omega) (by omega)
  rw [← jy_up_row'] at L
  simp only [e_CC_cancel, x_CC_cancel_0, x_CC_cancel_1, x_CC_cancel_2, x_CC_cancel_4, x_CC_cancel_7, x_CC_cancel_8, cu_is h, cu_g0 h, cu_g1 h, cu_g2 h, cu_g3 h, cu_g4 h, cu_g5 h, cu_g6 h, cu_g7 h, cu_g8 h, cu_g9 h, cu_g10 h, cu_s5 h, cu_s7 h, cu_s10 h, cu_n1 h, cu_m1 h, cu_n2 h, cu_m2 h, cu_n3 h, cu_n4 h, cu_n5 h, cu_n6 h, cc_pay h hu, Option.bind_some, Option.toList_some, Option.toList_none, List.cons_append, List.nil_append, ↓reduceIte]
  exact L
theorem bl_root {b : Nat} (hb : jl_b K g b) : jx_m Z (d + 1) 59 [.inr (some (K.2.1 10 b))] (jy_w K f g) = some (some (.inl (f 12 b 1)), jy_w K f g) := by
  have := cu_n12 (Z := Z) (f := f) hb (k := 1) (by omega)
  have this : jx_gI Z 0 (jy_w K f g) (K.2.1 12 b) 1 = some (f 12 b 1) := this
  simp only [e_Bl_root, x_Bl_root_0, x_Bl_root_1, x_Bl_root_4, x_Bl_root_5, x_Bl_root_6, cu_b0 hb, cu_b1 hb, cu_b2 hb, cu_bis hb, cu_n11 hb, cu_n12 hb, this, Option.bind_some, Option.toList_some, Option.toList_none, List.cons_append, List.nil_append]
theorem cf_b0 {b : Nat} (h : jl_f K g b) : jx_gF (jy_w K f g) (K.2.1 10 b) 3 0 = some (.inr (some (K.2.1 11 b))) := (jy_gFr h.1 rfl rfl).trans (congrArg (fun z => some (Sum.inr z)) h.2.2.2.1)
theorem cf_b1 {b : Nat} (h : jl_f K g b) : jx_gF (jy_w K f g) (K.2.1 10 b) 3 1 = some (.inr (some (K.2.1 12 b))) := (jy_gFr h.1 rfl rfl).trans (congrArg (fun z => some (Sum.inr z)) h.2.2.2.2)
theorem cf_n11 {b : Nat} (h : jl_f K g b) {k : Nat} (hk : k < 8) : jx_gA (jy_w K f g) (K.2.1 11 b) (nI k) = some (g 11 b k) := by rw [jy_gA h.2.1 rfl rfl, if_neg (nI_in hk (by decide)), nI_clamp (Nat.lt_trans hk (by decide))]
theorem cf_n12 {b : Nat} (h : jl_f K g b) {k : Nat} (hk : k < 16) : jx_gI Z 0 (jy_w K f g) (K.2.1 12 b) (nI k) = some (f 12 b k) := by rw [jy_gI h.2.2.1 rfl, if_neg (nI_in hk (by decide)), nI_clamp (Nat.lt_trans hk (by decide))]
theorem cf_m12 {b : Nat} {x : Int32} (ho : jy_ok K) (h : jl_f K g b) {k : Nat} (hk : k < 16) : jx_sI 0 (jy_w K f g) (K.2.1 12 b) (nI k) x = some (jy_w K (jy_up f 12 b k x) g) := by rw [jy_sI ho h.2.2.1 rfl, if_neg (nI_in hk (by decide)), nI_clamp (Nat.lt_trans hk (by decide))]
theorem bl_gr_a {b : Nat} (ho : jy_ok K) (hb : jl_f K g b) (he : ∀ c, c < 8 → jl_e K (g 11 b c)) {l3 : Option jx_V} : ∀ (m c : Nat) (l2 : Option jx_V), 8 - c = m → c ≤ 8 → ∃ l2', jx_run Z jX_Bl_growTree call (2, [some (.inr (some (K.2.1 10 b))), some (.inl (nI c)), l2, l3], [], jy_w K (jy_row f 12 b (vt_a (fun c => vc_lf f (g 11 b c)) (f 12 b) c)) g) = jx_run Z jX_Bl_growTree call (42, [some (.inr (some (K.2.1 10 b))), some (.inl (nI 8)), l2', l3], [], jy_w K (jy_row f 12 b (vt_a (fun c => vc_lf f (g 11 b c)) (f 12 b) 8)) g) := by
  intro m
  induction m with
  | zero =>
    intro c l2 hm hc
    have e : c = 8 := by omega
    subst e
    have h0 : (8 : Int32) ≤ nI 8 := by decide
    refine ⟨l2, ?_⟩
    rw [x_Bl_growTree_2]
    simp only [x_Bl_growTree_3, x_Bl_growTree_5, x_Bl_growTree_8, x_Bl_growTree_9, x_Bl_growTree_12, x_Bl_growTree_13, x_Bl_growTree_14, x_Bl_growTree_15, x_Bl_growTree_16, x_Bl_growTree_19, x_Bl_growTree_21, x_Bl_growTree_22, x_Bl_growTree_23, x_Bl_growTree_24, x_Bl_growTree_27, x_Bl_growTree_28, x_Bl_growTree_31, x_Bl_growTree_32, x_Bl_growTree_35, x_Bl_growTree_36, x_Bl_growTree_39, h0, ↓reduceIte]
  | succ m ih =>
    intro c l2 hm hc
    have h0 : ¬ (8 : Int32) ≤ nI c := nI_ge (b := 8) (by omega) (by omega)
    have hc8 : c < 8 := by omega
    have h16 : 8 + c < 16 := by omega
    have e8 : (8 : Int32) + nI c = nI (8 + c) := jz_add 8 c
    obtain ⟨l2', I⟩ := ih (c + 1) (some (.inr (g 11 b c))) (by omega) (by omega)
    refine ⟨l2', ?_⟩
    have eup : va_up (vt_a (fun c => vc_lf f (g 11 b c)) (f 12 b) c) (8 + c) (vc_lf f (g 11 b c)) = vt_a (fun c => vc_lf f (g 11 b c)) (f 12 b) (c + 1) := by
      funext j
      unfold va_up vt_a
      by_cases e1 : j = 8 + c
      · subst e1
        rw [if_pos rfl, if_pos (by omega), show 8 + c - 8 = c by omega]
      · by_cases e2 : 8 ≤ j ∧ j < 8 + c
        · rw [if_neg e1, if_pos e2, if_pos (by omega)]
        · rw [if_neg e1, if_neg e2, if_neg (by omega)]
    rw [← eup] at I
    rw [x_Bl_growTree_2]
    cases hr : g 11 b c with
    | none =>
      rw [hr] at I
      simp only [x_Bl_growTree_3, x_Bl_growTree_5, x_Bl_growTree_8, x_Bl_growTree_9, x_Bl_growTree_12, x_Bl_growTree_13, x_Bl_growTree_14, x_Bl_growTree_15, x_Bl_growTree_16, x_Bl_growTree_19, x_Bl_growTree_21, x_Bl_growTree_22, x_Bl_growTree_23, x_Bl_growTree_24, x_Bl_growTree_27, x_Bl_growTree_28, x_Bl_growTree_31, x_Bl_growTree_32, x_Bl_growTree_35, x_Bl_growTree_36, x_Bl_growTree_39, cf_b0 hb, cf_b1 hb, cf_n11 hb hc8, cf_m12 ho hb h16, e8, hr, h0, jz_inc, jy_pu_at, Option.bind_some, Option.toList_some, Option.toList_none, List.cons_append, List.nil_append, ↓reduceIte]
      exact I
    | some a =>
      have ha := he c hc8 a hr
      have e13 : jy_row f 12 b (vt_a (fun c => vc_lf f (g 11 b c)) (f 12 b) c) 13 a 5 = f 13 a 5 := by rw [jy_row_k (by decide)]
      rw [hr] at I
      simp only [x_Bl_growTree_3, x_Bl_growTree_5, x_Bl_growTree_8, x_Bl_growTree_9, x_Bl_growTree_12, x_Bl_growTree_13, x_Bl_growTree_14, x_Bl_growTree_15, x_Bl_growTree_16, x_Bl_growTree_19, x_Bl_growTree_21, x_Bl_growTree_22, x_Bl_growTree_23, x_Bl_growTree_24, x_Bl_growTree_27, x_Bl_growTree_28, x_Bl_growTree_31, x_Bl_growTree_32, x_Bl_growTree_35, x_Bl_growTree_36, x_Bl_growTree_39, cf_b0 hb, cf_b1 hb, cf_n11 hb hc8, cf_m12 ho hb h16, cu_v ho ha (show 5 < 6 by decide), e8, e13, hr, h0, jz_inc, jy_pu_at, Option.bind_some, Option.toList_some, Option.toList_none, List.cons_append, List.nil_append, ↓reduceIte, reduceCtorEq]
      exact I
theorem bl_gr_b {b : Nat} (ho : jy_ok K) (hb : jl_f K g b) {p : Nat → Int32} {v F : Nat} (hF : F = 4 ∨ F = 2 ∨ F = 1) : ∀ m i : Nat, 2 * F - i = m → F ≤ i → i ≤ 2 * F → jx_run Z jX_Bl_growTree (jx_m Z (d + 2)) (53, [some (.inr (some (K.2.1 10 b))), some (.inl (nI F)), some (.inl (nI v)), some (.inl (nI i))], [], jy_w K (jy_row f 12 b (vt_b p v F i)) g) = jx_run Z jX_Bl_growTree (jx_m Z (d + 2)) (94, [some (.inr (some (K.2.1 10 b))), some (.inl (nI F)), some (.inl (nI v)), some (.inl (nI (2 * F)))], [], jy_w K (jy_row f 12 b (vt_b p v F (2 * F))) g) := by
  have e2F : (2 : Int32) * nI F = nI (2 * F) := jz_x2 F
  intro m
  induction m with
  | zero =>
    intro i hm h1 h2
    have e : i = 2 * F := by omega
    subst e
    have h0 : nI (2 * F) ≤ nI (2 * F) := nI_le (Nat.le_refl _) (by omega)
    rw [x_Bl_growTree_53]
    simp only [x_Bl_growTree_54, x_Bl_growTree_55, x_Bl_growTree_56, x_Bl_growTree_57, x_Bl_growTree_60, x_Bl_growTree_61, x_Bl_growTree_64, x_Bl_growTree_65, x_Bl_growTree_66, x_Bl_growTree_69, x_Bl_growTree_70, x_Bl_growTree_71, x_Bl_growTree_72, x_Bl_growTree_73, x_Bl_growTree_74, x_Bl_growTree_77, x_Bl_growTree_78, x_Bl_growTree_79, x_Bl_growTree_80, x_Bl_growTree_81, x_Bl_growTree_82, x_Bl_growTree_83, x_Bl_growTree_84, x_Bl_growTree_87, x_Bl_growTree_88, x_Bl_growTree_91, e2F, h0, ↓reduceIte]
  | succ m ih =>
    intro i hm h1 h2
    have h0 : ¬ nI (2 * F) ≤ nI i := nI_ge (by omega) (by omega)
    have hi : i < 16 := by omega
    have hi1 : 2 * i < 16 := by omega
    have hi2 : 2 * i + 1 < 16 := by omega
    have q1 : vt_b p v F i (2 * i) = p (2 * i) := by unfold vt_b; rw [if_neg (by omega)]
    have q2 : vt_b p v F i (2 * i + 1) = p (2 * i + 1) := by unfold vt_b; rw [if_neg (by omega)]
    have eup : va_up (vt_b p v F i) i (jq_over (p (2 * i)) (p (2 * i + 1)) (nI v)) = vt_b p v F (i + 1) := by
      funext j
      unfold va_up vt_b
      by_cases e1 : j = i
      · subst e1
        rw [if_pos rfl, if_pos (by omega)]
      · by_cases e2 : F ≤ j ∧ j < i
        · rw [if_neg e1, if_pos e2, if_pos (by omega)]
        · rw [if_neg e1, if_neg e2, if_neg (by omega)]
    have I := ih (i + 1) (by omega) (by omega) (by omega)
    rw [← eup] at I
    rw [x_Bl_growTree_53]
    simp only [x_Bl_growTree_54, x_Bl_growTree_55, x_Bl_growTree_56, x_Bl_growTree_57, x_Bl_growTree_60, x_Bl_growTree_61, x_Bl_growTree_64, x_Bl_growTree_65, x_Bl_growTree_66, x_Bl_growTree_69, x_Bl_growTree_70, x_Bl_growTree_71, x_Bl_growTree_72, x_Bl_growTree_73, x_Bl_growTree_74, x_Bl_growTree_77, x_Bl_growTree_78, x_Bl_growTree_79, x_Bl_growTree_80, x_Bl_growTree_81, x_Bl_growTree_82, x_Bl_growTree_83, x_Bl_growTree_84, x_Bl_growTree_87, x_Bl_growTree_88, x_Bl_growTree_91, cf_b1 hb, cf_n12 hb hi1, cf_n12 hb hi2, cf_m12 ho hb hi, cc_join, jz_x2, jz_inc, h0, jy_row_at, q1, q2, jy_pu_at, Option.bind_some, Option.toList_some, Option.toList_none, List.cons_append, List.nil_append, ↓reduceIte]
    exact I
theorem bl_gr {b : Nat} (ho : jy_ok K) (hb : jl_f K g b) (he : ∀ c, c < 8 → jl_e K (g 11 b c)) : jx_m Z (d + 3) 10 [.inr (some (K.2.1 10 b))] (jy_w K f g) = some (none, jy_w K (jy_row f 12 b (vt_T (fun c => vc_lf f (g 11 b c)) (f 12 b))) g) := by
  obtain ⟨l2, A⟩ := bl_gr_a (Z := Z) (call := jx_m Z (d + 2)) (f := f) ho hb he (l3 := none) 8 0 none (by omega) (by omega)
  have e0 : jy_row f 12 b (vt_a (fun c => vc_lf f (g 11 b c)) (f 12 b) 0) = f := by
    have : vt_a (fun c => vc_lf f (g 11 b c)) (f 12 b) 0 = f 12 b := by
      funext j
      unfold vt_a
      rw [if_neg (by omega)]
    rw [this, jy_row_id]
  rw [e0] at A
  have z : ∀ (p : Nat → Int32) (v F : Nat), vt_b p v F F = p := by
    intro p v F
    funext j
    unfold vt_b
    rw [if_neg (by omega)]
  have B1 := bl_gr_b (Z := Z) (d := d) (f := f) ho hb (p := vt_a (fun c => vc_lf f (g 11 b c)) (f 12 b) 8) (v := 1) (F := 4) (by omega) 4 4 (by omega) (by omega) (by omega)
  have B2 := bl_gr_b (Z := Z) (d := d) (f := f) ho hb (p := vt_b (vt_a (fun c => vc_lf f (g 11 b c)) (f 12 b) 8) 1 4 8) (v := 2) (F := 2) (by omega) 2 2 (by omega) (by omega) (by omega)
  have B3 := bl_gr_b (Z := Z) (d := d) (f := f) ho hb (p := vt_b (vt_b (vt_a (fun c => vc_lf f (g 11 b c)) (f 12 b) 8) 1 4 8) 2 2 4) (v := 3) (F := 1) (by omega) 1 1 (by omega) (by omega) (by omega)
  rw [z] at B1 B2 B3
  have d4 : (4 : Int32) / 2 = 2 := by decide
  have d2 : (2 : Int32) / 2 = 1 := by decide
  have d1 : (1 : Int32) / 2 = 0 := by decide
  have e20 : ¬ (2 : Int32) = 0 := by decide
  have c1 : ¬ (3 : Int32) < 1 := by decide
  have c2 : ¬ (3 : Int32) < 2 := by decide
  have c3 : ¬ (3 : Int32) < 3 := by decide
  have c4 : (3 : Int32) < 4 := by decide
  have s1 : (1 : Int32) + 1 = 2 := by decide
  have s2 : (2 : Int32) + 1 = 3 := by decide
  have s3 : (3 : Int32) + 1 = 4 := by decide
  have n1 : nI 1 = 1 := rfl
  have n2 : nI 2 = 2 := rfl
  have n3 : nI 3 = 3 := rfl
  have n4 : nI 4 = 4 := rfl
  simp only [n1, n2, n3, n4] at B1 B2 B3
  simp only [e_Bl_growTree, x_Bl_growTree_0, x_Bl_growTree_1]
  refine (show _ = _ from A).trans ?_
  rw [x_Bl_growTree_42]
  simp only [x_Bl_growTree_43, x_Bl_growTree_44, x_Bl_growTree_45, x_Bl_growTree_46, x_Bl_growTree_47, x_Bl_growTree_48, x_Bl_growTree_51, x_Bl_growTree_52, c1, ↓reduceIte]
  refine B1.trans ?_
  rw [x_Bl_growTree_94]
  simp only [x_Bl_growTree_95, x_Bl_growTree_96, x_Bl_growTree_97, x_Bl_growTree_98, x_Bl_growTree_101, x_Bl_growTree_104, x_Bl_growTree_46, x_Bl_growTree_47, x_Bl_growTree_48, x_Bl_growTree_51, x_Bl_growTree_52, d4, e20, s1, c2, ↓reduceIte]
  refine B2.trans ?_
  rw [x_Bl_growTree_94]
  simp only [x_Bl_growTree_95, x_Bl_growTree_96, x_Bl_growTree_97, x_Bl_growTree_98, x_Bl_growTree_101, x_Bl_growTree_104, x_Bl_growTree_46, x_Bl_growTree_47, x_Bl_growTree_48, x_Bl_growTree_51, x_Bl_growTree_52, d2, e20, s2, c3, ↓reduceIte]
  refine B3.trans ?_
  rw [x_Bl_growTree_94]
  simp only [x_Bl_growTree_95, x_Bl_growTree_96, x_Bl_growTree_97, x_Bl_growTree_98, x_Bl_growTree_101, x_Bl_growTree_104, x_Bl_growTree_46, x_Bl_growTree_47, x_Bl_growTree_48, x_Bl_growTree_51, x_Bl_growTree_52, d1, e20, s3, c4, ↓reduceIte]
  rfl
end CC
