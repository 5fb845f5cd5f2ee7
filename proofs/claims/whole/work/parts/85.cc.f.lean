/-! the class: new cells; entries, transfers, send, forge -/
/-- a layout is extended -/
def jy_x (K K' : jy_K) : Prop := jy_ok K' ∧ (∀ k i, jy_lv K k i → jy_lv K' k i ∧ K'.2.1 k i = K.2.1 k i) ∧ ∀ a, K.1 a = some (13, a) → K'.1 a = some (13, a)
theorem jy_x.rf {K : jy_K} (h : jy_ok K) : jy_x K K := ⟨h, fun _ _ q => ⟨q, rfl⟩, fun _ q => q⟩
theorem jy_x.tr {K K' K'' : jy_K} (h : jy_x K K') (h' : jy_x K' K'') : jy_x K K'' :=
  ⟨h'.1, fun k i q => ⟨(h'.2.1 k i (h.2.1 k i q).1).1, (h'.2.1 k i (h.2.1 k i q).1).2.trans (h.2.1 k i q).2⟩, fun a q => h'.2.2 a (h.2.2 a q)⟩
theorem jy_nk_x {K : jy_K} {k i m : Nat} (ho : jy_ok K) (hn : jy_no K k i) : jy_x K (jy_nk K k i m) := by
  refine ⟨jy_nk_ok ho hn, fun k' i' h => ⟨jy_nk_l2 ho hn h, jy_nk_ne (fun z => hn (K.2.1 k' i') (by have h : K.1 (K.2.1 k' i') = some (k', i') := h; rw [h, z.1, z.2]))⟩, fun a h => ?_⟩
  show va_up K.1 K.2.2.1 (some (k, i)) a = _
  rw [va_up_ne _ _ (Nat.ne_of_lt (ho _ _ h).2)]
  exact h
theorem jl_o.x {K K' : jy_K} {g : jy_R} (h : jl_o K g) (x : jy_x K K') : jl_o K' g := by
  obtain ⟨⟨l0, l1, l2, l3, l4, l5, l6⟩, g2, g3, g4, g6, g8, g9⟩ := h
  exact ⟨⟨(x.2.1 _ _ l0).1, (x.2.1 _ _ l1).1, (x.2.1 _ _ l2).1, (x.2.1 _ _ l3).1, (x.2.1 _ _ l4).1, (x.2.1 _ _ l5).1, (x.2.1 _ _ l6).1⟩, by rw [(x.2.1 _ _ l1).2]; exact g2, by rw [(x.2.1 _ _ l2).2]; exact g3, by rw [(x.2.1 _ _ l3).2]; exact g4, by rw [(x.2.1 _ _ l4).2]; exact g6, by rw [(x.2.1 _ _ l5).2]; exact g8, by rw [(x.2.1 _ _ l6).2]; exact g9⟩
theorem jl_c.x {K K' : jy_K} {g : jy_R} {c : Nat} (h : jl_c K g c) (x : jy_x K K') : jl_c K' g c := by
  obtain ⟨l7, l8, l9, g3, g7, g8⟩ := h
  exact ⟨(x.2.1 _ _ l7).1, (x.2.1 _ _ l8).1, (x.2.1 _ _ l9).1, by rw [(x.2.1 _ _ l7).2]; exact g3, by rw [(x.2.1 _ _ l8).2]; exact g7, by rw [(x.2.1 _ _ l9).2]; exact g8⟩
theorem jl_b.x {K K' : jy_K} {g : jy_R} {b : Nat} (h : jl_b K g b) (x : jy_x K K') : jl_b K' g b := by
  obtain ⟨l7, l8, l9, g3, g7, g8⟩ := h
  exact ⟨(x.2.1 _ _ l7).1, (x.2.1 _ _ l8).1, (x.2.1 _ _ l9).1, by rw [(x.2.1 _ _ l7).2]; exact g3, by rw [(x.2.1 _ _ l8).2]; exact g7, by rw [(x.2.1 _ _ l9).2]; exact g8⟩
theorem jl_f.x {K K' : jy_K} {g : jy_R} {b : Nat} (h : jl_f K g b) (x : jy_x K K') : jl_f K' g b := by
  obtain ⟨l7, l8, l9, g7, g8⟩ := h
  exact ⟨(x.2.1 _ _ l7).1, (x.2.1 _ _ l8).1, (x.2.1 _ _ l9).1, by rw [(x.2.1 _ _ l8).2]; exact g7, by rw [(x.2.1 _ _ l9).2]; exact g8⟩
theorem jl_e.x {K K' : jy_K} {r : Option Nat} (h : jl_e K r) (x : jy_x K K') : jl_e K' r := fun a ha => x.2.2 a (h a ha)
theorem jl_R.x {K K' : jy_K} {g : jy_R} (h : jl_R K g) (x : jy_x K K') : jl_R K' g :=
  ⟨x.1, (x.2.1 _ _ h.2.1).1, fun j hj => ⟨(x.2.1 _ _ (h.2.2 j hj).1).1, by rw [(x.2.1 _ _ (h.2.2 j hj).1).2]; exact (h.2.2 j hj).2⟩⟩
theorem jl_C.no13 {K : jy_K} {g : jy_R} {cc n : Nat} (h : jl_C K g cc n) : jy_no K 13 K.2.2.1 := by
  intro x hx
  have h1 := h.2.2.2.2.2.2 x _ hx
  have h2 := (h.1 x _ hx).2
  omega
theorem jl_C.n13 {K : jy_K} {g : jy_R} {cc n m : Nat} (h : jl_C K g cc n) : jl_C (jy_nk K 13 K.2.2.1 m) g cc n ∧ (jy_nk K 13 K.2.2.1 m).1 K.2.2.1 = some (13, K.2.2.1) := by
  have x := jy_nk_x (m := m) h.1 h.no13
  refine ⟨⟨x.1, h.2.1.x x, fun c hc => (h.2.2.1 c hc).x x, fun b h1 h2 => (h.2.2.2.1 b h1 h2).x x, fun b c h1 h2 hc => (h.2.2.2.2.1 b c h1 h2 hc).x x, fun c hc => ⟨(h.2.2.2.2.2.1 c hc).1.x x, (h.2.2.2.2.2.1 c hc).2.x x⟩, fun y a hy => ?_⟩, va_up_self _ _ _⟩
  by_cases e : y = K.2.2.1
  · subst e
    have hy : some (13, K.2.2.1) = some (13, a) := by rw [← hy]; exact (va_up_self _ _ _).symm
    cases hy
    rfl
  · exact h.2.2.2.2.2.2 y a (by rw [← hy]; exact (va_up_ne _ _ e).symm)
theorem jl_F.n13 {K : jy_K} {cc n m a : Nat} (h : jl_F K cc n) : jl_F (jy_nk K 13 a m) cc n := by
  refine ⟨fun c hc => ?_, fun b hb => ?_⟩
  · obtain ⟨n7, n8, n9⟩ := h.1 c hc
    exact ⟨jy_nk_no (by omega) n7, jy_nk_no (by omega) n8, jy_nk_no (by omega) n9⟩
  · obtain ⟨n7, n8, n9⟩ := h.2 b hb
    exact ⟨jy_nk_no (by omega) n7, jy_nk_no (by omega) n8, jy_nk_no (by omega) n9⟩
theorem jy_w_nx {K : jy_K} {f : jy_I} {g : jy_R} : (jy_w K f g).2.1 = K.2.2.1 := rfl
theorem jy_new13 {K : jy_K} {f : jy_I} {g : jy_R} {a : Nat} (hn : jy_no K 13 a) : jx_nw (jy_w K f g) (.inr (4, [.inl 0, .inl 0, .inl 0, .inl 0, .inl 0, .inl 0])) 6 = jy_w (jy_nk K 13 a 6) (jy_z f 13 a 0) g := by
  refine jy_new hn (fun k' i' hne => ⟨?_, rfl⟩) ?_
  · funext j
    exact if_neg hne
  · simp [jy_c, jy_sh, jy_fs, jy_z]
/-- an entry by its six numbers -/
def vk_en (f : jy_I) (a : Nat) (x0 x1 x2 x3 x4 x5 : Int32) : jy_I := jy_up (jy_up (jy_up (jy_up (jy_up (jy_up f 13 a 0 x0) 13 a 1 x1) 13 a 2 x2) 13 a 3 x3) 13 a 4 x4) 13 a 5 x5
section CF
variable {Z : jx_Sc} {d : Nat} {K : jy_K} {f : jy_I} {g : jy_R} {w : jx_W} {cc n : Nat} {call : jx_C} {x : Int32}
theorem cu_w {a q : Nat} (ho : jy_ok K) (h : K.1 a = some (13, a)) (hq : q < 6) : jx_sF (jy_w K f g) a 4 q (.inl x) = some (jy_w K (jy_up f 13 a q x) g) := by
  obtain ⟨e, hl⟩ := cu_at ho h
  have hq' : ([false, false, false, false, false, false] : List Bool)[q]? = some false := by
    match q, hq with
    | 0, _ => rfl
    | 1, _ => rfl
    | 2, _ => rfl
    | 3, _ => rfl
    | 4, _ => rfl
    | 5, _ => rfl
  have := jy_sFi (f := f) (g := g) (ci := 4) (x := x) ho hl rfl hq'
  rw [← e] at this
  exact this
theorem en_init {a : Nat} (ho : jy_ok K) (ha : K.1 a = some (13, a)) {x0 x1 x2 x3 x4 x5 : Int32} (h0 : x0 = 0 ∨ x0 = 1) (h4 : x4 = 0 ∨ x4 = 1) : jx_m Z (d + 1) 8 [.inr (some a), .inl x0, .inl x1, .inl x2, .inl x3, .inl x4, .inl x5] (jy_w K f g) = some (none, jy_w K (vk_en f a x0 x1 x2 x3 x4 x5) g) := by
  simp only [e_En_init, x_En_init_0, x_En_init_1, x_En_init_4, x_En_init_5, x_En_init_6, x_En_init_9, x_En_init_10, x_En_init_11, x_En_init_14, x_En_init_15, x_En_init_16, x_En_init_19, x_En_init_20, x_En_init_22, x_En_init_25, x_En_init_26, x_En_init_28, x_En_init_31, x_En_init_32, x_En_init_34, x_En_init_37, cu_w ho ha (show 0 < 6 by decide), cu_w ho ha (show 1 < 6 by decide), cu_w ho ha (show 2 < 6 by decide), cu_w ho ha (show 3 < 6 by decide), cu_w ho ha (show 4 < 6 by decide), cu_w ho ha (show 5 < 6 by decide), h0, h4, Option.bind_some, Option.toList_some, Option.toList_none, List.cons_append, List.nil_append, ↓reduceIte]
  rfl
theorem cu_okE {a : Nat} (ho : jy_ok K) (ha : K.1 a = some (13, a)) : jx_ok (jy_w K f g) 4 (some a) = true := by
  obtain ⟨e, hl⟩ := cu_at ho ha
  have := jy_oks (f := f) (g := g) (t := 4) (ci := 4) hl rfl rfl
  rw [← e] at this
  exact this
theorem cu_ok0 : jx_ok (jy_w K f g) 4 none = true := rfl
theorem cu_okr {r : Option Nat} (ho : jy_ok K) (hr : jl_e K r) : jx_ok (jy_w K f g) 4 r = true := by
  cases r with
  | none => rfl
  | some a => exact cu_okE ho (hr a rfl)
theorem cu_p5 (h : jl_C K g cc n) {k : Nat} {r : Option Nat} (hk : k < 8) (hr : jl_e K r) : jx_sA (jy_w K f g) (K.2.1 5 0) (nI k) r = some (jy_w K f (jy_up g 5 0 k r)) := by rw [jy_sA h.1 h.2.1.1.2.2.2.2.2.1 rfl (cu_okr h.1 hr), if_neg (nI_in hk (by decide)), nI_clamp (Nat.lt_trans hk (by decide))]
theorem cu_p6 (h : jl_C K g cc n) {k : Nat} {r : Option Nat} (hk : k < 8) (hr : jl_e K r) : jx_sA (jy_w K f g) (K.2.1 6 0) (nI k) r = some (jy_w K f (jy_up g 6 0 k r)) := by rw [jy_sA h.1 h.2.1.1.2.2.2.2.2.2 rfl (cu_okr h.1 hr), if_neg (nI_in hk (by decide)), nI_clamp (Nat.lt_trans hk (by decide))]
theorem cf_p11 {b k : Nat} {r : Option Nat} (ho : jy_ok K) (h : jl_f K g b) (hk : k < 8) (hr : jl_e K r) : jx_sA (jy_w K f g) (K.2.1 11 b) (nI k) r = some (jy_w K f (jy_up g 11 b k r)) := by rw [jy_sA ho h.2.1 rfl (cu_okr ho hr), if_neg (nI_in hk (by decide)), nI_clamp (Nat.lt_trans hk (by decide))]
/-- a transfer as an entry -/
def vk_tr (f : jy_I) (a : Nat) (c p fr t s : Int32) : jy_I := vk_en (jy_z f 13 a 0) a 0 p fr t (jq_b (decide (jq_sig (f 0 0 0) s c p t = jq_sig (f 0 0 0) fr c p t))) (jq_mix (jq_sig (f 0 0 0) s c p t) (8 * p + c) (4 * fr + t))
theorem cc_tr (h : jl_C K g cc n) {c p fr t s : Int32} : jx_m Z (d + 3) 14 [.inr (some (K.2.1 0 0)), .inl c, .inl p, .inl fr, .inl t, .inl s] (jy_w K f g) = some (some (.inr (some K.2.2.1)), jy_w (jy_nk K 13 K.2.2.1 6) (vk_tr f K.2.2.1 c p fr t s) g) := by
  obtain ⟨h', ha⟩ := h.n13 (m := 6)
  have h00 : (0 : Int32) = 0 ∨ (0 : Int32) = 1 := Or.inl rfl
  have h01 : (1 : Int32) = 0 ∨ (1 : Int32) = 1 := Or.inr rfl
  simp only [e_CC_transfer, x_CC_transfer_0, x_CC_transfer_1, x_CC_transfer_3, x_CC_transfer_4, x_CC_transfer_5, x_CC_transfer_7, x_CC_transfer_10, x_CC_transfer_12, x_CC_transfer_14, x_CC_transfer_15, x_CC_transfer_16, x_CC_transfer_17, x_CC_transfer_18, x_CC_transfer_20, x_CC_transfer_23, x_CC_transfer_26, x_CC_transfer_27, x_CC_transfer_30, x_CC_transfer_31, x_CC_transfer_33, x_CC_transfer_36, x_CC_transfer_37, x_CC_transfer_38, x_CC_transfer_39, x_CC_transfer_40, x_CC_transfer_42, x_CC_transfer_44, x_CC_transfer_46, x_CC_transfer_48, x_CC_transfer_49, x_CC_transfer_50, x_CC_transfer_51, x_CC_transfer_52, x_CC_transfer_53, x_CC_transfer_54, x_CC_transfer_55, x_CC_transfer_57, x_CC_transfer_58, x_CC_transfer_61, x_CC_transfer_64, cu_is h, cu_g0 h, cu_g1 h, cu_g2 h, cu_g3 h, cu_g4 h, cu_g5 h, cu_g6 h, cu_g7 h, cu_g8 h, cu_g9 h, cu_g10 h, cu_s5 h, cu_s7 h, cu_s10 h, cu_n1 h, cu_m1 h, cu_n2 h, cu_m2 h, cu_n3 h, cu_n4 h, cu_n5 h, cu_n6 h, cc_sig h, cc_mix, jy_w_nx, jy_new13 h.no13, en_init h'.1 ha h00 h00, en_init h'.1 ha h00 h01, Option.bind_some, Option.toList_some, Option.toList_none, List.cons_append, List.nil_append, ↓reduceIte]
  unfold vk_tr
  by_cases e : jq_sig (f 0 0 0) s c p t = jq_sig (f 0 0 0) fr c p t
  · simp [e, jq_b]
  · simp [e, jq_b]
theorem jl_C.p5 {k a : Nat} (h : jl_C K g cc n) (hr : jl_e K (some a)) : jl_C K (jy_up g 5 0 k (some a)) cc n := by
  obtain ⟨ho, ho2, hc, hb, he, hw, f3⟩ := h
  refine ⟨ho, ?_, fun c q => ?_, fun b q1 q2 => ?_, fun b c q1 q2 q3 => ?_, fun c q => ⟨?_, ?_⟩, f3⟩
  · unfold jl_o at ho2 ⊢
    simp only [jy_up_self, jy_up_k, jy_up_j, Nat.reduceEqDiff, not_false_eq_true, reduceCtorEq, Nat.reduceAdd]
    exact ho2
  · have := hc c q
    unfold jl_c at this ⊢
    simp only [jy_up_self, jy_up_k, jy_up_j, Nat.reduceEqDiff, not_false_eq_true, reduceCtorEq, Nat.reduceAdd]
    exact this
  · have := hb b q1 q2
    unfold jl_b at this ⊢
    simp only [jy_up_self, jy_up_k, jy_up_j, Nat.reduceEqDiff, not_false_eq_true, reduceCtorEq, Nat.reduceAdd]
    exact this
  · have := he b c q1 q2 q3
    simp only [jy_up_self, jy_up_k, jy_up_j, Nat.reduceEqDiff, not_false_eq_true, reduceCtorEq, Nat.reduceAdd]
    exact this
  · rw [jy_up_at]
    split
    · exact hr
    · exact (hw c q).1
  · simp only [jy_up_self, jy_up_k, jy_up_j, Nat.reduceEqDiff, not_false_eq_true, reduceCtorEq, Nat.reduceAdd]
    exact (hw c q).2
theorem jl_C.p6 {k a : Nat} (h : jl_C K g cc n) (hr : jl_e K (some a)) : jl_C K (jy_up g 6 0 k (some a)) cc n := by
  obtain ⟨ho, ho2, hc, hb, he, hw, f3⟩ := h
  refine ⟨ho, ?_, fun c q => ?_, fun b q1 q2 => ?_, fun b c q1 q2 q3 => ?_, fun c q => ⟨?_, ?_⟩, f3⟩
  · unfold jl_o at ho2 ⊢
    simp only [jy_up_self, jy_up_k, jy_up_j, Nat.reduceEqDiff, not_false_eq_true, reduceCtorEq, Nat.reduceAdd]
    exact ho2
  · have := hc c q
    unfold jl_c at this ⊢
    simp only [jy_up_self, jy_up_k, jy_up_j, Nat.reduceEqDiff, not_false_eq_true, reduceCtorEq, Nat.reduceAdd]
    exact this
  · have := hb b q1 q2
    unfold jl_b at this ⊢
    simp only [jy_up_self, jy_up_k, jy_up_j, Nat.reduceEqDiff, not_false_eq_true, reduceCtorEq, Nat.reduceAdd]
    exact this
  · have := he b c q1 q2 q3
    simp only [jy_up_self, jy_up_k, jy_up_j, Nat.reduceEqDiff, not_false_eq_true, reduceCtorEq, Nat.reduceAdd]
    exact this
  · simp only [jy_up_self, jy_up_k, jy_up_j, Nat.reduceEqDiff, not_false_eq_true, reduceCtorEq, Nat.reduceAdd]
    exact (hw c q).1
  · rw [jy_up_at]
    split
    · exact hr
    · exact (hw c q).2
theorem cc_send_n {r : Option Nat} {u c t : Int32} (hb : (u < 0 ∨ 4 ≤ u) ∨ (t < 0 ∨ 4 ≤ t) ∨ u = t) : jx_m Z (d + 2) 12 [.inr r, .inl u, .inl c, .inl t] w = some (some (.inl 0), w) := by
  simp only [e_CC_send, x_CC_send_0, x_CC_send_1, x_CC_send_4, x_CC_send_7, x_CC_send_8, x_CC_send_11, x_CC_send_14, x_CC_send_15, x_CC_send_16, x_CC_send_19, x_CC_send_20, Option.bind_some, Option.toList_some, Option.toList_none, List.cons_append, List.nil_append, cc_isUser]
  by_cases e1 : u < 0 ∨ 4 ≤ u
  · simp [e1]
  · by_cases e2 : t < 0 ∨ 4 ≤ t
    · simp [e1, e2]
    · have e3 : u = t := (hb.resolve_left e1).resolve_left e2
      simp [e1, e2, e3]
theorem cc_send_o (h : jl_C K g cc n) {u t : Nat} {c : Int32} (hu : u < 4) (ht : t < 4) (hut : ¬ u = t) (hc : c < 0 ∨ 8 ≤ c) : jx_m Z (d + 3) 12 [.inr (some (K.2.1 0 0)), .inl (nI u), .inl c, .inl (nI t)] (jy_w K f g) = some (some (.inl 0), jy_w K f g) := by
  have e1 : ¬ nI u = nI t := nI_ne (by omega) (by omega) hut
  have e10 : ¬ (1 : Int32) = 0 := by decide
  simp only [e_CC_send, x_CC_send_0, x_CC_send_1, x_CC_send_4, x_CC_send_7, x_CC_send_8, x_CC_send_11, x_CC_send_14, x_CC_send_15, x_CC_send_16, x_CC_send_19, x_CC_send_20, x_CC_send_21, x_CC_send_22, x_CC_send_23, x_CC_send_24, x_CC_send_27, x_CC_send_29, x_CC_send_31, x_CC_send_34, x_CC_send_35, cu_is h, cu_g0 h, cu_g1 h, cu_g2 h, cu_g3 h, cu_g4 h, cu_g5 h, cu_g6 h, cu_g7 h, cu_g8 h, cu_g9 h, cu_g10 h, cu_s5 h, cu_s7 h, cu_s10 h, cu_n1 h, cu_m1 h, cu_n2 h, cu_m2 h, cu_n3 h, cu_n4 h, cu_n5 h, cu_n6 h, cc_user_y hu, cc_user_y ht, cc_held_n hc, e1, e10, Option.bind_some, Option.toList_some, Option.toList_none, List.cons_append, List.nil_append, ↓reduceIte]
  simp
theorem cc_send (h : jl_C K g cc n) {u c t : Nat} (hu : u < 4) (ht : t < 4) (hut : ¬ u = t) (hc : c < 8) : jx_m Z (d + 4) 12 [.inr (some (K.2.1 0 0)), .inl (nI u), .inl (nI c), .inl (nI t)] (jy_w K f g) = some (if f 2 0 (8 * u + c) = 0 then (some (.inl 0), jy_w K f g) else (some (.inl 1), jy_w (jy_nk K 13 K.2.2.1 6) (jy_up (vk_tr f K.2.2.1 (nI c) (f 2 0 (8 * u + c)) (nI u) (nI t) (nI u)) 2 0 (8 * u + c) 0) (jy_up g 5 0 c (some K.2.2.1)))) := by
  have e1 : ¬ nI u = nI t := nI_ne (by omega) (by omega) hut
  have e10 : ¬ (1 : Int32) = 0 := by decide
  have hs : 8 * u + c < 32 := by omega
  obtain ⟨h', ha⟩ := h.n13 (m := 6)
  have x := jy_nk_x (m := 6) h.1 h.no13
  have hr : jl_e (jy_nk K 13 K.2.2.1 6) (some K.2.2.1) := fun a q => by cases q; exact ha
  have a5 : (jy_nk K 13 K.2.2.1 6).2.1 5 0 = K.2.1 5 0 := (x.2.1 5 0 h.2.1.1.2.2.2.2.2.1).2
  have a0 : (jy_nk K 13 K.2.2.1 6).2.1 0 0 = K.2.1 0 0 := (x.2.1 0 0 h.2.1.1.1).2
  have h2 := h'.p5 (k := c) hr
  have s5 := cu_p5 (f := vk_tr f K.2.2.1 (nI c) (f 2 0 (8 * u + c)) (nI u) (nI t) (nI u)) h' hc hr
  rw [a5] at s5
  have g3 := cu_g3 (f := vk_tr f K.2.2.1 (nI c) (f 2 0 (8 * u + c)) (nI u) (nI t) (nI u)) h2
  rw [a0] at g3
  have m2 := cu_m2 (f := vk_tr f K.2.2.1 (nI c) (f 2 0 (8 * u + c)) (nI u) (nI t) (nI u)) (x := 0) h2 hs
  simp only [e_CC_send, x_CC_send_0, x_CC_send_1, x_CC_send_4, x_CC_send_7, x_CC_send_8, x_CC_send_11, x_CC_send_14, x_CC_send_15, x_CC_send_16, x_CC_send_19, x_CC_send_20, x_CC_send_21, x_CC_send_22, x_CC_send_23, x_CC_send_24, x_CC_send_27, x_CC_send_29, x_CC_send_31, x_CC_send_34, x_CC_send_35, x_CC_send_36, x_CC_send_37, x_CC_send_40, x_CC_send_41, x_CC_send_42, x_CC_send_43, x_CC_send_45, x_CC_send_46, x_CC_send_47, x_CC_send_48, x_CC_send_51, x_CC_send_52, x_CC_send_53, x_CC_send_56, x_CC_send_57, x_CC_send_59, x_CC_send_60, x_CC_send_61, x_CC_send_62, x_CC_send_63, x_CC_send_64, x_CC_send_65, cu_is h, cu_g0 h, cu_g1 h, cu_g2 h, cu_g3 h, cu_g4 h, cu_g5 h, cu_g6 h, cu_g7 h, cu_g8 h, cu_g9 h, cu_g10 h, cu_s5 h, cu_s7 h, cu_s10 h, cu_n1 h, cu_m1 h, cu_n2 h, cu_m2 h, cu_n3 h, cu_n4 h, cu_n5 h, cu_n6 h, cc_user_y hu, cc_user_y ht, cc_held h hu hc, cc_tr h, s5, g3, m2, jz_u8, e1, e10, Option.bind_some, Option.toList_some, Option.toList_none, List.cons_append, List.nil_append, ↓reduceIte]
  by_cases e : f 2 0 (8 * u + c) = 0
  · simp [e]
  · simp [e]
theorem cc_forge_n (h : jl_C K g cc n) (hn : jn_C f cc n) {c p a t s : Int32} (hb : (c < 0 ∨ f 0 0 5 ≤ c) ∨ p < 0 ∨ 31 < p ∨ (a < 0 ∨ 4 ≤ a) ∨ (t < 0 ∨ 4 ≤ t) ∨ (s < 0 ∨ 4 ≤ s)) : jx_m Z (d + 2) 16 [.inr (some (K.2.1 0 0)), .inl c, .inl p, .inl a, .inl t, .inl s] (jy_w K f g) = some (some (.inl 0), jy_w K f g) := by
  by_cases e1 : c < 0 ∨ f 0 0 5 ≤ c
  · simp only [e_CC_forge, x_CC_forge_0, x_CC_forge_1, x_CC_forge_2, x_CC_forge_5, x_CC_forge_8, x_CC_forge_9, x_CC_forge_12, x_CC_forge_13, x_CC_forge_15, x_CC_forge_18, x_CC_forge_19, x_CC_forge_20, x_CC_forge_21, x_CC_forge_24, x_CC_forge_27, x_CC_forge_29, x_CC_forge_32, x_CC_forge_35, x_CC_forge_37, x_CC_forge_40, x_CC_forge_43, x_CC_forge_44, cu_is h, cu_g0 h, cu_g1 h, cu_g2 h, cu_g3 h, cu_g4 h, cu_g5 h, cu_g6 h, cu_g7 h, cu_g8 h, cu_g9 h, cu_g10 h, cu_s5 h, cu_s7 h, cu_s10 h, cu_n1 h, cu_m1 h, cu_n2 h, cu_m2 h, cu_n3 h, cu_n4 h, cu_n5 h, cu_n6 h, cc_coinAt_n h e1, Option.bind_some, Option.toList_some, Option.toList_none, List.cons_append, List.nil_append, ↓reduceIte]
    simp
  · obtain ⟨k, rfl, hk⟩ := jz_coinC hn.1 hn.2.2.1 e1
    simp only [e_CC_forge, x_CC_forge_0, x_CC_forge_1, x_CC_forge_2, x_CC_forge_5, x_CC_forge_8, x_CC_forge_9, x_CC_forge_12, x_CC_forge_13, x_CC_forge_15, x_CC_forge_18, x_CC_forge_19, x_CC_forge_20, x_CC_forge_21, x_CC_forge_24, x_CC_forge_27, x_CC_forge_29, x_CC_forge_32, x_CC_forge_35, x_CC_forge_37, x_CC_forge_40, x_CC_forge_43, x_CC_forge_44, cu_is h, cu_g0 h, cu_g1 h, cu_g2 h, cu_g3 h, cu_g4 h, cu_g5 h, cu_g6 h, cu_g7 h, cu_g8 h, cu_g9 h, cu_g10 h, cu_s5 h, cu_s7 h, cu_s10 h, cu_n1 h, cu_m1 h, cu_n2 h, cu_m2 h, cu_n3 h, cu_n4 h, cu_n5 h, cu_n6 h, cc_coinAt_y h hn hk, cc_isUser, Option.bind_some, Option.toList_some, Option.toList_none, List.cons_append, List.nil_append, ↓reduceIte, reduceCtorEq]
    by_cases e2 : p < 0
    · simp [e2]
    · by_cases e3 : p ≤ 31
      · by_cases e4 : a < 0 ∨ 4 ≤ a
        · simp [e2, e3, e4]
        · by_cases e5 : t < 0 ∨ 4 ≤ t
          · simp [e2, e3, e4, e5]
          · have e6 : s < 0 ∨ 4 ≤ s := by
              rcases hb with hb | hb | hb | hb | hb | hb
              · exact absurd hb e1
              · exact absurd hb e2
              · exact absurd e3 (Int32.not_le.mpr hb)
              · exact absurd hb e4
              · exact absurd hb e5
              · exact hb
            simp [e2, e3, e4, e5, e6]
      · simp [e2, e3]
theorem cc_forge (h : jl_C K g cc n) (hn : jn_C f cc n) {c a t s : Nat} {p : Int32} (hc : c < cc) (hp : ¬ (p < 0 ∨ 31 < p)) (ha : a < 4) (ht : t < 4) (hs : s < 4) : jx_m Z (d + 4) 16 [.inr (some (K.2.1 0 0)), .inl (nI c), .inl p, .inl (nI a), .inl (nI t), .inl (nI s)] (jy_w K f g) = some (some (.inl 1), jy_w (jy_nk K 13 K.2.2.1 6) (vk_tr f K.2.2.1 (nI c) p (nI a) (nI t) (nI s)) (jy_up g 6 0 c (some K.2.2.1))) := by
  have h8 := hn.2.2.1
  have e10 : ¬ (1 : Int32) = 0 := by decide
  have e1 : ¬ p < 0 := fun q => hp (Or.inl q)
  have e2 : p ≤ 31 := Int32.not_lt.mp (fun q => hp (Or.inr q))
  obtain ⟨h', hA⟩ := h.n13 (m := 6)
  have x := jy_nk_x (m := 6) h.1 h.no13
  have hr : jl_e (jy_nk K 13 K.2.2.1 6) (some K.2.2.1) := fun a q => by cases q; exact hA
  have a5 : (jy_nk K 13 K.2.2.1 6).2.1 6 0 = K.2.1 6 0 := (x.2.1 6 0 h.2.1.1.2.2.2.2.2.2).2
  have s5 := cu_p6 (f := vk_tr f K.2.2.1 (nI c) p (nI a) (nI t) (nI s)) h' (show c < 8 by omega) hr
  rw [a5] at s5
  simp only [e_CC_forge, x_CC_forge_0, x_CC_forge_1, x_CC_forge_2, x_CC_forge_5, x_CC_forge_8, x_CC_forge_9, x_CC_forge_12, x_CC_forge_13, x_CC_forge_15, x_CC_forge_18, x_CC_forge_19, x_CC_forge_20, x_CC_forge_21, x_CC_forge_24, x_CC_forge_27, x_CC_forge_29, x_CC_forge_32, x_CC_forge_35, x_CC_forge_37, x_CC_forge_40, x_CC_forge_43, x_CC_forge_44, x_CC_forge_45, x_CC_forge_46, x_CC_forge_49, x_CC_forge_50, x_CC_forge_51, x_CC_forge_52, x_CC_forge_53, x_CC_forge_54, x_CC_forge_56, x_CC_forge_58, x_CC_forge_61, x_CC_forge_62, x_CC_forge_63, cu_is h, cu_g0 h, cu_g1 h, cu_g2 h, cu_g3 h, cu_g4 h, cu_g5 h, cu_g6 h, cu_g7 h, cu_g8 h, cu_g9 h, cu_g10 h, cu_s5 h, cu_s7 h, cu_s10 h, cu_n1 h, cu_m1 h, cu_n2 h, cu_m2 h, cu_n3 h, cu_n4 h, cu_n5 h, cu_n6 h, cc_coinAt_y h hn hc, cc_user_y ha, cc_user_y ht, cc_user_y hs, cc_tr h, s5, e1, e2, e10, Option.bind_some, Option.toList_some, Option.toList_none, List.cons_append, List.nil_append, ↓reduceIte, reduceCtorEq]
  simp
end CF
