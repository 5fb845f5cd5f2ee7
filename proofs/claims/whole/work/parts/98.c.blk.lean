/-! both sides in step: build, the new block -/
theorem jl_R.gg {K : jy_K} {g g' : jy_R} (h : jl_R K g) (e : g' 20 = g 20) : jl_R K g' := ⟨h.1, h.2.1, fun j hj => ⟨(h.2.2 j hj).1, by rw [e]; exact (h.2.2 j hj).2⟩⟩
theorem vq_c_lo {W X Y : Nat → Int32} {N fr j : Nat} (h : j < 8 * N ∨ 8 * N + 8 ≤ j) : vq_c W N fr X Y 8 j = Y j := if_neg (by omega)
theorem vq_c_at {W X Y : Nat → Int32} {N fr c : Nat} (hc : c < 8) : vq_c W N fr X Y 8 (8 * N + c) = if W (fr + c) = 0 then Y (8 * N + c) else X (fr + c) := by
  unfold vq_c
  rw [show 8 * N + c - 8 * N = c by omega]
  by_cases e : W (fr + c) = 0
  · rw [if_neg (fun z => z.2.2 e), if_pos e]
  · rw [if_pos ⟨by omega, by omega, e⟩, if_neg e]
theorem jp_6.up {cc n : Nat} {c8 c9 : Nat → Nat → Int32} {r42 r43 r44 r45 r46 r47 r48 : Nat → Int32} (h : jp_6 cc n c8 c9 r42 r43 r44 r45 r46 r47 r48) : jp_6 cc (n + 1) c8 c9 r42 r43 r44 r45 r46 r47 r48 := by
  intro c hc o
  obtain ⟨q1, q2, ⟨b, q3, q3'⟩, ⟨a, q4, q4'⟩, q5⟩ := h c hc o
  exact ⟨q1, q2, ⟨b, by omega, q3'⟩, ⟨a, by omega, q4'⟩, fun b z1 z2 => ⟨(q5 b z1 z2).1, (q5 b z1 z2).2.1, (q5 b z1 z2).2.2.1, fun z => (q5 b z1 z2).2.2.2 (by omega)⟩⟩
theorem jp_4.up {cc n : Nat} {a b : Nat → Int32} (h : jp_4 cc n a b) : jp_4 cc (n + 1) a b := ⟨fun k hk => ⟨(h.1 k hk).1, by
  obtain ⟨x, q1, q2⟩ := (h.1 k hk).2
  exact ⟨x, by omega, q2⟩⟩, h.2⟩
section BE
variable {Z : jx_Sc} {d : Nat} {K K' : jy_K} {g g' : jy_R} {fC fR fC' fR' : jy_I} {cc n : Nat} {hon s : Int32}
theorem vk_bf_k {k : Nat} (h : ¬ k = 0) (h' : ¬ k = 10) (h'' : ¬ k = 12) : vk_bf K fC g cc n hon s k = fC k := by
  unfold vk_bf
  rw [jt_up h, jy_row_k h'', vb_f_k h' h'']
theorem vk_bf_0 {j : Nat} (h : ¬ j = 7) : vk_bf K fC g cc n hon s 0 0 j = fC 0 0 j := by
  unfold vk_bf
  rw [jy_up_j h, jy_row_k3 (by omega), vb_f_k (by omega) (by omega)]
theorem vk_bf_7 : vk_bf K fC g cc n hon s 0 0 7 = nI (n + 1) := by
  unfold vk_bf
  rw [jy_up_self]
theorem vk_bf_10 {b : Nat} (h : ¬ b = n + 1) : vk_bf K fC g cc n hon s 10 b = fC 10 b := by
  unfold vk_bf
  rw [jt_up (by omega), jy_row_k (by omega)]
  unfold vb_f
  funext j
  rw [jy_up_i h]
  show (if 10 = 12 ∧ b = n + 1 then 0 else if 10 = 10 ∧ b = n + 1 then 0 else fC 10 b j) = fC 10 b j
  rw [if_neg (fun z => h z.2), if_neg (fun z => h z.2)]
theorem vk_bf_10n : vk_bf K fC g cc n hon s 10 (n + 1) 2 = s := by
  unfold vk_bf
  rw [jt_up (by omega), jy_row_k3 (by omega)]
  unfold vb_f
  rw [jy_up_self]
theorem vk_bf_12 {b : Nat} (h : ¬ b = n + 1) : vk_bf K fC g cc n hon s 12 b = fC 12 b := by
  unfold vk_bf
  rw [jt_up (by omega), jy_row_i h]
  unfold vb_f
  funext j
  rw [jy_up_k (by omega)]
  show (if 12 = 12 ∧ b = n + 1 then 0 else if 12 = 10 ∧ b = n + 1 then 0 else fC 12 b j) = fC 12 b j
  rw [if_neg (fun z => h z.2), if_neg (fun z => h z.2)]
theorem vc_lf_13 {f f' : jy_I} (h : f' 13 = f 13) : vc_lf f' = vc_lf f := by
  funext r
  cases r with
  | none => rfl
  | some a => show f' 13 a 5 = f 13 a 5; rw [h]
theorem vk_bf_12n : ∃ old, vk_bf K fC g cc n hon s 12 (n + 1) = vt_T (fun c => vc_lf fC (vk_bg K fC g cc n hon s 11 (n + 1) c)) old := by
  refine ⟨vb_f fC (n + 1) s 12 (n + 1), ?_⟩
  unfold vk_bf
  rw [jt_up (by omega), jy_row_at, vc_lf_13 (f := fC) (vb_f_k (by omega) (by omega))]
theorem vk_bk_ne {k : Nat} (h : ¬ k = 5) (h' : ¬ k = 6) : ¬ k = vk_bk hon := by
  unfold vk_bk
  split <;> omega
theorem vk_bg_11 {b : Nat} (h : ¬ b = n + 1) : vk_bg K fC g cc n hon s 11 b = g 11 b := by
  unfold vk_bg vk_gb
  rw [jy_row_k (vk_bk_ne (by omega) (by omega)), jy_row_i h, vb_g_11 h]
theorem vk_bg_11n : vk_bg K fC g cc n hon s 11 (n + 1) = vk_pe (vb_f fC (n + 1) s) (vb_g K g (n + 1)) cc hon (vb_g K g (n + 1) (vk_bk hon) 0) 8 := by
  unfold vk_bg vk_gb
  rw [jy_row_k (vk_bk_ne (by omega) (by omega)), jy_row_at]
theorem vk_bg_20 : vk_bg K fC g cc n hon s 20 = g 20 := by
  unfold vk_bg vk_gb
  rw [jy_row_k (vk_bk_ne (by omega) (by omega)), jy_row_k (by omega), vb_g_k (by omega) (by omega)]
theorem vk_bg_w {k c : Nat} (hk : k = 5 ∨ k = 6) (hc : c < 8) : vk_bg K fC g cc n hon s k 0 c = if k = vk_bk hon then none else g k 0 c := by
  unfold vk_bg vk_gb
  by_cases e : k = vk_bk hon
  · rw [if_pos e, ← e, jy_row_at]
    unfold vk_pw
    rw [if_pos hc]
  · rw [if_neg e, jy_row_k e, jy_row_k (by omega), vb_g_k (by omega) (by omega)]
theorem vo_bld_k {k : Nat} (h : ¬ k = 20) (h1 : ¬ k = 29) (h2 : k < 30 ∨ k = 31 ∨ 36 < k) : vo_bld fR hon s cc n k = fR k := by
  unfold vo_bld vo_b2 vo_b1
  rw [jy_row_k (by omega), jy_row_k (by omega), jy_row_k (by omega), jy_row_k (by omega), jy_row_k (by omega), jy_row_k (by omega), jt_up h1, jt_up h, jy_row_k (by omega)]
theorem vo_bld_20 {j : Nat} : vo_bld fR hon s cc n 20 0 j = if j = 8 then nI (n + 1) else fR 20 0 j := by
  unfold vo_bld vo_b2 vo_b1
  simp only [jy_up_k, jy_up_2, jy_row_k3, jy_row_2, Nat.reduceEqDiff, not_false_eq_true, ↓reduceIte, true_and, and_true, and_false, false_and, reduceCtorEq]
theorem vo_bld_29 {j : Nat} : vo_bld fR hon s cc n 29 0 j = if j = n + 1 then (if s = 0 then 1 else 0) else fR 29 0 j := by
  unfold vo_bld vo_b2 vo_b1
  simp only [jy_up_k, jy_up_2, jy_row_k3, jy_row_2, Nat.reduceEqDiff, not_false_eq_true, ↓reduceIte, true_and, and_true, and_false, false_and, reduceCtorEq]
theorem vo_bld_r : vo_bld fR hon s cc n 30 0 = vq_c (vr_wa fR hon cc n 8) (n + 1) (vk_fr hon) (fun _ => 1) (fR 30 0) 8 ∧ vo_bld fR hon s cc n 32 0 = vq_c (vr_wa fR hon cc n 8) (n + 1) (vk_fr hon) (fR 37 0) (fR 32 0) 8 ∧ vo_bld fR hon s cc n 33 0 = vq_c (vr_wa fR hon cc n 8) (n + 1) (vk_fr hon) (fR 38 0) (fR 33 0) 8 ∧ vo_bld fR hon s cc n 34 0 = vq_c (vr_wa fR hon cc n 8) (n + 1) (vk_fr hon) (fR 39 0) (fR 34 0) 8 ∧ vo_bld fR hon s cc n 35 0 = vq_c (vr_wa fR hon cc n 8) (n + 1) (vk_fr hon) (fR 40 0) (fR 35 0) 8 ∧ vo_bld fR hon s cc n 36 0 = vq_w (vr_wa fR hon cc n 8) (vk_fr hon) 8 := by
  unfold vo_bld vo_b2 vk_fr
  refine ⟨?_, ?_, ?_, ?_, ?_, ?_⟩
  · rw [jy_row_k (by omega), jy_row_k (by omega), jy_row_k (by omega), jy_row_k (by omega), jy_row_k (by omega), jy_row_at]
  · rw [jy_row_k (by omega), jy_row_k (by omega), jy_row_k (by omega), jy_row_k (by omega), jy_row_at]
  · rw [jy_row_k (by omega), jy_row_k (by omega), jy_row_k (by omega), jy_row_at]
  · rw [jy_row_k (by omega), jy_row_k (by omega), jy_row_at]
  · rw [jy_row_k (by omega), jy_row_at]
  · rw [jy_row_at]
theorem vr_e_at {b c : Nat} (h : ∀ k, k ∈ [30, 31, 32, 33, 34, 35] → fR' k 0 (8 * b + c) = fR k 0 (8 * b + c)) (hs : fR' 20 0 0 = fR 20 0 0) : vr_e fR' b c = vr_e fR b c := by
  unfold vr_e
  rw [h 30 (by simp), h 31 (by simp), h 32 (by simp), h 33 (by simp), h 34 (by simp), h 35 (by simp), hs]
theorem vr_leaf_at {b c : Nat} (h : ∀ k, k ∈ [30, 31, 32, 33, 34, 35] → fR' k 0 (8 * b + c) = fR k 0 (8 * b + c)) (hs : fR 31 0 (8 * b + c) = 0 ∨ fR' 25 0 c = fR 25 0 c) : vr_leaf fR' b c = vr_leaf fR b c := by
  unfold vr_leaf
  rw [h 30 (by simp), h 31 (by simp), h 32 (by simp), h 33 (by simp), h 34 (by simp), h 35 (by simp)]
  rcases hs with hs | hs
  · rw [if_pos hs, if_pos hs]
  · rw [hs]
theorem ji_bldI (h : jI K g fC fR cc n) (h24 : n < 24) : jI (vb_K K (n + 1)) (jy_up (vk_bg K fC g cc n hon s) 4 0 (n + 1) (some K.2.2.1)) (vk_bf K fC g cc n hon s) (vo_bld fR hon s cc n) cc (n + 1) := by
  have N := ji_7 h
  have tk := fun c (hc : c < 8) => ji_tk (hon := hon) (s := s) h hc
  obtain ⟨h1, h2, h3, h4, h5, h6, h7, h8, h9, h10, h11, h12, h13, h14, h15, h16, h17⟩ := h
  obtain ⟨n10, n11, n12⟩ := h2.2 (n + 1) (by omega)
  obtain ⟨x, l10, l11, l12, a10, a11, a12⟩ := vb_x h1.1 n10 n11 n12
  have hC := vb_Cl h1 h2
  have hfr := vb_fr (g := g) h1.1 n10 n11 n12
  have hkk : vk_bk hon = 5 ∨ vk_bk hon = 6 := by unfold vk_bk; split <;> simp
  have hC2 : jl_C (vb_K K (n + 1)) (vk_bg K fC g cc n hon s) cc n := vk_gb_C hC hkk
  have hf2 : jl_f (vb_K K (n + 1)) (vk_bg K fC g cc n hon s) (n + 1) := hfr.gg (by
    unfold vk_bg vk_gb
    rw [jy_row_k (vk_bk_ne (by omega) (by omega)), jy_row_k (by decide)])
  have he2 : ∀ c, c < 8 → jl_e (vb_K K (n + 1)) (vk_bg K fC g cc n hon s 11 (n + 1) c) := by
    intro c hc
    rw [vk_bg_11n]
    exact vk_pe_ok hC hkk c hc
  have vk := fun (k : Nat) (q : ¬ k = 0) (q' : ¬ k = 10) (q'' : ¬ k = 12) => vk_bf_k (K := K) (fC := fC) (g := g) (cc := cc) (n := n) (hon := hon) (s := s) q q' q''
  have vo := fun (k : Nat) (q : ¬ k = 20) (q' : ¬ k = 29) (q'' : k < 30 ∨ k = 31 ∨ 36 < k) => vo_bld_k (fR := fR) (cc := cc) (n := n) (hon := hon) (s := s) q q' q''
  obtain ⟨r30, r32, r33, r34, r35, r36⟩ := vo_bld_r (fR := fR) (cc := cc) (n := n) (hon := hon) (s := s)
  have r31 := vo 31 (by omega) (by omega) (by omega)
  have e13 := vk 13 (by omega) (by omega) (by omega)
  have seed : vo_bld fR hon s cc n 20 0 0 = fR 20 0 0 := by rw [vo_bld_20, if_neg (by omega)]
  have g11 : ∀ b, jy_up (vk_bg K fC g cc n hon s) 4 0 (n + 1) (some K.2.2.1) 11 b = vk_bg K fC g cc n hon s 11 b := fun b => by
    funext j
    exact jy_up_k (by omega)
  have lo : ∀ b c, c < 8 → ¬ b = n + 1 → ∀ k, k ∈ [30, 31, 32, 33, 34, 35] → vo_bld fR hon s cc n k 0 (8 * b + c) = fR k 0 (8 * b + c) := by
    intro b c hc hb k hk
    simp only [List.mem_cons, List.mem_nil_iff, or_false] at hk
    rcases hk with rfl | rfl | rfl | rfl | rfl | rfl
    · rw [r30, vq_c_lo (by omega)]
    · rw [r31]
    · rw [r32, vq_c_lo (by omega)]
    · rw [r33, vq_c_lo (by omega)]
    · rw [r34, vq_c_lo (by omega)]
    · rw [r35, vq_c_lo (by omega)]
  refine ⟨?_, vb_F h2, ?_, ?_, ?_, ?_, ?_, ?_, ?_, ?_, ?_, ?_, ?_, ?_, ?_, ?_, ?_⟩
  · have := hC2.nb hf2 he2
    rw [a10] at this
    exact this
  · exact ⟨by rw [vk_bf_0 (by omega)]; exact h3.1, vk_bf_7, h3.2.2.1, by omega⟩
  · exact ⟨by rw [vo_bld_20, if_neg (by omega)]; exact h4.1, by rw [vo_bld_20, if_pos rfl], h4.2.2.1, by omega⟩
  · unfold jp_1
    rw [vk_bf_0 (by omega), vk_bf_0 (by omega), vk_bf_0 (by omega), vo_bld_20, vo_bld_20, vo_bld_20, if_neg (by omega), if_neg (by omega), if_neg (by omega)]
    exact h5
  · rw [vk 1 (by omega) (by omega) (by omega), vo 23 (by omega) (by omega) (by omega)]; exact h6
  · rw [vk 2 (by omega) (by omega) (by omega), vo 27 (by omega) (by omega) (by omega)]; exact h7.up
  · rw [vk 7 (by omega) (by omega) (by omega), vk 8 (by omega) (by omega) (by omega), vo 25 (by omega) (by omega) (by omega), vo 26 (by omega) (by omega) (by omega), vo 41 (by omega) (by omega) (by omega)]; exact h8
  · rw [vk 8 (by omega) (by omega) (by omega), vk 9 (by omega) (by omega) (by omega), vo 42 (by omega) (by omega) (by omega), vo 43 (by omega) (by omega) (by omega), vo 44 (by omega) (by omega) (by omega), vo 45 (by omega) (by omega) (by omega), vo 46 (by omega) (by omega) (by omega), vo 47 (by omega) (by omega) (by omega), vo 48 (by omega) (by omega) (by omega)]; exact h9.up
  · rw [vk 9 (by omega) (by omega) (by omega)]; exact h10
  · rw [vo 47 (by omega) (by omega) (by omega), vo 48 (by omega) (by omega) (by omega)]; exact h11
  · intro b q1 q2
    rw [vo_bld_29]
    by_cases e : b = n + 1
    · subst e
      rw [vk_bf_10n, if_pos rfl]
      by_cases y : s = 0
      · rw [if_pos y]
        exact ⟨fun _ => by decide, fun _ => y⟩
      · rw [if_neg y]
        exact ⟨fun z => absurd z y, fun z => absurd rfl z⟩
    · rw [vk_bf_10 e, if_neg e]
      exact h12 b q1 (by omega)
  · refine jp_8.mk' (fun b c q1 q2 hc => ?_) (fun b c q1 q2 hc => ?_)
    · by_cases e : b = n + 1
      · subst e
        have z := h13.2.1 (n + 1) c (by omega) (by omega) hc
        unfold jp_8x
        rw [g11, vk_bg_11n]
        rcases tk c hc with ⟨t1, t2⟩ | ⟨a, t1, t2, t3, t4⟩
        · rw [t1]
          have e0 : vo_bld fR hon s cc n 30 0 (8 * (n + 1) + c) = 0 := by rw [r30, vq_c_at hc, if_pos t2]; exact z.1
          unfold vr_e vr_leaf
          rw [if_pos e0, if_pos e0]
          exact ⟨⟨rfl, rfl⟩, fun a q => by cases q⟩
        · rw [t1]
          have e0 : vo_bld fR hon s cc n 30 0 (8 * (n + 1) + c) = 1 := by rw [r30, vq_c_at hc, if_neg t3]
          have e1 : vo_bld fR hon s cc n 31 0 (8 * (n + 1) + c) = 0 := by rw [r31]; exact z.2.1
          have e2 : vo_bld fR hon s cc n 32 0 (8 * (n + 1) + c) = fR 37 0 (vk_fr hon + c) := by rw [r32, vq_c_at hc, if_neg t3]
          have e3 : vo_bld fR hon s cc n 33 0 (8 * (n + 1) + c) = fR 38 0 (vk_fr hon + c) := by rw [r33, vq_c_at hc, if_neg t3]
          have e4 : vo_bld fR hon s cc n 34 0 (8 * (n + 1) + c) = fR 39 0 (vk_fr hon + c) := by rw [r34, vq_c_at hc, if_neg t3]
          have e5 : vo_bld fR hon s cc n 35 0 (8 * (n + 1) + c) = fR 40 0 (vk_fr hon + c) := by rw [r35, vq_c_at hc, if_neg t3]
          unfold jp_w at t4
          dsimp only at t4
          obtain ⟨w0, w1, w2, w3, w4, w5, w6⟩ := t4
          refine ⟨⟨?_, ?_⟩, fun a' q => ?_⟩
          · show some (vc_t (vk_bf K fC g cc n hon s) a) = _
            unfold vc_t vr_e
            rw [e0, e1, e2, e3, e4, e5, e13, seed, w1, w2, w3, w4, w5, if_neg (show ¬ (1 : Int32) = 0 by decide)]
            simp
          · show vk_bf K fC g cc n hon s 13 a 5 = _
            unfold vr_leaf
            rw [e0, e1, e2, e3, e4, e5, e13, w6, if_neg (by decide), if_pos rfl]
          · cases q
            rw [e13]
            exact fun y => absurd w1 y
      · exact (h13.x q1 (by omega) hc).cg (by rw [g11, vk_bg_11 e]) (fun a _ => by rw [e13]) (vr_e_at (lo b c hc e) seed) (vr_leaf_at (lo b c hc e) (Or.inr (by rw [vo 25 (by omega) (by omega) (by omega)])))
    · have L := lo b c hc (by omega)
      rw [L 30 (by simp), L 31 (by simp), L 32 (by simp)]
      exact h13.2.1 b c (by omega) q2 hc
  · intro b q1 q2
    by_cases e : b = n + 1
    · subst e
      obtain ⟨old, ho⟩ := vk_bf_12n (K := K) (fC := fC) (g := g) (cc := cc) (n := n) (hon := hon) (s := s)
      refine ⟨old, ?_⟩
      rw [g11, vc_lf_13 (f := fC) e13]
      exact ho
    · exact (jp_9.cg (n := n) (g := g) (fC := fC) h14 (fun b c z1 z2 _ => by rw [g11, vk_bg_11 (by omega)]) (fun b c a _ _ _ _ => by rw [e13]) (fun b z1 z2 => vk_bf_12 (by omega)) q1 (by omega))
  · intro c hc
    have P := h15 c hc
    have wr : ∀ i, vo_bld fR hon s cc n 36 0 i = if vk_fr hon ≤ i ∧ i < vk_fr hon + 8 then 0 else vr_wa fR hon cc n 8 i := fun i => by rw [r36]; rfl
    have kp : ∀ r i, ¬ (vk_fr hon ≤ i ∧ i < vk_fr hon + 8) → (¬ hon = 0 → 8 ≤ i) → jp_w fC fR r i c → jp_w (vk_bf K fC g cc n hon s) (vo_bld fR hon s cc n) r i c := by
      intro r i hi hh hw
      have ww : (vo_bld fR hon s cc n 36 0 i = 0) ↔ (fR 36 0 i = 0) := by
        rw [wr, if_neg hi]
        unfold vr_wa
        by_cases y : i < 8
        · rw [if_pos y]
          unfold vr_w1
          have ho : hon = 0 := Classical.byContradiction fun z => by have := hh z; omega
          by_cases w : fR 36 0 i = 0
          · rw [if_pos w]
            exact ⟨fun _ => w, fun _ => rfl⟩
          · rw [if_neg w, if_pos ho]
            exact ⟨fun z => absurd z (by decide), fun z => absurd z w⟩
        · rw [if_neg y]
      cases r with
      | none =>
        show vo_bld fR hon s cc n 36 0 i = 0
        exact ww.mpr hw
      | some a =>
        unfold jp_w at hw ⊢
        dsimp only at hw ⊢
        rw [vo 37 (by omega) (by omega) (by omega), vo 38 (by omega) (by omega) (by omega), vo 39 (by omega) (by omega) (by omega), vo 40 (by omega) (by omega) (by omega), seed, e13]
        exact ⟨fun z => hw.1 (ww.mp z), hw.2⟩
    have cl : ∀ i, (vk_fr hon ≤ i ∧ i < vk_fr hon + 8) → jp_w (vk_bf K fC g cc n hon s) (vo_bld fR hon s cc n) none i c := by
      intro i hi
      show vo_bld fR hon s cc n 36 0 i = 0
      rw [wr, if_pos hi]
    rw [jy_up_k (by omega), jy_up_k (by omega), vk_bg_w (Or.inl rfl) hc, vk_bg_w (Or.inr rfl) hc]
    by_cases y : hon = 0
    · have e1 : vk_bk hon = 6 := if_pos y
      have e2 : vk_fr hon = 8 := if_pos y
      rw [e1, if_neg (by omega), if_pos rfl]
      exact ⟨kp _ _ (by omega) (fun z => absurd y z) P.1, cl _ (by omega)⟩
    · have e1 : vk_bk hon = 5 := if_neg y
      have e2 : vk_fr hon = 0 := if_neg y
      rw [e1, if_pos rfl, if_neg (by omega)]
      exact ⟨cl _ (by omega), kp _ _ (by omega) (fun z => by omega) P.2⟩
  · intro c hc
    obtain ⟨b, q1, q2, a, qa⟩ := h16 c hc
    exact ⟨b, q1, by omega, a, by rw [g11, vk_bg_11 (by omega)]; exact qa⟩
  · rw [r31]; exact h17
theorem js_bld (hI : jI K g fC fR cc n) (hR : jl_R K g) (hs : s = 0 ∨ s = 1) : jL Z 8 18 76 [.inl hon, .inl s] K g fC fR := by
  have h1 := cc_bld (Z := Z) (d := 3) (f := fC) (hon := hon) hI.1 hI.2.1 hI.2.2.1 hs
  by_cases q : n = 24
  · have h2 := rm_bld (Z := Z) (d := 4) (f := fR) (hon := hon) (s := s) hR hI.2.2.2.1
    rw [if_pos q] at h1 h2
    exact jL.same hI hR h1 h2
  · rw [if_neg q] at h1
    have h24 := (ji_7 hI).2.2.2.2.2
    obtain ⟨n10, n11, n12⟩ := hI.2.1.2 (n + 1) (by omega)
    obtain ⟨x, -⟩ := vb_x hI.1.1 n10 n11 n12
    have e20 : jy_up (vk_bg K fC g cc n hon s) 4 0 (n + 1) (some K.2.2.1) 20 = g 20 := by
      rw [← vk_bg_20 (K := K) (fC := fC) (g := g) (cc := cc) (n := n) (hon := hon) (s := s)]
      funext i j
      exact jy_up_k (by omega)
    have hR' := (hR.x x).gg e20
    have h2 := rm_bld (Z := Z) (d := 4) (f := fR) (hon := hon) (s := s) hR' hI.2.2.2.1
    rw [if_neg q] at h2
    have E : jF K (vb_K K (n + 1)) 3 27 := ((jF.rfl'.nk (k := 10) (by omega) (by omega)).nk (k := 11) (by omega) (by omega)).nk (k := 12) (by omega) (by omega)
    rw [E.2.1] at h2
    refine ⟨_, _, _, _, _, cc, n + 1, h1, h2, ji_bldI hI (by omega), hR', fun k hk => vk_bf_k (by omega) (by omega) (by omega), fun k hk => vo_bld_k (by omega) (by omega) (by omega), E.E (by omega) (by omega), Or.inr (Or.inr (Or.inl (by rw [(ji_7 hI).1, nI_clamp (by omega)])))⟩
end BE
