/-! both sides in step: tick, show, accept, exit, challenges, answers, finalise -/
section LK
variable {Z : jx_Sc} {d dr : Nat} {K : jy_K} {g : jy_R} {fC fR fC' fR' : jy_I} {cc n : Nat}
theorem jI.small (h : jI K g fC fR cc n) (hC : ∀ k, ¬ k = 0 → ¬ k = 2 → ¬ k = 10 → fC' k = fC k) (hR : ∀ k, ¬ k = 20 → ¬ k = 27 → ¬ k = 29 → fR' k = fR k) (hs : fR' 20 0 0 = fR 20 0 0) (nC : jn_C fC' cc n) (nR : jn_R fR' cc n) (p1 : jp_1 (fC' 0 0) (fR' 20 0)) (p4 : jp_4 cc n (fC' 2 0) (fR' 27 0)) (p7 : jp_7 n (fC' 10) (fR' 29 0)) : jI K g fC' fR' cc n := by
  have e1 := hC 1 (by omega) (by omega) (by omega)
  have e7 := hC 7 (by omega) (by omega) (by omega)
  have e8 := hC 8 (by omega) (by omega) (by omega)
  have e9 := hC 9 (by omega) (by omega) (by omega)
  have e12 := hC 12 (by omega) (by omega) (by omega)
  have e13 := hC 13 (by omega) (by omega) (by omega)
  have r23 := hR 23 (by omega) (by omega) (by omega)
  have r25 := hR 25 (by omega) (by omega) (by omega)
  have r26 := hR 26 (by omega) (by omega) (by omega)
  have r30 := hR 30 (by omega) (by omega) (by omega)
  have r31 := hR 31 (by omega) (by omega) (by omega)
  have r32 := hR 32 (by omega) (by omega) (by omega)
  have r33 := hR 33 (by omega) (by omega) (by omega)
  have r34 := hR 34 (by omega) (by omega) (by omega)
  have r35 := hR 35 (by omega) (by omega) (by omega)
  have r36 := hR 36 (by omega) (by omega) (by omega)
  have r37 := hR 37 (by omega) (by omega) (by omega)
  have r38 := hR 38 (by omega) (by omega) (by omega)
  have r39 := hR 39 (by omega) (by omega) (by omega)
  have r40 := hR 40 (by omega) (by omega) (by omega)
  have r41 := hR 41 (by omega) (by omega) (by omega)
  have r42 := hR 42 (by omega) (by omega) (by omega)
  have r43 := hR 43 (by omega) (by omega) (by omega)
  have r44 := hR 44 (by omega) (by omega) (by omega)
  have r45 := hR 45 (by omega) (by omega) (by omega)
  have r46 := hR 46 (by omega) (by omega) (by omega)
  have r47 := hR 47 (by omega) (by omega) (by omega)
  have r48 := hR 48 (by omega) (by omega) (by omega)
  have v1 : vc_lf fC' = vc_lf fC := by
    funext r
    cases r with
    | none => rfl
    | some a => show fC' 13 a 5 = fC 13 a 5; rw [e13]
  have v2 : vc_t fC' = vc_t fC := by
    funext a
    unfold vc_t
    rw [e13]
  have v3 : vr_e fR' = vr_e fR := by
    funext b c
    unfold vr_e
    rw [r30, r31, r32, r33, r34, r35, hs]
  have v4 : vr_leaf fR' = vr_leaf fR := by
    funext b c
    unfold vr_leaf
    rw [r30, r31, r32, r33, r34, r35, r25]
  have v5 : jp_w fC' fR' = jp_w fC fR := by
    funext r i c
    cases r with
    | none => show (fR' 36 0 i = 0) = (fR 36 0 i = 0); rw [r36]
    | some a =>
      unfold jp_w
      dsimp only
      rw [r36, r37, r38, r39, r40, hs, e13]
  obtain ⟨h1, h2, h3, h4, h5, h6, h7, h8, h9, h10, h11, h12, h13, h14, h15, h16, h17⟩ := h
  refine ⟨h1, h2, nC, nR, p1, ?_, p4, ?_, ?_, ?_, ?_, p7, ?_, ?_, ?_, h16, by rw [r31]; exact h17⟩
  · rw [e1, r23]; exact h6
  · rw [e7, e8, r25, r26, r41]; exact h8
  · rw [e8, e9, r42, r43, r44, r45, r46, r47, r48]; exact h9
  · rw [e9]; exact h10
  · rw [r47, r48]; exact h11
  · unfold jp_8; rw [v1, v2, v3, v4, e13, r30, r31, r32]; exact h13
  · unfold jp_9; rw [v1, e12]; exact h14
  · unfold jp_10; rw [v5]; exact h15
theorem js_tick (hI : jI K g fC fR cc n) (hR : jl_R K g) {x : Int32} : jL Z 8 53 97 [.inl x] K g fC fR := by
  have H := hI
  obtain ⟨-, -, nC, nR, p1, -, p4, -, -, -, -, p7, -⟩ := H
  have h1 := cc_tick (Z := Z) (d := 7) (f := fC) (x := x) hI.1
  have h2 := rm_tick (Z := Z) (d := 7) (f := fR) (n := x) hR
  rw [← p1.2.2] at h2
  refine jL.only (cc := cc) (n := n) hR h1 h2 ?_ (jt_lo.rfl'.up (by omega)) (jt_hi.rfl'.up (by omega))
  refine jI.small hI (fun k a1 a2 a3 => jt_up a1) (fun k a1 a2 a3 => jt_up a1) (by simp only [jy_up_k, jy_up_2, jy_row_k3, jy_row_2, Nat.reduceEqDiff, not_false_eq_true, ↓reduceIte, true_and, and_true, and_false, false_and, reduceCtorEq]) ?_ ?_ ?_ ?_ ?_
  · unfold jn_C
    simp only [jy_up_k, jy_up_2, jy_row_k3, jy_row_2, Nat.reduceEqDiff, not_false_eq_true, ↓reduceIte, true_and, and_true, and_false, false_and, reduceCtorEq]
    exact nC
  · unfold jn_R
    simp only [jy_up_k, jy_up_2, jy_row_k3, jy_row_2, Nat.reduceEqDiff, not_false_eq_true, ↓reduceIte, true_and, and_true, and_false, false_and, reduceCtorEq]
    exact nR
  · unfold jp_1
    simp only [jy_up_k, jy_up_2, jy_row_k3, jy_row_2, Nat.reduceEqDiff, not_false_eq_true, ↓reduceIte, true_and, and_true, and_false, false_and, reduceCtorEq]
    exact ⟨p1.1, p1.2.1⟩
  · rw [jt_up (by omega), jt_up (by omega)]
    exact p4
  · rw [jt_up (by omega), jt_up (by omega)]
    exact p7
theorem js_show (hI : jI K g fC fR cc n) (hR : jl_R K g) {b : Int32} : jL Z 8 23 79 [.inl b] K g fC fR := by
  have N := ji_7 hI
  have H := hI
  obtain ⟨-, -, nC, nR, p1, -, p4, -, -, -, -, p7, -⟩ := H
  by_cases hb : b < 1 ∨ nI n < b
  · exact jL.same hI hR (cc_show_n (d := 6) hI.1 (by rw [N.1]; exact hb)) (rm_show_n (d := 6) hR (by rw [N.2.1]; exact hb))
  · obtain ⟨b, rfl, hb1, hb2⟩ := jz_bl N.2.2.2.2.2 hb
    have h1 := cc_show (Z := Z) (d := 6) (f := fC) hI.1 nC hb1 hb2
    have h2 := rm_show (Z := Z) (d := 6) (f := fR) hR nR hb1 hb2
    have q := p7 b hb1 hb2
    by_cases z : fC 10 b 2 = 0
    · rw [if_pos z] at h1
      rw [if_neg (q.mp z)] at h2
      refine jL.only (cc := cc) (n := n) hR h1 h2 ?_ (jt_lo.rfl'.up (by omega)) (jt_hi.rfl'.up (by omega))
      refine jI.small hI (fun k a1 a2 a3 => jt_up a3) (fun k a1 a2 a3 => jt_up a3) (by simp only [jy_up_k, jy_up_2, jy_row_k3, jy_row_2, Nat.reduceEqDiff, not_false_eq_true, ↓reduceIte, true_and, and_true, and_false, false_and, reduceCtorEq]) ?_ ?_ ?_ ?_ ?_
      · unfold jn_C
        rw [jt_up (by omega)]
        exact nC
      · unfold jn_R
        rw [jt_up (by omega)]
        exact nR
      · rw [jt_up (by omega), jt_up (by omega)]
        exact p1
      · rw [jt_up (by omega), jt_up (by omega)]
        exact p4
      · intro b' z1 z2
        simp only [jy_up_k, jy_up_2, jy_row_k3, jy_row_2, Nat.reduceEqDiff, not_false_eq_true, ↓reduceIte, true_and, and_true, and_false, false_and, reduceCtorEq]
        by_cases e : b' = b
        · rw [if_pos e, if_pos e]
          exact ⟨fun y => absurd y (by decide), fun y => absurd rfl y⟩
        · rw [if_neg e, if_neg e]
          exact p7 b' z1 z2
    · rw [if_neg z] at h1
      rw [if_pos (Classical.byContradiction fun y => z (q.mpr y))] at h2
      exact jL.same hI hR h1 h2
theorem ji_lst (h : jI K g fC fR cc n) {c : Nat} (hc : c < cc) : 1 ≤ vr_last fR n c ∧ vr_last fR n c ≤ n ∧ vr_has fR c (vr_last fR n c) = true := by
  have N := ji_7 h
  have H := h
  obtain ⟨-, -, -, -, -, -, -, -, -, -, -, -, p8, -, -, p11, -⟩ := H
  obtain ⟨b, b1, b2, a, ha⟩ := p11 c hc
  have hv : vr_has fR c b = true := by
    rw [← ji_has N.1 N.2.1 N.2.2.2.2.2 p8 (show c < 8 by omega) b1 b2]
    unfold vc_has ve_r
    rw [N.1, if_neg (by
      have z1 : ¬ nI b < 1 := nI_nlt (b := 1) b1 (by omega)
      have z2 : ¬ nI n < nI b := nI_nlt b2 (by omega)
      simp [z1, z2]), nI_clamp (by omega), ha]
    rfl
  unfold vr_last
  rcases jq_upl_sp (P := vr_has fR c) n 1 0 with ⟨q1, q2⟩ | ⟨q1, q2, q3, q4⟩
  · rw [q1 b b1 (by omega)] at hv
    cases hv
  · exact ⟨q1, by omega, q3⟩
theorem ji_to (h : jI K g fC fR cc n) {c : Nat} (hc : c < cc) : jq_to (vc_E fC g) (nI (vr_last fR n c)) c = some (fR 34 0 (8 * vr_last fR n c + c)) := by
  have N := ji_7 h
  obtain ⟨l1, l2, l3⟩ := ji_lst h hc
  have hE := ji_EE h (show c < 8 by omega) (nI (vr_last fR n c))
  unfold jq_to
  rw [hE]
  unfold vr_E
  rw [N.2.1, if_neg (by
    have z1 : ¬ nI (vr_last fR n c) < 1 := nI_nlt (b := 1) l1 (by omega)
    have z2 : ¬ nI n < nI (vr_last fR n c) := nI_nlt l2 (by omega)
    simp [z1, z2]), nI_clamp (by omega)]
  unfold vr_e
  unfold vr_has at l3
  rw [if_neg (of_decide_eq_true l3)]
  rfl
theorem js_acc (hI : jI K g fC fR cc n) (hR : jl_R K g) {u c : Int32} : jL Z 8 24 81 [.inl u, .inl c] K g fC fR := by
  have N := ji_7 hI
  have H := hI
  obtain ⟨-, -, nC, nR, p1, -, p4, p5, -, -, -, p7, p8, -⟩ := H
  by_cases hb : (u < 0 ∨ 3 < u) ∨ (c < 0 ∨ nI cc ≤ c)
  · exact jL.same hI hR (cc_acc_n (d := 6) hI.1 nC (by rw [jz_4u, N.2.2.1]; exact hb)) (rm_acc_n (d := 6) hR (by rw [N.2.2.2.1]; exact hb))
  · obtain ⟨u, rfl, hu⟩ := jz_usr (u := u) (fun z => hb (Or.inl z))
    obtain ⟨c, rfl, hc⟩ := jz_coi N.2.2.2.2.1 (fun z => hb (Or.inr z))
    have h1 := cc_acc (Z := Z) (d := 3) (f := fC) hI.1 nC hu hc
    have h2 := rm_acc (Z := Z) (d := 2) (f := fR) hR nR hu hc
    have q := p5.1 c hc
    have c8 : c < 8 := by omega
    have L := ji_last N.1 N.2.1 N.2.2.2.2.2 p8 c8
    have S := ji_snd N.1 N.2.1 N.2.2.2.2.2 p7 p8 c8
    have T := ji_to hI hc
    rw [← L] at h1
    have C : ((¬ fC 7 c 1 = 0) ∨ (¬ fC 8 c 0 = 0) ∨ jq_an (vc_wh fC n 0) 24 1 = true ∨ vc_snd fC g c = false ∨ ¬ jq_to (vc_E fC g) (nI (vr_last fR n c)) c = some (nI u)) ↔ ((¬ fR 26 0 c = 0) ∨ (¬ fR 41 0 c = 0) ∨ vr_snd fR n c = false ∨ ¬ fR 34 0 (8 * vr_last fR n c + c) = nI u) := by
      rw [S, T, q.2.1, q.2.2.1]
      cases jq_an (vc_wh fC n 0) 24 1 <;> cases vc_snd fC g c <;> simp
    by_cases z : (¬ fR 26 0 c = 0) ∨ (¬ fR 41 0 c = 0) ∨ vr_snd fR n c = false ∨ ¬ fR 34 0 (8 * vr_last fR n c + c) = nI u
    · rw [if_pos (C.mpr z)] at h1
      rw [if_pos z] at h2
      exact jL.same hI hR h1 h2
    · rw [if_neg (fun y => z (C.mp y))] at h1
      rw [if_neg z] at h2
      obtain ⟨l1, l2, l3⟩ := ji_lst hI hc
      refine jL.only (cc := cc) (n := n) hR h1 h2 ?_ (jt_lo.rfl'.up (by omega)) (jt_hi.rfl'.up (by omega))
      refine jI.small hI (fun k a1 a2 a3 => jt_up a2) (fun k a1 a2 a3 => jt_up a2) (by simp only [jy_up_k, jy_up_2, jy_row_k3, jy_row_2, Nat.reduceEqDiff, not_false_eq_true, ↓reduceIte, true_and, and_true, and_false, false_and, reduceCtorEq]) ?_ ?_ ?_ ?_ ?_
      · unfold jn_C
        rw [jt_up (by omega)]
        exact nC
      · unfold jn_R
        rw [jt_up (by omega)]
        exact nR
      · rw [jt_up (by omega), jt_up (by omega)]
        exact p1
      · refine ⟨fun k hk => ?_, fun v c' hv z1 z2 => ?_⟩
        · simp only [jy_up_k, jy_up_2, jy_row_k3, jy_row_2, Nat.reduceEqDiff, not_false_eq_true, ↓reduceIte, true_and, and_true, and_false, false_and, reduceCtorEq]
          by_cases e : k = 8 * u + c
          · rw [if_pos e, if_pos e]
            exact ⟨rfl, _, l2, rfl⟩
          · rw [if_neg e, if_neg e]
            exact p4.1 k hk
        · simp only [jy_up_k, jy_up_2, jy_row_k3, jy_row_2, Nat.reduceEqDiff, not_false_eq_true, ↓reduceIte, true_and, and_true, and_false, false_and, reduceCtorEq]
          rw [if_neg (by omega)]
          exact p4.2 v c' hv z1 z2
      · rw [jt_up (by omega), jt_up (by omega)]
        exact p7
theorem js_exit (hI : jI K g fC fR cc n) (hR : jl_R K g) {u c b : Int32} : jM Z (d + 5) (dr + 5) 29 85 [.inl u, .inl c, .inl b] K g fC fR cc n := by
  have N := ji_7 hI
  have H := hI
  obtain ⟨-, -, nC, nR, p1, p3, p4, p5, -, -, -, p7, p8, -⟩ := H
  by_cases hb : (u < 0 ∨ 3 < u) ∨ (c < 0 ∨ nI cc ≤ c) ∨ (b < 1 ∨ nI n < b)
  · exact jM.same hI (cc_exit_n (d := d + 3) hI.1 nC (by rw [jz_4u, N.2.2.1, N.1]; exact hb)) (rm_exit_n (d := dr + 3) hR (by rw [N.2.2.2.1, N.2.1]; exact hb))
  · obtain ⟨u, rfl, hu⟩ := jz_usr (u := u) (fun z => hb (Or.inl z))
    obtain ⟨c, rfl, hc⟩ := jz_coi N.2.2.2.2.1 (fun z => hb (Or.inr (Or.inl z)))
    obtain ⟨b, rfl, b1, b2⟩ := jz_bl N.2.2.2.2.2 (fun z => hb (Or.inr (Or.inr z)))
    have h1 := cc_exit (Z := Z) (d := d) (f := fC) hI.1 nC hu hc b1 b2
    have h2 := rm_exit (Z := Z) (d := dr) (f := fR) hR nR hu hc b1 b2
    have q := p5.1 c hc
    rw [q.2.1, q.2.2.1, ji_ex (ji_EE hI (show c < 8 by omega)), p3 u hu] at h1
    by_cases z1 : (¬ fR 26 0 c = 0) ∨ (¬ fR 41 0 c = 0)
    · rw [if_pos z1] at h1 h2
      exact jM.same hI h1 h2
    · rw [if_neg z1] at h1 h2
      by_cases z2 : jq_ex (vr_E fR) u c b = false
      · rw [if_pos z2] at h1 h2
        exact jM.same hI h1 h2
      · rw [if_neg z2] at h1 h2
        by_cases z3 : fR 23 0 u < 10
        · rw [if_pos z3] at h1 h2
          exact jM.same hI h1 h2
        · rw [if_neg z3] at h1 h2
          refine jM.only h1 h2 (ji_exI hI hc hu b1 b2 (by simpa using z2) ?_) ?_ ?_
          · rw [q.2.1]
            exact Classical.byContradiction fun y => z1 (Or.inl y)
          · unfold vk_ex vk_beg
            exact ((((((jt_lo.rfl'.up (by omega)).up (by omega)).up (by omega)).up (by omega)).up (by omega)).up (by omega)).row (by omega)
          · unfold vo_ex vo_ex1
            exact (((((((jt_hi.rfl'.up (by omega)).up (by omega)).up (by omega)).up (by omega)).up (by omega)).up (by omega)).row (by omega)).row (by omega)
theorem vc_can_lo {f : jy_I} {c u : Nat} : jt_lo f (vc_can f c u) := by
  unfold vc_can
  exact (jt_lo.rfl'.row (by omega)).up (by omega)
theorem vr_can_hi {f : jy_I} {c u : Nat} : jt_hi f (vr_can f n c u) := by
  unfold vr_can
  exact ((jt_hi.rfl'.up (by omega)).row (by omega)).row (by omega)
theorem js_aft (hI : jI K g fC fR cc n) (hR : jl_R K g) {u c b : Int32} : jM Z (d + 4) (dr + 5) 32 86 [.inl u, .inl c, .inl b] K g fC fR cc n := by
  have N := ji_7 hI
  have H := hI
  obtain ⟨-, -, nC, nR, p1, p3, p4, p5, p6, -, -, p7, p8, -⟩ := H
  by_cases hb : (u < 0 ∨ 3 < u) ∨ (c < 0 ∨ nI cc ≤ c) ∨ (b < 1 ∨ nI n < b)
  · exact jM.same hI (cc_aft_n (d := d) hI.1 nC (by rw [jz_4u, N.2.2.1, N.1]; exact hb)) (rm_aft_n (d := dr + 2) hR (by rw [N.2.2.2.1, N.2.1]; exact hb))
  · obtain ⟨u, rfl, hu⟩ := jz_usr (u := u) (fun z => hb (Or.inl z))
    obtain ⟨c, rfl, hc⟩ := jz_coi N.2.2.2.2.1 (fun z => hb (Or.inr (Or.inl z)))
    obtain ⟨b, rfl, b1, b2⟩ := jz_bl N.2.2.2.2.2 (fun z => hb (Or.inr (Or.inr z)))
    have h1 := cc_aft (Z := Z) (d := d) (f := fC) hI.1 nC hu hc b1 b2 (ji_cokC hI hc)
    have h2 := rm_aft (Z := Z) (d := dr) (f := fR) hR nR hu hc b1 b2 (ji_cokR hI (by omega))
    have q := p5.1 c hc
    rw [ji_sp (ji_EE hI (show c < 8 by omega))] at h1
    by_cases z1 : fC 8 c 0 = 0
    · rw [if_pos z1] at h1
      rw [if_pos (q.2.2.1 ▸ z1)] at h2
      exact jM.same hI h1 h2
    · rw [if_neg z1] at h1
      rw [if_neg (q.2.2.1 ▸ z1), ← (p6 c hc z1).1.2.1] at h2
      by_cases z2 : jq_sp (vr_E fR) c (nI b) (fC 8 c 2) = false
      · rw [if_pos z2] at h1 h2
        exact jM.same hI h1 h2
      · rw [if_neg z2] at h1 h2
        exact jM.only h1 h2 (ji_can hI hc hu z1) vc_can_lo vr_can_hi
theorem js_btw (hI : jI K g fC fR cc n) (hR : jl_R K g) {u c b : Int32} : jM Z (d + 4) (dr + 5) 39 89 [.inl u, .inl c, .inl b] K g fC fR cc n := by
  have N := ji_7 hI
  have H := hI
  obtain ⟨-, -, nC, nR, p1, p3, p4, p5, p6, -, -, p7, p8, -⟩ := H
  by_cases hb : (u < 0 ∨ 3 < u) ∨ (c < 0 ∨ nI cc ≤ c) ∨ (b < 1 ∨ nI n < b)
  · exact jM.same hI (cc_btw_n (d := d) hI.1 nC (by rw [jz_4u, N.2.2.1, N.1]; exact hb)) (rm_btw_n (d := dr + 2) hR (by rw [N.2.2.2.1, N.2.1]; exact hb))
  · obtain ⟨u, rfl, hu⟩ := jz_usr (u := u) (fun z => hb (Or.inl z))
    obtain ⟨c, rfl, hc⟩ := jz_coi N.2.2.2.2.1 (fun z => hb (Or.inr (Or.inl z)))
    obtain ⟨b, rfl, b1, b2⟩ := jz_bl N.2.2.2.2.2 (fun z => hb (Or.inr (Or.inr z)))
    have h1 := cc_btw (Z := Z) (d := d) (f := fC) hI.1 nC hu hc b1 b2 (ji_cokC hI hc)
    have h2 := rm_btw (Z := Z) (d := dr) (f := fR) hR nR hu hc b1 b2 (ji_cokR hI (by omega))
    have q := p5.1 c hc
    rw [ji_sp (ji_EE hI (show c < 8 by omega))] at h1
    by_cases z1 : fC 8 c 0 = 0
    · rw [if_pos z1] at h1
      rw [if_pos (q.2.2.1 ▸ z1)] at h2
      exact jM.same hI h1 h2
    · rw [if_neg z1] at h1
      rw [if_neg (q.2.2.1 ▸ z1), ← (p6 c hc z1).1.2.1, ← (p6 c hc z1).1.2.2.1] at h2
      by_cases z2 : fC 8 c 3 = 0 ∨ fC 8 c 2 ≤ nI b ∨ jq_sp (vr_E fR) c (nI b) (fC 8 c 3) = false
      · rw [if_pos z2] at h1 h2
        exact jM.same hI h1 h2
      · rw [if_neg z2] at h1 h2
        exact jM.only h1 h2 (ji_can hI hc hu z1) vc_can_lo vr_can_hi
theorem js_bef (hI : jI K g fC fR cc n) (hR : jl_R K g) {u c b : Int32} : jM Z (d + 4) (dr + 4) 40 90 [.inl u, .inl c, .inl b] K g fC fR cc n := by
  have N := ji_7 hI
  have H := hI
  obtain ⟨-, -, nC, nR, p1, p3, p4, p5, p6, -, -, p7, p8, -⟩ := H
  by_cases hb : (u < 0 ∨ 3 < u) ∨ (c < 0 ∨ nI cc ≤ c) ∨ (b < 1 ∨ nI n < b)
  · exact jM.same hI (cc_bef_n (d := d) hI.1 nC (by rw [jz_4u, N.2.2.1, N.1]; exact hb)) (rm_bef_n (d := dr + 1) hR (by rw [N.2.2.2.1, N.2.1]; exact hb))
  · obtain ⟨u, rfl, hu⟩ := jz_usr (u := u) (fun z => hb (Or.inl z))
    obtain ⟨c, rfl, hc⟩ := jz_coi N.2.2.2.2.1 (fun z => hb (Or.inr (Or.inl z)))
    obtain ⟨b, rfl, b1, b2⟩ := jz_bl N.2.2.2.2.2 (fun z => hb (Or.inr (Or.inr z)))
    have h1 := cc_bef (Z := Z) (d := d) (f := fC) hI.1 nC hu hc b1 b2
    have h2 := rm_bef (Z := Z) (d := dr) (f := fR) hR nR hu hc b1 b2
    have q := p5.1 c hc
    rw [ji_gd (ji_EE hI (show c < 8 by omega)), p1.2.1, p1.2.2, p3 u hu] at h1
    by_cases z1 : fC 8 c 0 = 0
    · rw [if_pos z1] at h1
      rw [if_pos (q.2.2.1 ▸ z1)] at h2
      exact jM.same hI h1 h2
    · have P := p6 c hc z1
      have Q := (P.2.2.2.2 b b1 (by omega)).2.1
      rw [if_neg z1, P.1.2.2.1, P.1.2.2.2] at h1
      rw [if_neg (q.2.2.1 ▸ z1)] at h2
      by_cases z2 : fR 20 0 1 / 2 < fR 20 0 2 - fR 45 0 c ∨ ¬ fR 46 0 (25 * c + b) = 0
      · rw [if_pos z2] at h2
        rw [if_pos (z2.imp_right (fun y w => y (Q.mp w)))] at h1
        exact jM.same hI h1 h2
      · rw [if_neg z2] at h2
        rw [if_neg (fun y => z2 (y.imp_right (fun y w => y (Q.mpr w))))] at h1
        by_cases z3 : fR 44 0 c ≤ nI b ∨ jq_gd (vr_E fR) (nI b) c = false
        · rw [if_pos z3] at h1 h2
          exact jM.same hI h1 h2
        · rw [if_neg z3] at h1 h2
          by_cases z4 : fR 23 0 u < 2
          · rw [if_pos z4] at h1 h2
            exact jM.same hI h1 h2
          · rw [if_neg z4] at h1 h2
            refine jM.only h1 h2 (ji_befI hI hc hu b1 b2) ?_ ?_
            · unfold vk_bef
              exact (jt_lo.rfl'.up (by omega)).up (by omega)
            · unfold vo_bef
              exact (((jt_hi.rfl'.up (by omega)).up (by omega)).up (by omega)).up (by omega)
theorem js_ansx (hI : jI K g fC fR cc n) (hR : jl_R K g) {c b e : Int32} : ∃ (a : Int32) (fC' fR' : jy_I), jx_m Z (d + 4) 44 [.inr (some (K.2.1 0 0)), .inl c, .inl b, .inl e] (jy_w K fC g) = some (some (.inl a), jy_w K fC' g) ∧ jx_m Z (dr + 5) 91 [.inr (some (K.2.1 20 0)), .inl c, .inl b, .inl e] (jy_w K fR g) = some (some (.inl a), jy_w K fR' g) ∧ jI K g fC' fR' cc n ∧ jt_lo fC fC' ∧ jt_hi fR fR' ∧ fC' 8 = fC 8 := by
  have N := ji_7 hI
  have H := hI
  obtain ⟨-, -, nC, nR, p1, p3, p4, p5, p6, -, -, p7, p8, -⟩ := H
  by_cases hb : (c < 0 ∨ nI cc ≤ c) ∨ (b < 1 ∨ nI n < b) ∨ (e < 1 ∨ nI n < e)
  · exact ⟨_, _, _, (cc_ans_n (d := d + 1) hI.1 nC (by rw [N.2.2.1, N.1]; exact hb)), (rm_ans_n (d := dr + 3) hR (by rw [N.2.2.2.1, N.2.1]; exact hb)), hI, jt_lo.rfl', jt_hi.rfl', rfl⟩
  · obtain ⟨c, rfl, hc⟩ := jz_coi N.2.2.2.2.1 (fun z => hb (Or.inl z))
    obtain ⟨b, rfl, b1, b2⟩ := jz_bl N.2.2.2.2.2 (fun z => hb (Or.inr (Or.inl z)))
    obtain ⟨e, rfl, e1, e2⟩ := jz_bl N.2.2.2.2.2 (fun z => hb (Or.inr (Or.inr z)))
    have q := p5.1 c hc
    obtain ⟨x, hx⟩ : ∃ x, ¬ fC 8 c 0 = 0 → x < 4 ∧ fC 8 c 1 = nI x := by
      by_cases z1 : fC 8 c 0 = 0
      · exact ⟨0, fun y => absurd z1 y⟩
      · obtain ⟨x, hx, ex⟩ := (p6 c hc z1).2.1
        exact ⟨x, fun _ => ⟨hx, ex⟩⟩
    have hx' : ¬ fR 41 0 c = 0 → x < 4 ∧ fR 42 0 c = nI x := fun y => by
      rw [← q.2.2.1] at y
      rw [← (p6 c hc y).1.1]
      exact hx y
    have h1 := cc_ans (Z := Z) (d := d) (f := fC) hI.1 nC hc b1 b2 e1 e2 hx
    have h2 := rm_ans (Z := Z) (d := dr) (f := fR) hR nR hc b1 b2 e1 e2 hx'
    rw [ji_sp (ji_EE hI (show c < 8 by omega))] at h1
    by_cases z1 : fC 8 c 0 = 0
    · rw [if_pos (Or.inl z1)] at h1
      rw [if_pos (Or.inl (q.2.2.1 ▸ z1))] at h2
      exact ⟨_, _, _, h1, h2, hI, jt_lo.rfl', jt_hi.rfl', rfl⟩
    · rw [← q.2.2.1, ji_std p6 hc z1 b1 (by omega), ← (p6 c hc z1).1.2.2.1] at h2
      by_cases z2 : fC 8 c 0 = 0 ∨ vc_std fC c b = false
      · rw [if_pos z2] at h1 h2
        exact ⟨_, _, _, h1, h2, hI, jt_lo.rfl', jt_hi.rfl', rfl⟩
      · rw [if_neg z2] at h1 h2
        by_cases z3 : fC 8 c 3 < nI e ∨ jq_sp (vr_E fR) c (nI e) (nI b) = false
        · rw [if_pos z3] at h1 h2
          exact ⟨_, _, _, h1, h2, hI, jt_lo.rfl', jt_hi.rfl', rfl⟩
        · rw [if_neg z3] at h1 h2
          refine ⟨_, _, _, h1, h2, ji_ansI hI hc (hx z1).1 z1 b1 b2 ?_, ?_, ?_, ?_⟩
          · cases y : vc_std fC c b with
            | true => rfl
            | false => exact absurd (Or.inr y) z2
          · unfold vk_ans
            exact (jt_lo.rfl'.up (by omega)).up (by omega)
          · unfold vo_ans
            exact (jt_hi.rfl'.up (by omega)).up (by omega)
          · unfold vk_ans
            rw [jt_up (by omega), jt_up (by omega)]
theorem js_ans (hI : jI K g fC fR cc n) (hR : jl_R K g) {c b e : Int32} : jM Z (d + 4) (dr + 5) 44 91 [.inl c, .inl b, .inl e] K g fC fR cc n := by
  obtain ⟨a, fC', fR', h1, h2, h3, h4, h5, -⟩ := js_ansx (Z := Z) (d := d) (dr := dr) (c := c) (b := b) (e := e) hI hR
  exact ⟨a, fC', fR', h1, h2, h3, h4, h5⟩
theorem js_fin (hI : jI K g fC fR cc n) (hR : jl_R K g) {c : Int32} : jL Z 8 46 92 [.inl c] K g fC fR := by
  have N := ji_7 hI
  have H := hI
  obtain ⟨-, -, nC, nR, p1, p3, p4, p5, p6, -, -, p7, p8, -⟩ := H
  by_cases hb : c < 0 ∨ nI cc ≤ c
  · exact jL.same hI hR (cc_fin_n (d := 6) hI.1 (by rw [N.2.2.1]; exact hb)) (rm_fin_n (d := 6) hR (by rw [N.2.2.2.1]; exact hb))
  · obtain ⟨c, rfl, hc⟩ := jz_coi N.2.2.2.2.1 hb
    have q := p5.1 c hc
    obtain ⟨x, hx⟩ : ∃ x, ¬ fC 8 c 0 = 0 → x < 4 ∧ fC 8 c 1 = nI x := by
      by_cases z1 : fC 8 c 0 = 0
      · exact ⟨0, fun y => absurd z1 y⟩
      · obtain ⟨x, hx, ex⟩ := (p6 c hc z1).2.1
        exact ⟨x, fun _ => ⟨hx, ex⟩⟩
    have hx' : ¬ fR 41 0 c = 0 → x < 4 ∧ fR 42 0 c = nI x := fun y => by
      rw [← q.2.2.1] at y
      rw [← (p6 c hc y).1.1]
      exact hx y
    have ck := ji_cokC hI hc
    have h1 := cc_fin (Z := Z) (d := 4) (f := fC) hI.1 nC hc ck hx
    have h2 := rm_fin (Z := Z) (d := 6) (f := fR) hR nR hc (ji_cokR hI (by omega)) hx'
    by_cases z1 : fC 8 c 0 = 0
    · rw [if_pos (Or.inl z1)] at h1
      rw [if_pos (Or.inl (q.2.2.1 ▸ z1))] at h2
      exact jL.same hI hR h1 h2
    · have P := p6 c hc z1
      rw [q.2.2.1, p1.2.1, p1.2.2, P.1.2.2.2] at h1
      by_cases z2 : fR 41 0 c = 0 ∨ fR 20 0 2 - fR 45 0 c < fR 20 0 1
      · rw [if_pos z2] at h1 h2
        exact jL.same hI hR h1 h2
      · rw [if_neg z2] at h1 h2
        have L : vr_lst fR n c = vc_lst fC c := by
          unfold vr_lst vc_lst
          have e1 := jq_dn_fst (P := vr_std fR c) (Q := fun k => decide (0 < k) && vc_std fC c k) (a := 0) (n := n) (fun k a1 a2 => by
            rw [ji_std p6 hc z1 (by omega) (by omega)]
            simp [a1]) (fun k a1 => by simp; omega) (fun k a1 a2 => by
            rw [ji_std0 p6 hc z1 a1 a2]
            simp) N.2.2.2.2.2
          have e2 := jq_fst_24 (P := fun k => decide (0 < k) && vc_std fC c k) (Q := vc_std fC c) 24 0 1 (fun j a1 a2 => by
            have : 0 < j := by omega
            simp [this]) (fun j a1 a2 => by omega)
          rw [e1, e2]
        rw [L] at h2
        by_cases z3 : 0 < vc_lst fC c
        · rw [if_pos z3] at h1 h2
          have sp : 1 ≤ vc_lst fC c ∧ vc_lst fC c ≤ 24 ∧ vc_std fC c (vc_lst fC c) = true := by
            unfold vc_lst at z3 ⊢
            rcases jq_fst_sp (Q := vc_std fC c) 24 1 with ⟨y1, -⟩ | ⟨y1, y2, y3, -⟩
            · omega
            · exact ⟨y1, by omega, y3⟩
          have ch : vr_ch fR c (vc_lst fC c) = vc_ch fC c (vc_lst fC c) := by
            unfold vr_ch vc_ch
            rw [(P.2.2.2.2 _ sp.1 sp.2.1).2.2.1 (of_decide_eq_true sp.2.2)]
          rw [ch] at h2
          refine jL.only (cc := cc) (n := n) hR h1 h2 (ji_can hI hc ?_ z1) vc_can_lo vr_can_hi
          obtain ⟨y, hy, ey⟩ := ck _ sp.1 sp.2.1 sp.2.2
          unfold vc_ch
          rw [ey, nI_clamp (by omega)]
          exact hy
        · rw [if_neg z3] at h1 h2
          refine jL.only (cc := cc) (n := n) hR h1 h2 (ji_finI hI hc (hx z1).1) ?_ ?_
          · unfold vk_fin
            exact ((jt_lo.rfl'.up (by omega)).up (by omega)).up (by omega)
          · unfold vo_fin
            exact ((jt_hi.rfl'.up (by omega)).up (by omega)).up (by omega)
end LK
