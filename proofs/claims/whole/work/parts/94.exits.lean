/-! what holds between both sides holds again: exits, challenges, answers, finalising -/
theorem jy_up_2 {α : Type} {f : Nat → Nat → Nat → α} {k i j i' j' : Nat} {v : α} : jy_up f k i j v k i' j' = if i' = i ∧ j' = j then v else f k i' j' := by
  unfold jy_up
  by_cases h : i' = i ∧ j' = j
  · rw [if_pos ⟨rfl, h⟩, if_pos h]
  · rw [if_neg (fun z => h z.2), if_neg h]
theorem jy_row_2 {α : Type} {f : Nat → Nat → Nat → α} {k i i' j' : Nat} {v : Nat → α} : jy_row f k i v k i' j' = if i' = i then v j' else f k i' j' := by
  unfold jy_row
  by_cases h : i' = i
  · rw [if_pos ⟨rfl, h⟩, if_pos h]
  · rw [if_neg (fun z => h z.2), if_neg h]
theorem jy_row_k3 {α : Type} {f : Nat → Nat → Nat → α} {k i k' i' j' : Nat} {v : Nat → α} (h : ¬ k' = k) : jy_row f k i v k' i' j' = f k' i' j' := by
  unfold jy_row
  rw [if_neg (fun z => h z.1)]
section XT
variable {K : jy_K} {g : jy_R} {fC fR fC' fR' : jy_I} {cc n : Nat}
theorem jI.exits (h : jI K g fC fR cc n) (hC : ∀ k, ¬ k = 1 → ¬ k = 7 → ¬ k = 8 → ¬ k = 9 → fC' k = fC k) (hR : ∀ k, ¬ k = 23 → ¬ k = 26 → (k < 41 ∨ 48 < k) → fR' k = fR k) (p3 : jp_3 (fC' 1 0) (fR' 23 0)) (p5 : jp_5 cc (fC' 7) (fC' 8) (fR 25 0) (fR' 26 0) (fR' 41 0)) (p6 : jp_6 cc n (fC' 8) (fC' 9) (fR' 42 0) (fR' 43 0) (fR' 44 0) (fR' 45 0) (fR' 46 0) (fR' 47 0) (fR' 48 0)) (p6b : jp_6b cc (fC' 9)) (p6c : jp_6c (fR' 47 0) (fR' 48 0)) : jI K g fC' fR' cc n := by
  have e0 := hC 0 (by omega) (by omega) (by omega) (by omega)
  have e2 := hC 2 (by omega) (by omega) (by omega) (by omega)
  have e10 := hC 10 (by omega) (by omega) (by omega) (by omega)
  have e12 := hC 12 (by omega) (by omega) (by omega) (by omega)
  have e13 := hC 13 (by omega) (by omega) (by omega) (by omega)
  have r20 := hR 20 (by omega) (by omega) (by omega)
  have r25 := hR 25 (by omega) (by omega) (by omega)
  have r27 := hR 27 (by omega) (by omega) (by omega)
  have r29 := hR 29 (by omega) (by omega) (by omega)
  have r30 := hR 30 (by omega) (by omega) (by omega)
  have r31 := hR 31 (by omega) (by omega) (by omega)
  have r32 := hR 32 (by omega) (by omega) (by omega)
  have r33 := hR 33 (by omega) (by omega) (by omega)
  have r34 := hR 34 (by omega) (by omega) (by omega)
  have r35 := hR 35 (by omega) (by omega) (by omega)
  have r36 := hR 36 (by omega) (by omega) (by omega)
  have r37 := hR 37 (by omega) (by omega) (by omega)
  have r38 := hR 38 (by omega) (by omega) (by omega)
  have r39 := hR 39 (by omega) (by omega) (by omega)
  have r40 := hR 40 (by omega) (by omega) (by omega)
  have v1 : vc_lf fC' = vc_lf fC := by
    funext r
    cases r with
    | none => rfl
    | some a => show fC' 13 a 5 = fC 13 a 5; rw [e13]
  have v2 : vc_t fC' = vc_t fC := by
    funext a
    unfold vc_t
    rw [e13]
  have v3 : vr_e fR' = vr_e fR := by
    funext b c
    unfold vr_e
    rw [r30, r31, r32, r33, r34, r35, r20]
  have v4 : vr_leaf fR' = vr_leaf fR := by
    funext b c
    unfold vr_leaf
    rw [r30, r31, r32, r33, r34, r35, r25]
  have v5 : jp_w fC' fR' = jp_w fC fR := by
    funext r i c
    cases r with
    | none => show (fR' 36 0 i = 0) = (fR 36 0 i = 0); rw [r36]
    | some a =>
      unfold jp_w
      dsimp only
      rw [r36, r37, r38, r39, r40, r20, e13]
  obtain ⟨h1, h2, h3, h4, h5, h6, h7, h8, h9, h10, h11, h12, h13, h14, h15, h16, h17⟩ := h
  refine ⟨h1, h2, ?_, ?_, ?_, p3, ?_, ?_, p6, p6b, p6c, ?_, ?_, ?_, ?_, h16, by rw [r31]; exact h17⟩
  · unfold jn_C; rw [e0]; exact h3
  · unfold jn_R; rw [r20]; exact h4
  · rw [e0, r20]; exact h5
  · rw [e2, r27]; exact h7
  · rw [r25]; exact p5
  · rw [e10, r29]; exact h12
  · unfold jp_8; rw [v1, v2, v3, v4, e13, r30, r31, r32]; exact h13
  · unfold jp_9; rw [v1, e12]; exact h14
  · unfold jp_10; rw [v5]; exact h15
theorem ji_cokC (h : jI K g fC fR cc n) {c : Nat} (hc : c < cc) : vc_cok fC c := by
  obtain ⟨-, -, -, -, -, -, -, -, -, p6b, -⟩ := h
  intro b h1 h2 h3
  unfold vc_std at h3
  exact p6b c hc b h1 h2 (of_decide_eq_true h3)
theorem ji_cokR (h : jI K g fC fR cc n) {c : Nat} (hc : c < 8) : vr_cok fR n c := by
  have h24 := (ji_7 h).2.2.2.2.2
  obtain ⟨-, -, -, -, -, -, -, -, -, -, p6c, -⟩ := h
  intro b h1 h2 h3
  unfold vr_std at h3
  exact p6c c hc b h1 (by omega) (of_decide_eq_true h3)
theorem ji_can (h : jI K g fC fR cc n) {c u : Nat} (hc : c < cc) (hu : u < 4) (ho : ¬ fC 8 c 0 = 0) : jI K g (vc_can fC c u) (vr_can fR n c u) cc n := by
  have N := ji_7 h
  have ck := ji_cokC h hc
  have H := h
  obtain ⟨-, -, -, -, -, p3, -, p5, p6, p6b, p6c, -⟩ := H
  refine jI.exits h (fun k a1 a2 a3 a4 => ?_) (fun k a1 a2 a3 => ?_) ?_ ?_ ?_ ?_ ?_
  · unfold vc_can
    rw [jt_up a3, jy_row_k a1]
  · unfold vr_can
    rw [jy_row_k (by omega), jy_row_k a1, jt_up (by omega)]
  · intro v hv
    simp only [vc_can, vr_can, jy_up_k, jy_up_2, jy_row_k3, jy_row_2, Nat.reduceEqDiff, not_false_eq_true, ↓reduceIte, true_and, and_true, and_false, false_and, reduceCtorEq]
    have e := jq_cnc_24 (P := vr_std fR c) (Q := vc_std fC c) (c := vr_ch fR c) (e := vc_ch fC c) (n := n) (M := va_up (fR 23 0) u (fR 23 0 u + 10)) N.2.2.2.2.2 (fun k h1 h2 => ⟨ji_std p6 hc ho h1 (by omega), fun z => by
      unfold vr_ch vc_ch
      unfold vc_std at z
      rw [((p6 c hc ho).2.2.2.2 k h1 (by omega)).2.2.1 (of_decide_eq_true z)]⟩) (fun k h1 h2 => ji_std0 p6 hc ho h1 h2)
    rw [e]
    refine jq_cnc_at 24 1 _ _ (fun j h1 h2 h3 => ?_) (fun w hw => ?_) v hv
    · obtain ⟨x, hx, ex⟩ := ck j h1 (by omega) h3
      unfold vc_ch
      rw [ex, nI_clamp (by omega)]
      exact hx
    · unfold va_up
      rw [p3 u hu, p3 w hw]
  · refine ⟨fun c' h' => ?_, fun c' h1 h2 => ?_⟩
    · have q := p5.1 c' h'
      simp only [vc_can, vr_can, jy_up_k, jy_up_2, jy_row_k3, jy_row_2, Nat.reduceEqDiff, not_false_eq_true, ↓reduceIte, true_and, and_true, and_false, false_and, reduceCtorEq]
      refine ⟨q.1, q.2.1, ?_, fun z => ?_⟩
      · by_cases e : c' = c
        · rw [if_pos e, if_pos e]
        · rw [if_neg e, if_neg e]
          exact q.2.2.1
      · by_cases e : c' = c
        · rw [if_pos e]
        · rw [if_neg e]
          exact q.2.2.2 z
    · have q := p5.2 c' h1 h2
      simp only [vc_can, vr_can, jy_up_k, jy_up_2, jy_row_k3, jy_row_2, Nat.reduceEqDiff, not_false_eq_true, ↓reduceIte, true_and, and_true, and_false, false_and, reduceCtorEq]
      refine ⟨q.1, q.2.1, ?_⟩
      rw [if_neg (by omega)]
      exact q.2.2
  · intro c' h' o'
    simp only [vc_can, vr_can, jy_up_k, jy_up_2, jy_row_k3, jy_row_2, Nat.reduceEqDiff, not_false_eq_true, ↓reduceIte, true_and, and_true, and_false, false_and, reduceCtorEq] at o' ⊢
    have e : ¬ c' = c := fun e => o' (by rw [if_pos e])
    rw [if_neg e] at o'
    have q := p6 c' h' o'
    refine ⟨q.1, q.2.1, q.2.2.1, q.2.2.2.1, fun b h1 h2 => ?_⟩
    have q2 := q.2.2.2.2 b h1 h2
    rw [show vr_zs (fR 47 0) c (n + 1) (25 * c' + b) = fR 47 0 (25 * c' + b) from if_neg (by omega)]
    exact q2
  · intro c' h' b h1 h2 z
    simp only [vc_can, jy_up_k, jy_up_2, jy_row_k3, jy_row_2, Nat.reduceEqDiff, not_false_eq_true, ↓reduceIte, true_and, and_true, and_false, false_and, reduceCtorEq] at z ⊢
    exact p6b c' h' b h1 h2 z
  · intro c' h' b h1 h2 z
    simp only [vr_can, jy_up_k, jy_up_2, jy_row_k3, jy_row_2, Nat.reduceEqDiff, not_false_eq_true, ↓reduceIte, true_and, and_true, and_false, false_and, reduceCtorEq] at z ⊢
    refine p6c c' h' b h1 h2 (fun e => z ?_)
    unfold vr_zs
    rw [e]
    split <;> rfl
end XT
