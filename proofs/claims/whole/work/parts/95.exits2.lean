/-! what holds between both sides holds again: exit, before, answer, finalise -/
section X2
variable {Z : jx_Sc} {d : Nat} {K : jy_K} {g : jy_R} {fC fR fC' fR' : jy_I} {cc n : Nat}
theorem jp_q0 {b : Nat} {w : Int32} : jp_q n b 0 0 0 w := ⟨by decide, by decide, fun z => absurd (by decide) z, fun _ => rfl⟩
theorem ji_EE (h : jI K g fC fR cc n) {c : Nat} (hc : c < 8) (b : Int32) : vc_E fC g b c = vr_E fR b c := by
  have N := ji_7 h
  obtain ⟨-, -, -, -, -, -, -, -, -, -, -, -, p8, -⟩ := h
  exact ji_E N.1 N.2.1 N.2.2.2.2.2 p8 hc
theorem ji_src (h : jI K g fC fR cc n) {c u b : Nat} (hc : c < 8) (hx : jq_ex (vr_E fR) u c b = true) : jq_pr (vc_E fC g) c b = jq_pv (vr_E fR) c b ∧ ∃ a, a ≤ n ∧ jq_pr (vc_E fC g) c b = nI a := by
  have N := ji_7 h
  have hE := ji_EE h hc (nI b)
  have H := h
  obtain ⟨-, -, -, -, -, -, -, -, -, -, -, -, p8, -⟩ := H
  unfold jq_ex at hx
  unfold jq_pr jq_pv
  rw [hE]
  cases he : vr_E fR (nI b) c with
  | none => rw [he] at hx; cases hx
  | some e =>
    rw [he] at hx
    dsimp only at hx ⊢
    have hx := of_decide_eq_true hx
    by_cases z : e.1 = 0
    · rw [if_pos z]
      refine ⟨rfl, ?_⟩
      rcases hx.2.2 with q | q
      · exact absurd z q
      · unfold jq_sp at q
        rw [he] at q
        dsimp only at q
        by_cases y : e.2.1 < 1 ∨ fR 20 0 8 < e.2.1
        · have : vr_E fR e.2.1 c = none := if_pos y
          rw [this] at q
          cases q
        · rw [N.2.1] at y
          obtain ⟨k, hk, h1, h2⟩ := jz_bl N.2.2.2.2.2 y
          exact ⟨k, h2, hk⟩
    · rw [if_neg z]
      have e1 : e.2.1 = 0 := by
        rw [he] at hE
        unfold vc_E at hE
        cases hr : ve_r fC g (nI b) c with
        | none => rw [hr] at hE; cases hE
        | some a =>
          rw [hr] at hE
          have hE := Option.some.inj hE
          unfold ve_r at hr
          by_cases y : nI b < 1 ∨ fC 0 0 7 < nI b
          · rw [if_pos y] at hr; cases hr
          · rw [if_neg y] at hr
            rw [N.1] at y
            obtain ⟨k, hk, h1, h2⟩ := jz_bl N.2.2.2.2.2 y
            rw [hk, nI_clamp (by omega)] at hr
            have hz : ¬ fC 13 a 0 = 0 := by
              rw [← hE] at z
              exact z
            have := p8.2.2 k c h1 h2 hc a hr hz
            rw [← hE]
            exact this
      rw [e1]
      exact ⟨rfl, 0, by omega, rfl⟩
theorem ji_exI (h : jI K g fC fR cc n) {c u b : Nat} (hc : c < cc) (hu : u < 4) (h1 : 1 ≤ b) (h2 : b ≤ n) (hx : jq_ex (vr_E fR) u c b = true) (hg : fC 7 c 1 = 0) : jI K g (vk_ex fC g u c b) (vo_ex fR u c b) cc n := by
  have N := ji_7 h
  have S := ji_src h (show c < 8 by omega) hx
  have H := h
  obtain ⟨-, -, -, -, p1, p3, -, p5, p6, p6b, p6c, -⟩ := H
  refine jI.exits h (fun k a1 a2 a3 a4 => ?_) (fun k a1 a2 a3 => ?_) ?_ ?_ ?_ ?_ ?_
  · unfold vk_ex vk_beg
    rw [jy_row_k a4, jt_up a3, jt_up a3, jt_up a3, jt_up a3, jt_up a3, jt_up a1]
  · unfold vo_ex vo_ex1
    rw [jy_row_k (by omega), jy_row_k (by omega), jt_up (by omega), jt_up (by omega), jt_up (by omega), jt_up (by omega), jt_up (by omega), jt_up a1]
  · intro v hv
    simp only [vk_ex, vk_beg, vo_ex, vo_ex1, jy_up_k, jy_up_2, jy_row_k3, jy_row_2, Nat.reduceEqDiff, not_false_eq_true, ↓reduceIte, true_and, and_true, and_false, false_and, reduceCtorEq]
    rw [p3 v hv, p3 u hu, Int32.sub_eq_add_neg]
  · refine ⟨fun c' h' => ?_, fun c' z1 z2 => ?_⟩
    · have q := p5.1 c' h'
      simp only [vk_ex, vk_beg, vo_ex, vo_ex1, jy_up_k, jy_up_2, jy_row_k3, jy_row_2, Nat.reduceEqDiff, not_false_eq_true, ↓reduceIte, true_and, and_true, and_false, false_and, reduceCtorEq]
      refine ⟨q.1, q.2.1, ?_, fun z => ?_⟩
      · by_cases e : c' = c
        · rw [if_pos e, if_pos e]
        · rw [if_neg e, if_neg e]
          exact q.2.2.1
      · by_cases e : c' = c
        · rw [e] at z
          exact absurd hg z
        · rw [if_neg e]
          exact q.2.2.2 z
    · have q := p5.2 c' z1 z2
      simp only [vk_ex, vk_beg, vo_ex, vo_ex1, jy_up_k, jy_up_2, jy_row_k3, jy_row_2, Nat.reduceEqDiff, not_false_eq_true, ↓reduceIte, true_and, and_true, and_false, false_and, reduceCtorEq]
      refine ⟨q.1, q.2.1, ?_⟩
      rw [if_neg (by omega)]
      exact q.2.2
  · intro c' h' o'
    simp only [vk_ex, vk_beg, vo_ex, vo_ex1, jy_up_k, jy_up_2, jy_row_k3, jy_row_2, Nat.reduceEqDiff, not_false_eq_true, ↓reduceIte, true_and, and_true, and_false, false_and, reduceCtorEq] at o' ⊢
    by_cases e : c' = c
    · subst e
      simp only [↓reduceIte]
      refine ⟨⟨trivial, trivial, S.1, p1.2.2⟩, ⟨u, hu, rfl⟩, ⟨b, h2, rfl⟩, S.2, fun b' z1 z2 => ?_⟩
      rw [show vc_zr (fC 9 c') 25 b' = 0 from if_pos (by omega), show vr_z0 (fR 46 0) c' 25 (25 * c' + b') = 0 from if_pos (by omega), show vr_z0 (fR 47 0) c' 25 (25 * c' + b') = 0 from if_pos (by omega)]
      exact jp_q0
    · simp only [e, ↓reduceIte] at o' ⊢
      have q := p6 c' h' o'
      refine ⟨q.1, q.2.1, q.2.2.1, q.2.2.2.1, fun b' z1 z2 => ?_⟩
      rw [show vr_z0 (fR 46 0) c 25 (25 * c' + b') = fR 46 0 (25 * c' + b') from if_neg (by omega), show vr_z0 (fR 47 0) c 25 (25 * c' + b') = fR 47 0 (25 * c' + b') from if_neg (by omega)]
      exact q.2.2.2.2 b' z1 z2
  · intro c' h' b' z1 z2 z
    simp only [vk_ex, vk_beg, jy_up_k, jy_up_2, jy_row_k3, jy_row_2, Nat.reduceEqDiff, not_false_eq_true, ↓reduceIte, true_and, and_true, and_false, false_and, reduceCtorEq] at z ⊢
    by_cases e : c' = c
    · simp only [e, ↓reduceIte] at z
      rw [show vc_zr (fC 9 c) 25 b' = 0 from if_pos (by omega)] at z
      exact absurd (by decide) z
    · simp only [e, ↓reduceIte] at z ⊢
      exact p6b c' h' b' z1 z2 z
  · intro c' h' b' z1 z2 z
    simp only [vo_ex, vo_ex1, jy_up_k, jy_up_2, jy_row_k3, jy_row_2, Nat.reduceEqDiff, not_false_eq_true, ↓reduceIte, true_and, and_true, and_false, false_and, reduceCtorEq] at z ⊢
    refine p6c c' h' b' z1 z2 (fun e => z ?_)
    unfold vr_z0
    rw [e]
    split <;> rfl
theorem ji_befI (h : jI K g fC fR cc n) {c u b : Nat} (hc : c < cc) (hu : u < 4) (h1 : 1 ≤ b) (h2 : b ≤ n) : jI K g (vk_bef fC u c b) (vo_bef fR u c b) cc n := by
  have N := ji_7 h
  have H := h
  obtain ⟨-, -, -, -, p1, p3, -, p5, p6, p6b, p6c, -⟩ := H
  have U : ∀ x, x < 4 → (¬ (nI x + 1 ≤ 0)) ∧ (¬ nI x + 1 = 0) ∧ nI x + 1 - 1 = nI x := by decide
  refine jI.exits h (fun k a1 a2 a3 a4 => ?_) (fun k a1 a2 a3 => ?_) ?_ ?_ ?_ ?_ ?_
  · unfold vk_bef
    rw [jt_up a4, jt_up a1]
  · unfold vo_bef
    rw [jt_up (by omega), jt_up (by omega), jt_up (by omega), jt_up a1]
  · intro v hv
    simp only [vk_bef, vo_bef, jy_up_k, jy_up_2, jy_row_k3, jy_row_2, Nat.reduceEqDiff, not_false_eq_true, ↓reduceIte, true_and, and_true, and_false, false_and, reduceCtorEq]
    rw [p3 v hv, p3 u hu, Int32.sub_eq_add_neg]
  · refine ⟨fun c' h' => ?_, fun c' z1 z2 => ?_⟩
    · simp only [vk_bef, vo_bef, jy_up_k, jy_up_2, jy_row_k3, jy_row_2, Nat.reduceEqDiff, not_false_eq_true, ↓reduceIte, true_and, and_true, and_false, false_and, reduceCtorEq]
      exact p5.1 c' h'
    · simp only [vk_bef, vo_bef, jy_up_k, jy_up_2, jy_row_k3, jy_row_2, Nat.reduceEqDiff, not_false_eq_true, ↓reduceIte, true_and, and_true, and_false, false_and, reduceCtorEq]
      exact p5.2 c' z1 z2
  · intro c' h' o'
    simp only [vk_bef, vo_bef, jy_up_k, jy_up_2, jy_row_k3, jy_row_2, Nat.reduceEqDiff, not_false_eq_true, ↓reduceIte, true_and, and_true, and_false, false_and, reduceCtorEq] at o' ⊢
    have q := p6 c' h' o'
    refine ⟨q.1, q.2.1, q.2.2.1, q.2.2.2.1, fun b' z1 z2 => ?_⟩
    by_cases e : c' = c ∧ b' = b
    · have e2 : 25 * c' + b' = 25 * c + b := by omega
      rw [if_pos e, if_pos e2, if_pos e2, if_pos e2]
      exact ⟨⟨fun _ => by decide, fun _ => (U u hu).1⟩, ⟨fun z => absurd z (U u hu).2.1, fun z => absurd z (by decide)⟩, fun _ => (U u hu).2.2, fun z => by omega⟩
    · have e2 : ¬ 25 * c' + b' = 25 * c + b := by omega
      rw [if_neg e, if_neg e2, if_neg e2, if_neg e2]
      exact q.2.2.2.2 b' z1 z2
  · intro c' h' b' z1 z2 z
    simp only [vk_bef, jy_up_k, jy_up_2, jy_row_k3, jy_row_2, Nat.reduceEqDiff, not_false_eq_true, ↓reduceIte, true_and, and_true, and_false, false_and, reduceCtorEq] at z ⊢
    by_cases e : c' = c ∧ b' = b
    · rw [if_pos e]
      exact ⟨u, hu, (U u hu).2.2⟩
    · rw [if_neg e] at z ⊢
      exact p6b c' h' b' z1 z2 z
  · intro c' h' b' z1 z2 z
    simp only [vo_bef, jy_up_k, jy_up_2, jy_row_k3, jy_row_2, Nat.reduceEqDiff, not_false_eq_true, ↓reduceIte, true_and, and_true, and_false, false_and, reduceCtorEq] at z ⊢
    by_cases e2 : 25 * c' + b' = 25 * c + b
    · rw [if_pos e2]
      exact ⟨u, hu, rfl⟩
    · rw [if_neg e2] at z ⊢
      exact p6c c' h' b' z1 z2 z
theorem ji_ansI (h : jI K g fC fR cc n) {c b x : Nat} (hc : c < cc) (hx : x < 4) (ho : ¬ fC 8 c 0 = 0) (h1 : 1 ≤ b) (h2 : b ≤ n) (hs : vc_std fC c b = true) : jI K g (vk_ans fC c b x) (vo_ans fR c b x) cc n := by
  have N := ji_7 h
  have H := h
  obtain ⟨-, -, -, -, p1, p3, -, p5, p6, p6b, p6c, -⟩ := H
  have hs := of_decide_eq_true hs
  refine jI.exits h (fun k a1 a2 a3 a4 => ?_) (fun k a1 a2 a3 => ?_) ?_ ?_ ?_ ?_ ?_
  · unfold vk_ans
    rw [jt_up a1, jt_up a4]
  · unfold vo_ans
    rw [jt_up a1, jt_up (by omega)]
  · intro v hv
    simp only [vk_ans, vo_ans, jy_up_k, jy_up_2, jy_row_k3, jy_row_2, Nat.reduceEqDiff, not_false_eq_true, ↓reduceIte, true_and, and_true, and_false, false_and, reduceCtorEq]
    rw [p3 v hv, p3 x hx]
  · refine ⟨fun c' h' => ?_, fun c' z1 z2 => ?_⟩
    · simp only [vk_ans, vo_ans, jy_up_k, jy_up_2, jy_row_k3, jy_row_2, Nat.reduceEqDiff, not_false_eq_true, ↓reduceIte, true_and, and_true, and_false, false_and, reduceCtorEq]
      exact p5.1 c' h'
    · simp only [vk_ans, vo_ans, jy_up_k, jy_up_2, jy_row_k3, jy_row_2, Nat.reduceEqDiff, not_false_eq_true, ↓reduceIte, true_and, and_true, and_false, false_and, reduceCtorEq]
      exact p5.2 c' z1 z2
  · intro c' h' o'
    simp only [vk_ans, vo_ans, jy_up_k, jy_up_2, jy_row_k3, jy_row_2, Nat.reduceEqDiff, not_false_eq_true, ↓reduceIte, true_and, and_true, and_false, false_and, reduceCtorEq] at o' ⊢
    have q := p6 c' h' o'
    refine ⟨q.1, q.2.1, q.2.2.1, q.2.2.2.1, fun b' z1 z2 => ?_⟩
    have q2 := q.2.2.2.2 b' z1 z2
    by_cases e : c' = c ∧ b' = b
    · have e2 : 25 * c' + b' = 25 * c + b := by omega
      rw [if_pos e, if_pos e2]
      obtain ⟨rfl, rfl⟩ := e
      have y : ¬ fR 46 0 (25 * c' + b') = 0 := fun y => by
        have := q2.2.1.mpr y
        rw [this] at hs
        exact hs (by decide)
      exact ⟨⟨fun z => absurd (by decide) z, fun z => absurd rfl z⟩, ⟨fun z => absurd z (by decide), fun z => absurd z y⟩, fun z => absurd (by decide) z, fun z => by omega⟩
    · have e2 : ¬ 25 * c' + b' = 25 * c + b := by omega
      rw [if_neg e, if_neg e2]
      exact q2
  · intro c' h' b' z1 z2 z
    simp only [vk_ans, jy_up_k, jy_up_2, jy_row_k3, jy_row_2, Nat.reduceEqDiff, not_false_eq_true, ↓reduceIte, true_and, and_true, and_false, false_and, reduceCtorEq] at z ⊢
    by_cases e : c' = c ∧ b' = b
    · rw [if_pos e] at z
      exact absurd (by decide) z
    · rw [if_neg e] at z ⊢
      exact p6b c' h' b' z1 z2 z
  · intro c' h' b' z1 z2 z
    simp only [vo_ans, jy_up_k, jy_up_2, jy_row_k3, jy_row_2, Nat.reduceEqDiff, not_false_eq_true, ↓reduceIte, true_and, and_true, and_false, false_and, reduceCtorEq] at z ⊢
    by_cases e2 : 25 * c' + b' = 25 * c + b
    · rw [if_pos e2] at z
      exact absurd rfl z
    · rw [if_neg e2] at z
      exact p6c c' h' b' z1 z2 z
theorem ji_finI (h : jI K g fC fR cc n) {c x : Nat} (hc : c < cc) (hx : x < 4) : jI K g (vk_fin fC c x) (vo_fin fR c x) cc n := by
  have N := ji_7 h
  have H := h
  obtain ⟨-, -, -, -, p1, p3, -, p5, p6, p6b, p6c, -⟩ := H
  refine jI.exits h (fun k a1 a2 a3 a4 => ?_) (fun k a1 a2 a3 => ?_) ?_ ?_ ?_ ?_ ?_
  · unfold vk_fin
    rw [jt_up a1, jt_up a2, jt_up a3]
  · unfold vo_fin
    rw [jt_up a1, jt_up a2, jt_up (by omega)]
  · intro v hv
    simp only [vk_fin, vo_fin, jy_up_k, jy_up_2, jy_row_k3, jy_row_2, Nat.reduceEqDiff, not_false_eq_true, ↓reduceIte, true_and, and_true, and_false, false_and, reduceCtorEq]
    rw [p3 v hv, p3 x hx, (p5.1 c hc).1]
  · refine ⟨fun c' h' => ?_, fun c' z1 z2 => ?_⟩
    · simp only [vk_fin, vo_fin, jy_up_k, jy_up_2, jy_row_k3, jy_row_2, Nat.reduceEqDiff, not_false_eq_true, ↓reduceIte, true_and, and_true, and_false, false_and, reduceCtorEq]
      have q := p5.1 c' h'
      by_cases e : c' = c
      · simp only [e, ↓reduceIte]
        exact ⟨(p5.1 c hc).1, trivial, trivial, fun _ => trivial⟩
      · simp only [e, ↓reduceIte]
        exact q
    · simp only [vk_fin, vo_fin, jy_up_k, jy_up_2, jy_row_k3, jy_row_2, Nat.reduceEqDiff, not_false_eq_true, ↓reduceIte, true_and, and_true, and_false, false_and, reduceCtorEq]
      have e : ¬ c' = c := by omega
      simp only [e, ↓reduceIte]
      exact p5.2 c' z1 z2
  · intro c' h' o'
    simp only [vk_fin, vo_fin, jy_up_k, jy_up_2, jy_row_k3, jy_row_2, Nat.reduceEqDiff, not_false_eq_true, ↓reduceIte, true_and, and_true, and_false, false_and, reduceCtorEq] at o' ⊢
    by_cases e : c' = c
    · rw [if_pos e] at o'
      exact absurd rfl o'
    · rw [if_neg e] at o'
      exact p6 c' h' o'
  · intro c' h' b' z1 z2 z
    simp only [vk_fin, jy_up_k, jy_up_2, jy_row_k3, jy_row_2, Nat.reduceEqDiff, not_false_eq_true, ↓reduceIte, true_and, and_true, and_false, false_and, reduceCtorEq] at z ⊢
    exact p6b c' h' b' z1 z2 z
  · intro c' h' b' z1 z2 z
    simp only [vo_fin, jy_up_k, jy_up_2, jy_row_k3, jy_row_2, Nat.reduceEqDiff, not_false_eq_true, ↓reduceIte, true_and, and_true, and_false, false_and, reduceCtorEq] at z ⊢
    exact p6c c' h' b' z1 z2 z
end X2
