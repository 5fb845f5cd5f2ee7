/-! both sides in step: build -/
section BD
variable {Z : jx_Sc} {d : Nat} {K K' : jy_K} {g g' : jy_R} {fC fR fC' fR' : jy_I} {cc n : Nat}
theorem jl_C.nb (h : jl_C K g cc n) (hb : jl_f K g (n + 1)) (he : ∀ c, c < 8 → jl_e K (g 11 (n + 1) c)) : jl_C K (jy_up g 4 0 (n + 1) (some (K.2.1 10 (n + 1)))) cc (n + 1) := by
  have uk : ∀ k, ¬ k = 4 → jy_up g 4 0 (n + 1) (some (K.2.1 10 (n + 1))) k = g k := fun k q => by
    funext i j
    exact jy_up_k q
  obtain ⟨h1, h2, h3, h4, h5, h6, h7⟩ := h
  refine ⟨h1, ?_, fun c hc => ?_, fun b q1 q2 => ?_, fun b c q1 q2 hc => ?_, fun c hc => ?_, h7⟩
  · unfold jl_o
    rw [uk 0 (by omega)]
    exact h2
  · unfold jl_c
    rw [uk 3 (by omega), uk 7 (by omega), uk 8 (by omega)]
    exact h3 c hc
  · unfold jl_b
    rw [uk 10 (by omega)]
    by_cases e : b = n + 1
    · subst e
      rw [jy_up_self]
      exact ⟨hb.1, hb.2.1, hb.2.2.1, rfl, hb.2.2.2.1, hb.2.2.2.2⟩
    · rw [jy_up_j e]
      exact h4 b q1 (by omega)
  · rw [uk 11 (by omega)]
    by_cases e : b = n + 1
    · subst e
      exact he c hc
    · exact h5 b c q1 (by omega) hc
  · rw [uk 5 (by omega), uk 6 (by omega)]
    exact h6 c hc
theorem vb_f_k {f : jy_I} {b k : Nat} {x : Int32} (h : ¬ k = 10) (h' : ¬ k = 12) : vb_f f b x k = f k := by
  unfold vb_f
  rw [jt_up h, jt_z h', jt_z h]
theorem vb_g_k {b k : Nat} (h : ¬ k = 10) (h' : ¬ k = 11) : vb_g K g b k = g k := by
  funext i j
  unfold vb_g
  rw [jy_up_k h, jy_up_k h]
  show (if k = 11 ∧ i = b then none else if k = 10 ∧ i = b then none else g k i j) = g k i j
  rw [if_neg (fun z => h' z.1), if_neg (fun z => h z.1)]
theorem vb_g_11 {b b' : Nat} (h : ¬ b' = b) : vb_g K g b 11 b' = g 11 b' := by
  funext j
  unfold vb_g
  rw [jy_up_k (by omega), jy_up_k (by omega)]
  show (if 11 = 11 ∧ b' = b then none else if 11 = 10 ∧ b' = b then none else g 11 b' j) = g 11 b' j
  rw [if_neg (fun z => h z.2), if_neg (fun z => h z.2)]
theorem vb_ve {s : Int32} (h7 : fC 0 0 7 = nI n) (h24 : n ≤ 24) : ve_r (vb_f fC (n + 1) s) (vb_g K g (n + 1)) = ve_r fC g := by
  funext b c
  unfold ve_r
  rw [vb_f_k (by omega) (by omega)]
  by_cases e : b < 1 ∨ fC 0 0 7 < b
  · rw [if_pos e, if_pos e]
  · rw [if_neg e, if_neg e]
    obtain ⟨k, rfl, h1, h2⟩ := jz_blkC h7 h24 e
    rw [nI_clamp (by omega), vb_g_11 (by omega)]
theorem vb_fit {s : Int32} (h7 : fC 0 0 7 = nI n) (h24 : n ≤ 24) : vc_fit (vb_f fC (n + 1) s) (vb_g K g (n + 1)) = vc_fit fC g := by
  have e := vb_ve (K := K) (g := g) (s := s) h7 h24
  have eh : vc_has (vb_f fC (n + 1) s) (vb_g K g (n + 1)) = vc_has fC g := by
    funext c k
    unfold vc_has
    rw [e]
  funext cc c r
  unfold vc_fit vc_last
  rw [eh, e, vb_f_k (by omega) (by omega), vb_f_k (by omega) (by omega), vb_f_k (by omega) (by omega)]
theorem ji_fit (h : jI K g fC fR cc n) {c a : Nat} (hc : c < 8) (hw : jp_w fC fR (some a) c c) : vc_fit fC g cc c (some a) = decide (c < cc ∧ vr_fit fR n c = true) := by
  have N := ji_7 h
  have H := h
  obtain ⟨-, -, -, -, -, -, -, p5, -, -, -, -, p8, -⟩ := H
  unfold jp_w at hw
  dsimp only at hw
  unfold vc_fit
  dsimp only
  by_cases q : c < cc
  · have T := ji_to h q
    have L := ji_last N.1 N.2.1 N.2.2.2.2.2 p8 hc
    have P := p5.1 c q
    rw [L] at T
    unfold jq_to vc_E at T
    cases e : ve_r fC g (nI (vc_last fC g c)) c with
    | none => rw [e] at T; cases T
    | some m =>
      rw [e] at T
      have T : fC 13 m 3 = fR 34 0 (8 * vc_last fC g c + c) := Option.some.inj T
      dsimp only
      unfold vr_fit
      rw [L, T, hw.2.2.1, hw.2.2.2.1, hw.2.2.2.2.2.1, P.2.1, P.2.2.1]
      have J : ∀ y : Bool, (¬ jq_b y = 0) ↔ y = true := by decide
      simp only [q, J, true_and, decide_eq_true_eq]
      rw [← Bool.decide_and]
      congr 1
      apply propext
      constructor
      · rintro ⟨⟨x1, x2⟩, x3, x4, x5⟩
        exact ⟨x3, x1, x2, x4, x5⟩
      · rintro ⟨x3, x1, x2, x4, x5⟩
        exact ⟨⟨x1, x2⟩, x3, x4, x5⟩
  · simp only [q, false_and, decide_false, Bool.false_and]
def vk_fr (hon : Int32) : Nat := if hon = 0 then 8 else 0
theorem ji_tk (h : jI K g fC fR cc n) {hon s : Int32} {c : Nat} (hc : c < 8) : (vk_pe (vb_f fC (n + 1) s) (vb_g K g (n + 1)) cc hon (vb_g K g (n + 1) (vk_bk hon) 0) 8 c = none ∧ vr_wa fR hon cc n 8 (vk_fr hon + c) = 0) ∨ ∃ a, vk_pe (vb_f fC (n + 1) s) (vb_g K g (n + 1)) cc hon (vb_g K g (n + 1) (vk_bk hon) 0) 8 c = some a ∧ g (vk_bk hon) 0 c = some a ∧ ¬ vr_wa fR hon cc n 8 (vk_fr hon + c) = 0 ∧ jp_w fC fR (some a) (vk_fr hon + c) c := by
  have N := ji_7 h
  have H := h
  obtain ⟨-, -, -, -, -, -, -, -, -, -, -, -, -, -, p10, -⟩ := H
  have hk : vb_g K g (n + 1) (vk_bk hon) = g (vk_bk hon) := vb_g_k (by unfold vk_bk; split <;> omega) (by unfold vk_bk; split <;> omega)
  rw [hk]
  unfold vk_pe vk_tk
  rw [vb_fit N.1 N.2.2.2.2.2]
  by_cases z : hon = 0
  · have e1 : vk_bk hon = 6 := if_pos z
    have e2 : vk_fr hon = 8 := if_pos z
    rw [e1, e2]
    have w := (p10 c hc).2
    have ew : vr_wa fR hon cc n 8 (8 + c) = fR 36 0 (8 + c) := if_neg (by omega)
    rw [ew]
    rw [if_pos ⟨hc, by rw [if_pos z]⟩]
    cases q : g 6 0 c with
    | none =>
      rw [q] at w
      exact Or.inl ⟨rfl, w⟩
    | some a =>
      rw [q] at w
      exact Or.inr ⟨a, rfl, rfl, w.1, w⟩
  · have e1 : vk_bk hon = 5 := if_neg z
    have e2 : vk_fr hon = 0 := if_neg z
    rw [e1, e2, Nat.zero_add]
    have w := (p10 c hc).1
    have ew : vr_wa fR hon cc n 8 c = if fR 36 0 c = 0 then 0 else if c < cc ∧ vr_fit fR n c = true then 1 else 0 := by
      unfold vr_wa vr_w1
      rw [if_pos hc, if_neg z]
    rw [ew, if_neg z]
    cases q : g 5 0 c with
    | none =>
      rw [q] at w
      left
      refine ⟨?_, ?_⟩
      · split <;> rfl
      · exact if_pos w
    | some a =>
      rw [q] at w
      rw [if_neg w.1, ji_fit h hc w]
      by_cases y : c < cc ∧ vr_fit fR n c = true
      · right
        rw [if_pos y, if_pos ⟨hc, decide_eq_true y⟩]
        exact ⟨a, rfl, rfl, by decide, w⟩
      · left
        rw [if_neg y, if_neg (fun x => y (of_decide_eq_true x.2))]
        exact ⟨rfl, rfl⟩
end BD
