/-! both sides in step: send and forge -/
def jF (K K' : jy_K) (s m : Nat) : Prop := K'.2.1 0 0 = K.2.1 0 0 ∧ K'.2.1 20 0 = K.2.1 20 0 ∧ K'.2.2.1 = K.2.2.1 + s ∧ K'.2.2.2 = K.2.2.2 + m ∧ ∀ a, a < K.2.2.1 → K'.1 a = K.1 a
theorem jF.nk {K K' : jy_K} {s m k i sl : Nat} (h : jF K K' s m) (hk : 0 < k) (hk2 : k < 20) : jF K (jy_nk K' k i sl) (s + 1) (m + sl) := by
  obtain ⟨h1, h2, h3, h4, h5⟩ := h
  refine ⟨?_, ?_, ?_, ?_, fun a ha => ?_⟩
  · rw [jy_nk_ne (by omega)]; exact h1
  · rw [jy_nk_ne (by omega)]; exact h2
  · show K'.2.2.1 + 1 = _
    omega
  · show K'.2.2.2 + sl = _
    omega
  · show va_up K'.1 K'.2.2.1 (some (k, i)) a = _
    rw [va_up_ne _ _ (by omega)]
    exact h5 a ha
theorem jF.rfl' {K : jy_K} : jF K K 0 0 := ⟨rfl, rfl, rfl, rfl, fun _ _ => rfl⟩
theorem jF.E {K K' : jy_K} {s m : Nat} (h : jF K K' s m) (hs : s ≤ 7) (hm : m ≤ 67) : jE K K' := ⟨h.1, h.2.1, by rw [h.2.2.1]; omega, by rw [h.2.2.2.1]; omega, by rw [h.2.2.1]; omega, h.2.2.2.2⟩
def jp_8x (b c : Nat) (g : jy_R) (fC fR : jy_I) : Prop := ((g 11 b c).map (vc_t fC) = vr_e fR b c ∧ vc_lf fC (g 11 b c) = vr_leaf fR b c) ∧ ∀ a, g 11 b c = some a → ¬ fC 13 a 0 = 0 → fC 13 a 1 = 0
section TR
variable {Z : jx_Sc} {d : Nat} {K K' : jy_K} {g g' : jy_R} {fC fR fC' fR' : jy_I} {cc n : Nat}
theorem jp_8x.cg {b c : Nat} (h : jp_8x b c g fC fR) (hg : g' 11 b c = g 11 b c) (ha : ∀ a, g 11 b c = some a → fC' 13 a = fC 13 a) (he : vr_e fR' b c = vr_e fR b c) (hl : vr_leaf fR' b c = vr_leaf fR b c) : jp_8x b c g' fC' fR' := by
  unfold jp_8x at h ⊢
  rw [hg, he, hl]
  cases e : g 11 b c with
  | none =>
    rw [e] at h
    exact ⟨h.1, fun a z => by cases z⟩
  | some a =>
    rw [e] at h
    have q := ha a e
    refine ⟨⟨?_, ?_⟩, fun a' z => ?_⟩
    · rw [← h.1.1]
      show some (vc_t fC' a) = some (vc_t fC a)
      unfold vc_t
      rw [q]
    · rw [← h.1.2]
      show fC' 13 a 5 = fC 13 a 5
      rw [q]
    · cases z
      rw [q]
      exact h.2 a rfl
theorem jp_8.x (h : jp_8 n g fC fR) {b c : Nat} (h1 : 1 ≤ b) (h2 : b ≤ n) (hc : c < 8) : jp_8x b c g fC fR := ⟨h.1 b c h1 h2 hc, h.2.2 b c h1 h2 hc⟩
theorem jp_8.mk' (h : ∀ b c, 1 ≤ b → b ≤ n → c < 8 → jp_8x b c g fC fR) (hz : ∀ b c, n < b → b ≤ 24 → c < 8 → fR 30 0 (8 * b + c) = 0 ∧ fR 31 0 (8 * b + c) = 0 ∧ fR 32 0 (8 * b + c) = 0) : jp_8 n g fC fR :=
  ⟨fun b c h1 h2 hc => (h b c h1 h2 hc).1, hz, fun b c h1 h2 hc => (h b c h1 h2 hc).2⟩
theorem jp_9.cg (h : jp_9 n g fC) (hg : ∀ b c, 1 ≤ b → b ≤ n → c < 8 → g' 11 b c = g 11 b c) (ha : ∀ b c a, 1 ≤ b → b ≤ n → c < 8 → g 11 b c = some a → fC' 13 a = fC 13 a) (ht : ∀ b, 1 ≤ b → b ≤ n → fC' 12 b = fC 12 b) {b : Nat} (h1 : 1 ≤ b) (h2 : b ≤ n) : ∃ old, fC' 12 b = vt_T (fun c => vc_lf fC' (g' 11 b c)) old := by
  obtain ⟨old, ho⟩ := h b h1 h2
  refine ⟨old, ?_⟩
  rw [ht b h1 h2, ho]
  have : vt_a (fun c => vc_lf fC (g 11 b c)) old 8 = vt_a (fun c => vc_lf fC' (g' 11 b c)) old 8 := by
    funext j
    unfold vt_a
    by_cases e : 8 ≤ j ∧ j < 8 + 8
    · rw [if_pos e, if_pos e]
      dsimp only
      rw [hg b (j - 8) h1 h2 (by omega)]
      cases q : g 11 b (j - 8) with
      | none => rfl
      | some a =>
        show fC 13 a 5 = fC' 13 a 5
        rw [ha b (j - 8) a h1 h2 (by omega) q]
    · rw [if_neg e, if_neg e]
  unfold vt_T
  rw [this]
theorem jp_w.cg {r : Option Nat} {i c : Nat} (h : jp_w fC fR r i c) (ha : ∀ a, r = some a → fC' 13 a = fC 13 a) (hi : fR' 36 0 i = fR 36 0 i ∧ fR' 37 0 i = fR 37 0 i ∧ fR' 38 0 i = fR 38 0 i ∧ fR' 39 0 i = fR 39 0 i ∧ fR' 40 0 i = fR 40 0 i) (hs : fR' 20 0 0 = fR 20 0 0) : jp_w fC' fR' r i c := by
  cases r with
  | none =>
    show fR' 36 0 i = 0
    rw [hi.1]
    exact h
  | some a =>
    unfold jp_w at h ⊢
    dsimp only at h ⊢
    rw [hi.1, hi.2.1, hi.2.2.1, hi.2.2.2.1, hi.2.2.2.2, hs, ha a rfl]
    exact h
theorem vk_tr_k {f : jy_I} {a k : Nat} {c p fr t s : Int32} (h : ¬ k = 13) : vk_tr f a c p fr t s k = f k := by
  unfold vk_tr vk_en
  rw [jt_up h, jt_up h, jt_up h, jt_up h, jt_up h, jt_up h, jt_z h]
theorem vk_tr_a {f : jy_I} {a a' : Nat} {c p fr t s : Int32} (h : ¬ a' = a) : vk_tr f a c p fr t s 13 a' = f 13 a' := by
  unfold vk_tr vk_en
  rw [jy_up_or (fun z => h z.2), jy_up_or (fun z => h z.2), jy_up_or (fun z => h z.2), jy_up_or (fun z => h z.2), jy_up_or (fun z => h z.2), jy_up_or (fun z => h z.2)]
  funext j
  exact if_neg (fun z => h z.2)
theorem vo_note_k {f : jy_I} {i k : Nat} {a b c e : Int32} (h : k < 36 ∨ 40 < k) : vo_note f i a b c e k = f k := by
  unfold vo_note
  rw [jt_up (by omega), jt_up (by omega), jt_up (by omega), jt_up (by omega), jt_up (by omega)]
theorem jl_e.lt {r : Option Nat} {a : Nat} (ho : jy_ok K) (h : jl_e K r) (e : r = some a) : a < K.2.2.1 := (ho a (13, a) (h a e)).2
theorem ji_trI (h : jI K g fC fR cc n) {kk c i : Nat} {p fr t s : Int32} (hkk : (kk = 5 ∧ i = c) ∨ (kk = 6 ∧ i = 8 + c)) (hc : c < 8) : jI (jy_nk K 13 K.2.2.1 6) (jy_up g kk 0 c (some K.2.2.1)) (vk_tr fC K.2.2.1 (nI c) p fr t s) (vo_note fR i p fr t (jq_sig (fR 20 0 0) s (nI c) p t)) cc n := by
  have N := ji_7 h
  obtain ⟨h1, h2, h3, h4, h5, h6, h7, h8, h9, h10, h11, h12, h13, h14, h15, h16, h17⟩ := h
  have ok := h1.1
  have hn := h1.n13 (m := 6)
  have he : jl_e (jy_nk K 13 K.2.2.1 6) (some K.2.2.1) := fun a e => by
    cases e
    exact hn.2
  have g11 : jy_up g kk 0 c (some K.2.2.1) 11 = g 11 := by
    funext b j
    exact jy_up_k (by omega)
  have lv : ∀ b j a, 1 ≤ b → b ≤ n → j < 8 → g 11 b j = some a → vk_tr fC K.2.2.1 (nI c) p fr t s 13 a = fC 13 a := fun b j a q1 q2 q3 q4 => vk_tr_a (fun z => by
    have := jl_e.lt ok (h1.2.2.2.2.1 b j q1 q2 q3) q4
    omega)
  have vk := fun (k : Nat) (q : ¬ k = 13) => vk_tr_k (f := fC) (a := K.2.2.1) (c := nI c) (p := p) (fr := fr) (t := t) (s := s) q
  have vo := fun (k : Nat) (q : k < 36 ∨ 40 < k) => vo_note_k (f := fR) (i := i) (a := p) (b := fr) (c := t) (e := jq_sig (fR 20 0 0) s (nI c) p t) q
  have ve : ∀ b j, vr_e (vo_note fR i p fr t (jq_sig (fR 20 0 0) s (nI c) p t)) b j = vr_e fR b j := fun b j => by
    unfold vr_e
    rw [vo 30 (by omega), vo 31 (by omega), vo 32 (by omega), vo 33 (by omega), vo 34 (by omega), vo 35 (by omega), vo 20 (by omega)]
  have vl : ∀ b j, vr_leaf (vo_note fR i p fr t (jq_sig (fR 20 0 0) s (nI c) p t)) b j = vr_leaf fR b j := fun b j => by
    unfold vr_leaf
    rw [vo 30 (by omega), vo 31 (by omega), vo 32 (by omega), vo 33 (by omega), vo 34 (by omega), vo 35 (by omega), vo 25 (by omega)]
  refine ⟨?_, h2.n13, ?_, ?_, ?_, ?_, ?_, ?_, ?_, ?_, ?_, ?_, ?_, ?_, ?_, ?_, ?_⟩
  · rcases hkk with ⟨rfl, rfl⟩ | ⟨rfl, rfl⟩
    · exact hn.1.p5 he
    · exact hn.1.p6 he
  · unfold jn_C; rw [vk 0 (by omega)]; exact h3
  · unfold jn_R; rw [vo 20 (by omega)]; exact h4
  · rw [vk 0 (by omega), vo 20 (by omega)]; exact h5
  · rw [vk 1 (by omega), vo 23 (by omega)]; exact h6
  · rw [vk 2 (by omega), vo 27 (by omega)]; exact h7
  · rw [vk 7 (by omega), vk 8 (by omega), vo 25 (by omega), vo 26 (by omega), vo 41 (by omega)]; exact h8
  · rw [vk 8 (by omega), vk 9 (by omega), vo 42 (by omega), vo 43 (by omega), vo 44 (by omega), vo 45 (by omega), vo 46 (by omega), vo 47 (by omega), vo 48 (by omega)]; exact h9
  · rw [vk 9 (by omega)]; exact h10
  · rw [vo 47 (by omega), vo 48 (by omega)]; exact h11
  · rw [vk 10 (by omega), vo 29 (by omega)]; exact h12
  · refine jp_8.mk' (fun b j q1 q2 q3 => (h13.x q1 q2 q3).cg (by rw [g11]) (fun a q4 => lv b j a q1 q2 q3 q4) (ve b j) (vl b j)) ?_
    rw [vo 30 (by omega), vo 31 (by omega), vo 32 (by omega)]
    exact h13.2.1
  · exact fun b q1 q2 => h14.cg (fun b j _ _ _ => by rw [g11]) lv (fun b _ _ => by rw [vk 12 (by omega)]) q1 q2
  · intro c' hc'
    have old : ∀ (k' i' : Nat), ¬ i' = i → (∀ a, g k' 0 c' = some a → a < K.2.2.1) → jp_w fC fR (g k' 0 c') i' c' → jp_w (vk_tr fC K.2.2.1 (nI c) p fr t s) (vo_note fR i p fr t (jq_sig (fR 20 0 0) s (nI c) p t)) (g k' 0 c') i' c' := by
      intro k' i' hi hl hw
      refine hw.cg (fun a e => vk_tr_a (fun z => by have := hl a e; omega)) ?_ (by rw [vo 20 (by omega)])
      unfold vo_note
      simp only [jy_up_k, jy_up_2, jy_row_k3, jy_row_2, Nat.reduceEqDiff, not_false_eq_true, ↓reduceIte, true_and, and_true, and_false, false_and, reduceCtorEq, hi]
    have new : jp_w (vk_tr fC K.2.2.1 (nI c) p fr t s) (vo_note fR i p fr t (jq_sig (fR 20 0 0) s (nI c) p t)) (some K.2.2.1) i c := by
      unfold jp_w
      dsimp only
      rw [vo 20 (by omega)]
      unfold vo_note vk_tr vk_en
      simp only [jy_up_k, jy_up_2, jy_row_k3, jy_row_2, Nat.reduceEqDiff, not_false_eq_true, ↓reduceIte, true_and, and_true, and_false, false_and, reduceCtorEq]
      rw [h5.1]
      exact ⟨by decide, rfl, rfl⟩
    have l5 := (h1.2.2.2.2.2.1 c' hc').1
    have l6 := (h1.2.2.2.2.2.1 c' hc').2
    have w5 := (h15 c' hc').1
    have w6 := (h15 c' hc').2
    rcases hkk with ⟨rfl, rfl⟩ | ⟨rfl, rfl⟩
    · refine ⟨?_, ?_⟩
      · by_cases e : c' = i
        · subst e
          rw [jy_up_self]
          exact new
        · rw [jy_up_j e]
          exact old 5 c' e (fun a z => jl_e.lt ok l5 z) w5
      · rw [jy_up_k (by omega)]
        exact old 6 (8 + c') (by omega) (fun a z => jl_e.lt ok l6 z) w6
    · refine ⟨?_, ?_⟩
      · rw [jy_up_k (by omega)]
        exact old 5 c' (by omega) (fun a z => jl_e.lt ok l5 z) w5
      · by_cases e : c' = c
        · subst e
          rw [jy_up_self]
          exact new
        · rw [jy_up_j e]
          exact old 6 (8 + c') (by omega) (fun a z => jl_e.lt ok l6 z) w6
  · intro c' hc'
    obtain ⟨b, q1, q2, a, qa⟩ := h16 c' hc'
    exact ⟨b, q1, q2, a, by rw [g11]; exact qa⟩
  · rw [vo 31 (by omega)]; exact h17
theorem jl_R.up (h : jl_R K g) {k c : Nat} {x : Option Nat} (hk : k < 20) : jl_R K (jy_up g k 0 c x) := ⟨h.1, h.2.1, fun j hj => ⟨(h.2.2 j hj).1, by rw [jy_up_k (by omega)]; exact (h.2.2 j hj).2⟩⟩
theorem js_send (hI : jI K g fC fR cc n) (hR : jl_R K g) {u c t : Int32} : jL Z 8 12 70 [.inl u, .inl c, .inl t] K g fC fR := by
  have N := ji_7 hI
  have H := hI
  obtain ⟨-, -, nC, nR, p1, p3, p4, p5, p6, -, -, p7, p8, -⟩ := H
  by_cases hb : (u < 0 ∨ 3 < u) ∨ (t < 0 ∨ 3 < t) ∨ u = t
  · refine jL.same hI hR (cc_send_n (d := 6) (by rw [jz_4u, jz_4u]; exact hb)) (rm_send_n (d := 5) hR ?_)
    rcases hb with hb | hb | hb
    · exact Or.inl hb
    · exact Or.inr (Or.inl hb)
    · exact Or.inr (Or.inr (Or.inl hb))
  · obtain ⟨u, rfl, hu⟩ := jz_usr (u := u) (fun z => hb (Or.inl z))
    obtain ⟨t, rfl, ht⟩ := jz_usr (u := t) (fun z => hb (Or.inr (Or.inl z)))
    have hut : ¬ u = t := fun z => hb (Or.inr (Or.inr (by rw [z])))
    by_cases hc : c < 0 ∨ 7 < c
    · refine jL.same hI hR (cc_send_o (d := 5) hI.1 hu ht hut (by rw [jz_8u]; exact hc)) (rm_send_n (d := 5) hR (Or.inr (Or.inr (Or.inr ?_))))
      rcases hc with hc | hc
      · exact Or.inl hc
      · right
        rw [N.2.2.2.1, Int32.le_iff_toInt_le, nI_toInt (by omega)]
        rw [Int32.lt_iff_toInt_lt, jz_7] at hc
        omega
    · obtain ⟨c, rfl, hc8⟩ := jz_rng (u := c) (m := 7) (by omega) hc
      have hc8' : c < 8 := by omega
      have h1 := cc_send (Z := Z) (d := 4) (f := fC) hI.1 hu ht hut hc8'
      by_cases hcc : c < cc
      · have h2 := fun (K' : jy_K) (g' : jy_R) (hR' : jl_R K' g') => rm_send (Z := Z) (d := 5) (f := fR) hR' nR hu ht hut hcc
        have e := (p4.1 (8 * u + c) (by omega)).1
        by_cases z : fC 2 0 (8 * u + c) = 0
        · rw [if_pos z] at h1
          have h2 := h2 K g hR
          rw [if_pos (e ▸ z)] at h2
          exact jL.same hI hR h1 h2
        · rw [if_neg z] at h1
          have x := jy_nk_x (m := 6) hI.1.1 hI.1.no13
          have hR' : jl_R (jy_nk K 13 K.2.2.1 6) (jy_up g 5 0 c (some K.2.2.1)) := (hR.x x).up (by omega)
          have h2 := h2 _ _ hR'
          rw [← e, if_neg z] at h2
          have e20 : (jy_nk K 13 K.2.2.1 6).2.1 20 0 = K.2.1 20 0 := jy_nk_ne (by omega)
          rw [e20] at h2
          have I := ji_trI (kk := 5) (c := c) (i := c) (p := fC 2 0 (8 * u + c)) (fr := nI u) (t := nI t) (s := nI u) hI (Or.inl ⟨rfl, rfl⟩) hc8'
          refine ⟨_, _, _, _, _, cc, n, h1, h2, ?_, hR', ?_, ?_, (jF.rfl'.nk (k := 13) (by omega) (by omega)).E (by omega) (by omega), Or.inr (Or.inl rfl)⟩
          · have HI := I
            obtain ⟨-, -, nC', nR', p1', p3', p4', -, -, -, -, p7', -⟩ := HI
            refine jI.small I (fun k a1 a2 a3 => jt_up a2) (fun k a1 a2 a3 => jt_up a2) (by simp only [jy_up_k, jy_up_2, jy_row_k3, jy_row_2, Nat.reduceEqDiff, not_false_eq_true, ↓reduceIte, true_and, and_true, and_false, false_and, reduceCtorEq]) ?_ ?_ ?_ ?_ ?_
            · unfold jn_C
              rw [jt_up (by omega)]
              exact nC'
            · unfold jn_R
              rw [jt_up (by omega)]
              exact nR'
            · rw [jt_up (by omega), jt_up (by omega)]
              exact p1'
            · refine ⟨fun k hk => ?_, fun v c' hv z1 z2 => ?_⟩
              · simp only [jy_up_k, jy_up_2, jy_row_k3, jy_row_2, Nat.reduceEqDiff, not_false_eq_true, ↓reduceIte, true_and, and_true, and_false, false_and, reduceCtorEq]
                by_cases e : k = 8 * u + c
                · rw [if_pos e, if_pos e]
                  exact ⟨rfl, 0, by omega, rfl⟩
                · rw [if_neg e, if_neg e]
                  exact p4'.1 k hk
              · simp only [jy_up_k, jy_up_2, jy_row_k3, jy_row_2, Nat.reduceEqDiff, not_false_eq_true, ↓reduceIte, true_and, and_true, and_false, false_and, reduceCtorEq]
                by_cases e : 8 * v + c' = 8 * u + c
                · rw [if_pos e]
                · rw [if_neg e]
                  exact p4'.2 v c' hv z1 z2
            · rw [jt_up (by omega), jt_up (by omega)]
              exact p7'
          · intro k hk
            rw [jt_up (by omega)]
            exact vk_tr_k (by omega)
          · intro k hk
            rw [jt_up (by omega)]
            exact vo_note_k (by omega)
      · have z := p4.2 u c hu (by omega) hc8'
        rw [if_pos z] at h1
        refine jL.same hI hR h1 (rm_send_n (d := 5) hR (Or.inr (Or.inr (Or.inr (Or.inr ?_)))))
        rw [N.2.2.2.1]
        exact nI_le (by omega) (by omega)
theorem js_forge (hI : jI K g fC fR cc n) (hR : jl_R K g) {c p a t s : Int32} : jL Z 8 16 75 [.inl c, .inl p, .inl a, .inl t, .inl s] K g fC fR := by
  have N := ji_7 hI
  have H := hI
  obtain ⟨-, -, nC, nR, p1, p3, p4, p5, p6, -, -, p7, p8, -⟩ := H
  by_cases hb : (c < 0 ∨ nI cc ≤ c) ∨ p < 0 ∨ 31 < p ∨ (a < 0 ∨ 3 < a) ∨ (t < 0 ∨ 3 < t) ∨ (s < 0 ∨ 3 < s)
  · exact jL.same hI hR (cc_forge_n (d := 6) hI.1 nC (by rw [jz_4u, jz_4u, jz_4u, N.2.2.1]; exact hb)) (rm_forge_n (d := 5) hR (by rw [N.2.2.2.1]; exact hb))
  · simp only [not_or] at hb
    obtain ⟨b1, b2, b3, b4, b5, b6⟩ := hb
    obtain ⟨c, rfl, hc⟩ := jz_coi N.2.2.2.2.1 (fun z => z.elim b1.1 b1.2)
    obtain ⟨a, rfl, ha⟩ := jz_usr (u := a) (fun z => z.elim b4.1 b4.2)
    obtain ⟨t, rfl, ht⟩ := jz_usr (u := t) (fun z => z.elim b5.1 b5.2)
    obtain ⟨s, rfl, hs⟩ := jz_usr (u := s) (fun z => z.elim b6.1 b6.2)
    have hp : ¬ (p < 0 ∨ 31 < p) := fun z => z.elim b2 b3
    have h1 := cc_forge (Z := Z) (d := 4) (f := fC) hI.1 nC hc hp ha ht hs
    have x := jy_nk_x (m := 6) hI.1.1 hI.1.no13
    have hR' : jl_R (jy_nk K 13 K.2.2.1 6) (jy_up g 6 0 c (some K.2.2.1)) := (hR.x x).up (by omega)
    have h2 := rm_forge (Z := Z) (d := 5) (f := fR) hR' nR hc hp ha ht hs
    have e20 : (jy_nk K 13 K.2.2.1 6).2.1 20 0 = K.2.1 20 0 := jy_nk_ne (by omega)
    rw [e20] at h2
    have I := ji_trI (kk := 6) (c := c) (i := 8 + c) (p := p) (fr := nI a) (t := nI t) (s := nI s) hI (Or.inr ⟨rfl, rfl⟩) (by omega)
    exact ⟨_, _, _, _, _, cc, n, h1, h2, I, hR', fun k hk => vk_tr_k (by omega), fun k hk => vo_note_k (by omega), (jF.rfl'.nk (k := 13) (by omega) (by omega)).E (by omega) (by omega), Or.inr (Or.inl rfl)⟩
end TR
