/-! both sides answer alike: what is asked -/
section RD
variable {Z : jx_Sc} {d : Nat} {K : jy_K} {g : jy_R} {fC fR : jy_I} {cc n : Nat}
theorem ji_std (p : jp_6 cc n (fC 8) (fC 9) (fR 42 0) (fR 43 0) (fR 44 0) (fR 45 0) (fR 46 0) (fR 47 0) (fR 48 0)) {c b : Nat} (hc : c < cc) (ho : ¬ fC 8 c 0 = 0) (h1 : 1 ≤ b) (h2 : b ≤ 24) : vr_std fR c b = vc_std fC c b := by
  have q := ((p c hc ho).2.2.2.2 b h1 h2).1
  unfold vr_std vc_std
  by_cases z : fC 9 c b ≤ 0
  · have : fR 47 0 (25 * c + b) = 0 := Classical.byContradiction fun e => (q.mpr e) z
    simp [z, this]
  · have := q.mp z
    simp [z, this]
theorem ji_std0 (p : jp_6 cc n (fC 8) (fC 9) (fR 42 0) (fR 43 0) (fR 44 0) (fR 45 0) (fR 46 0) (fR 47 0) (fR 48 0)) {c b : Nat} (hc : c < cc) (ho : ¬ fC 8 c 0 = 0) (h1 : n < b) (h2 : b ≤ 24) : vc_std fC c b = false := by
  have q := ((p c hc ho).2.2.2.2 b (by omega) h2).2.2.2 h1
  unfold vc_std
  simp [q]
theorem ji_cnt (p : jp_6 cc n (fC 8) (fC 9) (fR 42 0) (fR 43 0) (fR 44 0) (fR 45 0) (fR 46 0) (fR 47 0) (fR 48 0)) (h24 : n ≤ 24) {c : Nat} (hc : c < cc) (ho : ¬ fC 8 c 0 = 0) : jq_cnt (vr_std fR c) n 1 0 = jq_cnt (vc_std fC c) 24 1 0 :=
  jq_cnt_24 h24 (fun _ h1 h2 => ji_std p hc ho h1 (by omega)) (fun _ h1 h2 => ji_std0 p hc ho h1 h2)
theorem ji_coin (h : jI K g fC fR cc n) {c k : Nat} (hc : c < 8) (hk : k ≤ 6) : vr_coin fR cc n c k = vc_coin fC cc c k := by
  obtain ⟨-, -, hC, -, -, -, -, p5, p6, -⟩ := h
  unfold vr_coin vc_coin
  by_cases hcc : cc ≤ c
  · have q := p5.2 c hcc hc
    rw [if_pos hcc, q.1, q.2.2, if_pos hcc]
    by_cases k0 : k = 0
    · rw [if_pos k0]
    · rw [if_neg k0, if_pos rfl]
      by_cases k1 : k = 1
      · rw [if_pos k1]
      · rw [if_neg k1]
  · have hlt : c < cc := by omega
    have q := p5.1 c hlt
    rw [if_neg hcc, if_neg hcc, q.1, q.2.1]
    by_cases k0 : k = 0
    · rw [if_pos k0, if_pos k0]
    · rw [if_neg k0, if_neg k0]
      by_cases k1 : k = 1
      · rw [if_pos k1, if_pos k1]
      · rw [if_neg k1, if_neg k1]
        unfold vc_look
        rw [← q.2.2.1]
        by_cases o : fC 8 c 0 = 0
        · rw [if_pos o, if_pos o]
        · rw [if_neg o, if_neg o]
          have r := (p6 c hlt o).1
          rw [ji_cnt p6 hC.2.2.2 hlt o, r.1, r.2.1, r.2.2.1, r.2.2.2]
theorem ji_lk (h : jI K g fC fR cc n) {c : Nat} (hc : c < cc) : vr_lk fR n c = vc_lk fC cc c := by
  obtain ⟨-, -, hC, -, -, -, -, p5, p6, -⟩ := h
  have q := p5.1 c hc
  unfold vr_lk vc_lk
  rw [if_neg (show ¬ cc ≤ c by omega), ← q.1, ← q.2.1, ← q.2.2.1]
  by_cases e : fC 7 c 1 = 0
  · rw [if_pos e, if_pos e]
    by_cases o : fC 8 c 0 = 0
    · rw [if_pos o, if_pos o]
    · rw [if_neg o, if_neg o, ji_cnt p6 hC.2.2.2 hc o]
  · rw [if_neg e, if_neg e, if_pos (q.2.2.2 e)]
    rfl
theorem ji_lck (h : jI K g fC fR cc n) : jq_sum (vr_lk fR n) cc 0 0 = jq_sum (vc_lk fC cc) 8 0 0 := by
  refine jq_sum_8 h.2.2.1.2.2.1 (fun k hk => ji_lk h hk) (fun k h1 h2 => ?_)
  unfold vc_lk
  rw [if_pos h1]
theorem vt_b_in {p : Nat → Int32} {v F i j : Nat} (h : F ≤ j ∧ j < i) : vt_b p v F i j = jq_over (p (2 * j)) (p (2 * j + 1)) (nI v) := if_pos h
theorem vt_b_out {p : Nat → Int32} {v F i j : Nat} (h : ¬ (F ≤ j ∧ j < i)) : vt_b p v F i j = p j := if_neg h
theorem jq_lv_in {p : Nat → Int32} {v N i : Nat} (h : i < N) : jq_lv p v N i = jq_over (p (2 * i)) (p (2 * i + 1)) (nI v) := if_pos h
theorem jq_lev_3 {p : Nat → Int32} : jq_lev p 3 = jq_lv (jq_lv (jq_lv p 1 4) 2 2) 3 1 := by
  simp only [jq_lev]
theorem vt_T_at {p lf old : Nat → Int32} (h : ∀ i, i < 8 → p i = lf i) : (∀ i, i < 8 → vt_T lf old (8 + i) = jq_lev p 0 i) ∧ (∀ i, i < 4 → vt_T lf old (4 + i) = jq_lev p 1 i) ∧ (∀ i, i < 2 → vt_T lf old (2 + i) = jq_lev p 2 i) ∧ vt_T lf old 1 = jq_lev p 3 0 := by
  have a0 : ∀ i, i < 8 → vt_a lf old 8 (8 + i) = p i := by
    intro i hi
    unfold vt_a
    rw [if_pos (by omega), show 8 + i - 8 = i by omega, h i hi]
  have b1 : ∀ i, i < 4 → vt_b (vt_a lf old 8) 1 4 8 (4 + i) = jq_lv p 1 4 i := by
    intro i hi
    rw [vt_b_in (by omega), jq_lv_in hi, show 2 * (4 + i) = 8 + 2 * i by omega, show 8 + 2 * i + 1 = 8 + (2 * i + 1) by omega, a0 _ (by omega), a0 _ (by omega)]
  have b2 : ∀ i, i < 2 → vt_b (vt_b (vt_a lf old 8) 1 4 8) 2 2 4 (2 + i) = jq_lv (jq_lv p 1 4) 2 2 i := by
    intro i hi
    rw [vt_b_in (by omega), jq_lv_in hi, show 2 * (2 + i) = 4 + 2 * i by omega, show 4 + 2 * i + 1 = 4 + (2 * i + 1) by omega, b1 _ (by omega), b1 _ (by omega)]
  unfold vt_T
  refine ⟨fun i hi => ?_, fun i hi => ?_, fun i hi => ?_, ?_⟩
  · rw [vt_b_out (by omega), vt_b_out (by omega), vt_b_out (by omega), a0 i hi]
    simp only [jq_lev]
  · rw [vt_b_out (by omega), vt_b_out (by omega), b1 i hi]
    simp only [jq_lev]
  · rw [vt_b_out (by omega), b2 i hi]
    simp only [jq_lev]
  · rw [jq_lev_3, jq_lv_in (by omega), vt_b_in (by omega), show 2 * 1 = 2 + 0 by omega, show 2 + 0 + 1 = 2 + 1 by omega, b2 0 (by omega), b2 1 (by omega)]
theorem ji_tree (h : jI K g fC fR cc n) {b : Nat} (h1 : 1 ≤ b) (h2 : b ≤ n) : (∀ i, i < 8 → fC 12 b (8 + i) = jq_lev (vr_row fR b 8) 0 i) ∧ (∀ i, i < 4 → fC 12 b (4 + i) = jq_lev (vr_row fR b 8) 1 i) ∧ (∀ i, i < 2 → fC 12 b (2 + i) = jq_lev (vr_row fR b 8) 2 i) ∧ fC 12 b 1 = vr_root fR b := by
  obtain ⟨-, -, -, -, -, -, -, -, -, -, -, -, p8, p9, -⟩ := h
  obtain ⟨old, ho⟩ := p9 b h1 h2
  rw [ho]
  exact vt_T_at (fun i hi => by
    unfold vr_row
    rw [if_pos hi]
    exact ((p8.1 b i h1 h2 hi).2).symm)
theorem jz_path : ∀ c, c < 8 → (((8 + c) / 2 ^ 0) ^^^ 1 = 8 + ((c / 2 ^ 0) ^^^ 1) ∧ (c / 2 ^ 0) ^^^ 1 < 8) ∧ (((8 + c) / 2 ^ 1) ^^^ 1 = 4 + ((c / 2 ^ 1) ^^^ 1) ∧ (c / 2 ^ 1) ^^^ 1 < 4) ∧ (((8 + c) / 2 ^ 2) ^^^ 1 = 2 + ((c / 2 ^ 2) ^^^ 1) ∧ (c / 2 ^ 2) ^^^ 1 < 2) := by decide
theorem ji_blk (h : jI K g fC fR cc n) {b k : Nat} (h1 : 1 ≤ b) (h2 : b ≤ n) (hk : k ≤ 33) : (vr_blk fR b k).1 = vc_bl fC b (nI k) := by
  have T := ji_tree h h1 h2
  obtain ⟨-, -, -, -, -, -, -, -, -, -, -, p7, -⟩ := h
  have q := p7 b h1 h2
  have e0 : (nI k = 0) ↔ k = 0 := ⟨fun z => nI_inj (b := 0) (by omega) (by omega) z, fun z => by rw [z]; rfl⟩
  have e1 : (nI k = 1) ↔ k = 1 := ⟨fun z => nI_inj (b := 1) (by omega) (by omega) z, fun z => by rw [z]; rfl⟩
  unfold vr_blk vc_bl
  rw [nI_clamp (by omega)]
  by_cases k0 : k = 0
  · rw [if_pos k0, if_pos (e0.mpr k0)]
    exact T.2.2.2.symm
  · rw [if_neg k0, if_neg (fun z => k0 (e0.mp z))]
    by_cases hh : fC 10 b 2 = 0
    · rw [if_pos (q.mp hh), if_pos hh, if_pos hh]
      by_cases k1 : nI k = 1
      · rw [if_pos k1]
      · rw [if_neg k1]
    · have hr : ¬ ¬ fR 29 0 b = 0 := fun z => hh (q.mpr z)
      rw [if_neg hr, if_neg hh, if_neg hh]
      by_cases k1 : k = 1
      · rw [if_pos k1, if_pos (e1.mpr k1)]
      · have e2 : ¬ (nI k < 2 ∨ (33 : Int32) < nI k) := by
          have z1 : ¬ nI k < 2 := nI_nlt (b := 2) (by omega) (by omega)
          have z2 : ¬ (33 : Int32) < nI k := nI_nlt (a := 33) (by omega) (by omega)
          simp [z1, z2]
        rw [if_neg k1, if_neg (fun z => k1 (e1.mp z)), if_neg e2]
        by_cases k10 : k < 10
        · have e3 : nI k < (10 : Int32) := nI_lt (b := 10) k10 (by omega)
          rw [if_pos k10, if_pos e3, T.1 (k - 2) (by omega)]
          show vr_leaf fR b (k - 2) = vr_row fR b 8 (k - 2)
          unfold vr_row
          rw [if_pos (by omega)]
        · have e3 : ¬ nI k < (10 : Int32) := nI_nlt (b := 10) (by omega) (by omega)
          rw [if_neg k10, if_neg e3]
          have hc : (k - 10) / 3 < 8 := by omega
          have P := jz_path ((k - 10) / 3) hc
          have hq : (k - 10) % 3 = 0 ∨ (k - 10) % 3 = 1 ∨ (k - 10) % 3 = 2 := by omega
          rcases hq with hq | hq | hq
          · rw [hq, P.1.1]
            exact (T.1 _ P.1.2).symm
          · rw [hq, P.2.1.1]
            exact (T.2.1 _ P.2.1.2).symm
          · rw [hq, P.2.2.1]
            exact (T.2.2.1 _ P.2.2.2).symm
/-- the scratch row of the reference is nobody's -/
theorem jt_lo_scr {f : jy_I} {x : Nat → Int32} (h : jI K g fC f cc n) : jI K g fC (jy_row f 49 0 x) cc n := by
  have e : ∀ k, ¬ k = 49 → jy_row f 49 0 x k = f k := fun k q => jy_row_k q
  obtain ⟨h1, h2, h3, h4, h5, h6, h7, h8, h9, h10, h11, h12, h13, h14, h15, h16, h17⟩ := h
  have v3 : vr_e (jy_row f 49 0 x) = vr_e f := by
    funext b c
    unfold vr_e
    rw [e 30 (by omega), e 31 (by omega), e 32 (by omega), e 33 (by omega), e 34 (by omega), e 35 (by omega), e 20 (by omega)]
  have v4 : vr_leaf (jy_row f 49 0 x) = vr_leaf f := by
    funext b c
    exact vr_leaf_row
  have v5 : jp_w fC (jy_row f 49 0 x) = jp_w fC f := by
    funext r i c
    cases r with
    | none => show (jy_row f 49 0 x 36 0 i = 0) = (f 36 0 i = 0); rw [e 36 (by omega)]
    | some a =>
      unfold jp_w
      dsimp only
      rw [e 36 (by omega), e 37 (by omega), e 38 (by omega), e 39 (by omega), e 40 (by omega), e 20 (by omega)]
  refine ⟨h1, h2, h3, ?_, ?_, ?_, ?_, ?_, ?_, h10, ?_, ?_, ?_, h14, ?_, h16, by rw [e 31 (by omega)]; exact h17⟩
  · unfold jn_R; rw [e 20 (by omega)]; exact h4
  · rw [e 20 (by omega)]; exact h5
  · rw [e 23 (by omega)]; exact h6
  · rw [e 27 (by omega)]; exact h7
  · rw [e 25 (by omega), e 26 (by omega), e 41 (by omega)]; exact h8
  · rw [e 42 (by omega), e 43 (by omega), e 44 (by omega), e 45 (by omega), e 46 (by omega), e 47 (by omega), e 48 (by omega)]; exact h9
  · rw [e 47 (by omega), e 48 (by omega)]; exact h11
  · rw [e 29 (by omega)]; exact h12
  · unfold jp_8; rw [v3, v4, e 30 (by omega), e 31 (by omega), e 32 (by omega)]; exact h13
  · unfold jp_10; rw [v5]; exact h15
theorem js_usr (hI : jI K g fC fR cc n) (hR : jl_R K g) {u k : Int32} : jL Z 8 54 98 [.inl u, .inl k] K g fC fR := by
  by_cases hb : (u < 0 ∨ 3 < u) ∨ k < 0 ∨ 8 < k
  · exact jL.same hI hR (cc_usr_n (d := 6) (by rw [jz_4u]; exact hb)) (rm_usr_n (d := 6) hb)
  · obtain ⟨u, rfl, hu⟩ := jz_usr (u := u) (fun z => hb (Or.inl z))
    obtain ⟨k, rfl, hk⟩ := jz_rng (u := k) (m := 8) (by omega) (fun z => hb (Or.inr z))
    have h1 := cc_usr (Z := Z) (d := 5) (f := fC) hI.1 hu hk
    have h2 := rm_usr (Z := Z) (d := 6) (f := fR) hR hu hk
    refine jL.same hI hR h1 ?_
    obtain ⟨-, -, -, -, -, p3, p4, -⟩ := hI
    rw [p3 u hu]
    by_cases k0 : k = 0
    · rw [if_pos k0]
      rw [if_pos k0] at h2
      exact h2
    · rw [if_neg k0, (p4.1 (8 * u + (k - 1)) (by omega)).1]
      rw [if_neg k0] at h2
      exact h2
theorem js_coi (hI : jI K g fC fR cc n) (hR : jl_R K g) {c k : Int32} : jL Z 8 55 99 [.inl c, .inl k] K g fC fR := by
  by_cases hb : c < 0 ∨ 7 < c ∨ k < 0 ∨ 6 < k
  · exact jL.same hI hR (cc_coi_n (d := 7) (by rw [jz_8u]; exact hb)) (rm_coi_n (d := 7) hb)
  · have hb' : ¬ (c < 0 ∨ 7 < c) ∧ ¬ (k < 0 ∨ 6 < k) := by
      simp only [not_or] at hb ⊢
      exact ⟨⟨hb.1, hb.2.1⟩, hb.2.2⟩
    obtain ⟨c, rfl, hc⟩ := jz_rng (u := c) (m := 7) (by omega) hb'.1
    obtain ⟨k, rfl, hk⟩ := jz_rng (u := k) (m := 6) (by omega) hb'.2
    have h1 := cc_coi (Z := Z) (d := 3) (f := fC) hI.1 hI.2.2.1 (show c < 8 by omega) hk
    have h2 := rm_coi (Z := Z) (d := 6) (f := fR) hR hI.2.2.2.1 (show c < 8 by omega) hk
    rw [ji_coin hI (by omega) hk] at h2
    exact jL.same hI hR h1 h2
theorem js_lck (hI : jI K g fC fR cc n) (hR : jl_R K g) : jL Z 8 63 106 [] K g fC fR := by
  have h1 := cc_lck (Z := Z) (d := 3) (f := fC) hI.1 hI.2.2.1
  have h2 := rm_lck (Z := Z) (d := 6) (f := fR) hR hI.2.2.2.1
  rw [ji_lck hI] at h2
  exact jL.same hI hR h1 h2
theorem ji_7 (hI : jI K g fC fR cc n) : fC 0 0 7 = nI n ∧ fR 20 0 8 = nI n ∧ fC 0 0 5 = nI cc ∧ fR 20 0 4 = nI cc ∧ cc ≤ 8 ∧ n ≤ 24 := ⟨hI.2.2.1.2.1, hI.2.2.2.1.2.1, hI.2.2.1.1, hI.2.2.2.1.1, hI.2.2.1.2.2.1, hI.2.2.1.2.2.2⟩
theorem js_blk (hI : jI K g fC fR cc n) (hR : jl_R K g) {b k : Int32} : jL Z 8 58 101 [.inl b, .inl k] K g fC fR := by
  have N := ji_7 hI
  by_cases hb : b < 1 ∨ nI n < b
  · exact jL.same hI hR (cc_blk_n (d := 6) hI.1 (by rw [N.1]; exact hb)) (rm_blk_n (d := 6) hR (Or.inl (by rw [N.2.1]; exact hb)))
  · obtain ⟨b, rfl, h1, h2⟩ := jz_bl N.2.2.2.2.2 hb
    have hC := cc_blk (Z := Z) (d := 6) (f := fC) (k := k) hI.1 hI.2.2.1 h1 h2
    by_cases hk : k < 0 ∨ 33 < k
    · have : vc_bl fC b k = 0 := by
        have k0 : ¬ k = 0 := by rintro rfl; revert hk; decide
        have k1 : ¬ k = 1 := by rintro rfl; revert hk; decide
        have k2 : k < 2 ∨ 33 < k := by
          rcases hk with hk | hk
          · left
            rw [Int32.lt_iff_toInt_lt, jz_0] at hk
            rw [Int32.lt_iff_toInt_lt, jz_2]
            omega
          · exact Or.inr hk
        unfold vc_bl
        rw [if_neg k0, if_neg k1, if_pos k2]
        by_cases z : fC 10 b 2 = 0
        · rw [if_pos z]
        · rw [if_neg z]
      rw [this] at hC
      exact jL.same hI hR hC (rm_blk_n (d := 6) hR (Or.inr hk))
    · obtain ⟨k, rfl, hkk⟩ := jz_rng (u := k) (m := 33) (by omega) hk
      clear hk
      have hk := hkk
      have hM := rm_blk (Z := Z) (d := 4) (f := fR) hR hI.2.2.2.1 h1 h2 hk
      rw [ji_blk hI h1 h2 hk] at hM
      have hf : ∃ x, (vr_blk fR b k).2 = fR ∨ (vr_blk fR b k).2 = jy_row fR 49 0 x := by
        unfold vr_blk
        by_cases k0 : k = 0
        · rw [if_pos k0]
          exact ⟨_, Or.inr rfl⟩
        · rw [if_neg k0]
          by_cases q : ¬ fR 29 0 b = 0
          · rw [if_pos q]
            exact ⟨fun _ => 0, Or.inl rfl⟩
          · rw [if_neg q]
            by_cases k1 : k = 1
            · rw [if_pos k1]
              exact ⟨fun _ => 0, Or.inl rfl⟩
            · rw [if_neg k1]
              by_cases k2 : k < 10
              · rw [if_pos k2]
                exact ⟨fun _ => 0, Or.inl rfl⟩
              · rw [if_neg k2]
                exact ⟨_, Or.inr rfl⟩
      obtain ⟨x, hf | hf⟩ := hf
      · rw [hf] at hM
        exact jL.same hI hR hC hM
      · rw [hf] at hM
        exact jL.only hR hC hM (jt_lo_scr hI) jt_lo.rfl' (jt_hi.rfl'.row (by omega))
theorem js_prv (hI : jI K g fC fR cc n) (hR : jl_R K g) {b c l x y z : Int32} : jL Z 8 61 105 [.inl b, .inl c, .inl l, .inl x, .inl y, .inl z] K g fC fR := by
  have N := ji_7 hI
  by_cases hb : (b < 1 ∨ nI n < b) ∨ c < 0 ∨ 7 < c
  · exact jL.same hI hR (cc_prv_n (d := 6) hI.1 hI.2.2.1 (by rw [N.1, jz_8u]; exact hb)) (rm_prv_n (d := 6) hR (by rw [N.2.1]; exact hb))
  · obtain ⟨b, rfl, h1, h2⟩ := jz_bl N.2.2.2.2.2 (fun q => hb (Or.inl q))
    have hc : ¬ (c < 0 ∨ 7 < c) := fun q => hb (Or.inr q)
    have hC := cc_prv (Z := Z) (d := 4) (f := fC) (l := l) (x := x) (y := y) (z := z) hI.1 hI.2.2.1 h1 h2 (show ¬ (c < 0 ∨ 8 ≤ c) by rw [jz_8u]; exact hc)
    have hM := rm_prv (Z := Z) (d := 4) (f := fR) (l := l) (x := x) (y := y) (z := z) hR hI.2.2.2.1 h1 h2 hc
    rw [← (ji_tree hI h1 h2).2.2.2] at hM
    exact jL.only hR hC hM (jt_lo_scr hI) jt_lo.rfl' (jt_hi.rfl'.row (by omega))
end RD
