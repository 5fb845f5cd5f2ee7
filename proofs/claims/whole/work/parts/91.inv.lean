/-! what holds between the class and the reference -/
def jp_1 (a b : Nat → Int32) : Prop := a 0 = b 0 ∧ a 1 = b 1 ∧ a 10 = b 2
def jp_3 (a b : Nat → Int32) : Prop := ∀ u, u < 4 → a u = b u
def jp_4 (cc n : Nat) (a b : Nat → Int32) : Prop := (∀ k, k < 32 → a k = b k ∧ ∃ h, h ≤ n ∧ a k = nI h) ∧ ∀ u c, u < 4 → cc ≤ c → c < 8 → a (8 * u + c) = 0
def jp_5 (cc : Nat) (c7 c8 : Nat → Nat → Int32) (r25 r26 r41 : Nat → Int32) : Prop := (∀ c, c < cc → c7 c 0 = r25 c ∧ c7 c 1 = r26 c ∧ c8 c 0 = r41 c ∧ (¬ c7 c 1 = 0 → c8 c 0 = 0)) ∧ ∀ c, cc ≤ c → c < 8 → r25 c = 0 ∧ r26 c = 0 ∧ r41 c = 0
def jp_q (n b : Nat) (x y z w : Int32) : Prop := ((¬ x ≤ 0) ↔ ¬ z = 0) ∧ (x = 0 ↔ y = 0) ∧ (¬ x ≤ 0 → x - 1 = w) ∧ (n < b → x = 0)
def jp_6 (cc n : Nat) (c8 c9 : Nat → Nat → Int32) (r42 r43 r44 r45 r46 r47 r48 : Nat → Int32) : Prop := ∀ c, c < cc → ¬ c8 c 0 = 0 → (c8 c 1 = r42 c ∧ c8 c 2 = r43 c ∧ c8 c 3 = r44 c ∧ c8 c 4 = r45 c) ∧ (∃ u, u < 4 ∧ c8 c 1 = nI u) ∧ (∃ b, b ≤ n ∧ c8 c 2 = nI b) ∧ (∃ a, a ≤ n ∧ c8 c 3 = nI a) ∧ ∀ b, 1 ≤ b → b ≤ 24 → jp_q n b (c9 c b) (r46 (25 * c + b)) (r47 (25 * c + b)) (r48 (25 * c + b))
def jp_6b (cc : Nat) (c9 : Nat → Nat → Int32) : Prop := ∀ c, c < cc → ∀ b, 1 ≤ b → b ≤ 24 → ¬ c9 c b ≤ 0 → ∃ u, u < 4 ∧ c9 c b - 1 = nI u
def jp_6c (r47 r48 : Nat → Int32) : Prop := ∀ c, c < 8 → ∀ b, 1 ≤ b → b ≤ 24 → ¬ r47 (25 * c + b) = 0 → ∃ u, u < 4 ∧ r48 (25 * c + b) = nI u
def jp_7 (n : Nat) (c10 : Nat → Nat → Int32) (r29 : Nat → Int32) : Prop := ∀ b, 1 ≤ b → b ≤ n → (c10 b 2 = 0 ↔ ¬ r29 b = 0)
def jp_8 (n : Nat) (g : jy_R) (fC fR : jy_I) : Prop := (∀ b c, 1 ≤ b → b ≤ n → c < 8 → (g 11 b c).map (vc_t fC) = vr_e fR b c ∧ vc_lf fC (g 11 b c) = vr_leaf fR b c) ∧ (∀ b c, n < b → b ≤ 24 → c < 8 → fR 30 0 (8 * b + c) = 0 ∧ fR 31 0 (8 * b + c) = 0 ∧ fR 32 0 (8 * b + c) = 0) ∧ ∀ b c, 1 ≤ b → b ≤ n → c < 8 → ∀ a, g 11 b c = some a → ¬ fC 13 a 0 = 0 → fC 13 a 1 = 0
def jp_9 (n : Nat) (g : jy_R) (fC : jy_I) : Prop := ∀ b, 1 ≤ b → b ≤ n → ∃ old, fC 12 b = vt_T (fun c => vc_lf fC (g 11 b c)) old
def jp_w (fC fR : jy_I) (r : Option Nat) (i c : Nat) : Prop := match r with
  | none => fR 36 0 i = 0
  | some a => (¬ fR 36 0 i = 0) ∧ fC 13 a 0 = 0 ∧ fC 13 a 1 = fR 37 0 i ∧ fC 13 a 2 = fR 38 0 i ∧ fC 13 a 3 = fR 39 0 i ∧ fC 13 a 4 = jq_b (decide (fR 40 0 i = jq_sig (fR 20 0 0) (fR 38 0 i) (nI c) (fR 37 0 i) (fR 39 0 i))) ∧ fC 13 a 5 = jq_mix (fR 40 0 i) (8 * fR 37 0 i + nI c) (4 * fR 38 0 i + fR 39 0 i)
def jp_10 (g : jy_R) (fC fR : jy_I) : Prop := ∀ c, c < 8 → jp_w fC fR (g 5 0 c) c c ∧ jp_w fC fR (g 6 0 c) (8 + c) c
def jp_11 (cc n : Nat) (g : jy_R) : Prop := ∀ c, c < cc → ∃ b, 1 ≤ b ∧ b ≤ n ∧ ∃ a, g 11 b c = some a
def jp_12 (cc : Nat) (r31 : Nat → Int32) : Prop := ∀ b c, cc ≤ c → c < 8 → b ≤ 24 → r31 (8 * b + c) = 0
def jI (K : jy_K) (g : jy_R) (fC fR : jy_I) (cc n : Nat) : Prop := jl_C K g cc n ∧ jl_F K cc n ∧ jn_C fC cc n ∧ jn_R fR cc n ∧ jp_1 (fC 0 0) (fR 20 0) ∧ jp_3 (fC 1 0) (fR 23 0) ∧ jp_4 cc n (fC 2 0) (fR 27 0) ∧ jp_5 cc (fC 7) (fC 8) (fR 25 0) (fR 26 0) (fR 41 0) ∧ jp_6 cc n (fC 8) (fC 9) (fR 42 0) (fR 43 0) (fR 44 0) (fR 45 0) (fR 46 0) (fR 47 0) (fR 48 0) ∧ jp_6b cc (fC 9) ∧ jp_6c (fR 47 0) (fR 48 0) ∧ jp_7 n (fC 10) (fR 29 0) ∧ jp_8 n g fC fR ∧ jp_9 n g fC ∧ jp_10 g fC fR ∧ jp_11 cc n g ∧ jp_12 cc (fR 31 0)
section IV
variable {K : jy_K} {g : jy_R} {fC fR : jy_I} {cc n : Nat}
theorem ji_E (h7 : fC 0 0 7 = nI n) (h8 : fR 20 0 8 = nI n) (h24 : n ≤ 24) (p : jp_8 n g fC fR) {b : Int32} {c : Nat} (hc : c < 8) : vc_E fC g b c = vr_E fR b c := by
  unfold vc_E ve_r vr_E
  rw [h7, h8]
  by_cases hb : b < 1 ∨ nI n < b
  · rw [if_pos hb, if_pos hb]
    rfl
  · rw [if_neg hb, if_neg hb]
    have hb' : ¬ (b < 1 ∨ fC 0 0 7 < b) := by rw [h7]; exact hb
    obtain ⟨k, rfl, h1, h2⟩ := jz_blkC h7 h24 hb'
    rw [nI_clamp (by omega)]
    exact (p.1 k c h1 h2 hc).1
theorem ji_sp {E E' : jq_E} {c : Nat} (h : ∀ b, E b c = E' b c) (b a : Int32) : jq_sp E c b a = jq_sp E' c b a := by
  unfold jq_sp
  rw [h b, h a]
theorem ji_gd {E E' : jq_E} {c : Nat} (h : ∀ b, E b c = E' b c) (b : Int32) : jq_gd E b c = jq_gd E' b c := by
  unfold jq_gd
  rw [h b]
theorem ji_ex {c u b : Nat} (h : ∀ b, vc_E fC g b c = vr_E fR b c) : jq_ex2 (vc_E fC g) u c b = jq_ex (vr_E fR) u c b := by
  unfold jq_ex2 jq_ex
  rw [h (nI b)]
  cases he : vr_E fR (nI b) c with
  | none => rfl
  | some e =>
    have hs : jq_sp (vc_E fC g) c (nI b) e.2.1 = jq_sp (vr_E fR) c (nI b) e.2.1 := ji_sp h _ _
    simp only [hs]
    have hg : (¬ e.1 = 0 ∨ jq_sp (vr_E fR) c (nI b) e.2.1 = true) → ¬ e.2.2.2.2 = 0 := by
      rintro (q | q)
      · unfold vr_E at he
        split at he
        · cases he
        · unfold vr_e at he
          split at he
          · cases he
          · cases he
            simp only at q ⊢
            simp [q, jq_b]
      · unfold jq_sp at q
        rw [he] at q
        dsimp only at q
        cases hv : vr_E fR e.2.1 c with
        | none => rw [hv] at q; cases q
        | some e' =>
          rw [hv] at q
          have q' := of_decide_eq_true q
          exact q'.2.1
    congr 1
    apply propext
    constructor
    · rintro ⟨q1, q2⟩
      exact ⟨hg q2, q1, q2⟩
    · rintro ⟨q1, q2, q3⟩
      exact ⟨q2, q3⟩
theorem ji_has (h7 : fC 0 0 7 = nI n) (h8 : fR 20 0 8 = nI n) (h24 : n ≤ 24) (p : jp_8 n g fC fR) {c k : Nat} (hc : c < 8) (h1 : 1 ≤ k) (h2 : k ≤ n) : vc_has fC g c k = vr_has fR c k := by
  have hE := ji_E h7 h8 h24 p (b := nI k) hc
  unfold vc_E at hE
  have e1 : ¬ nI k < 1 := nI_nlt (b := 1) h1 (by omega)
  have e2 : ¬ nI n < nI k := nI_nlt h2 (by omega)
  have hR : vr_E fR (nI k) c = vr_e fR k c := by
    unfold vr_E
    rw [h8, if_neg (by simp [e1, e2]), nI_clamp (by omega)]
  rw [hR] at hE
  unfold vc_has vr_has
  unfold vr_e at hE
  by_cases q : fR 30 0 (8 * k + c) = 0
  · rw [if_pos q] at hE
    have : ve_r fC g (nI k) c = none := by simpa using hE
    simp [this, q]
  · rw [if_neg q] at hE
    cases hv : ve_r fC g (nI k) c with
    | none => rw [hv] at hE; cases hE
    | some a => simp [q]
theorem ji_has0 (h7 : fC 0 0 7 = nI n) (h24 : n ≤ 24) {c k : Nat} (hk : k = 0 ∨ n < k) (hk24 : k ≤ 100) : vc_has fC g c k = false := by
  unfold vc_has ve_r
  rw [h7]
  rcases hk with rfl | hk
  · have : nI 0 < 1 := by decide
    rw [if_pos (Or.inl this)]
    rfl
  · rw [if_pos (Or.inr (nI_lt hk (by omega)))]
    rfl
theorem ji_next (h7 : fC 0 0 7 = nI n) (h8 : fR 20 0 8 = nI n) (h24 : n ≤ 24) (p : jp_8 n g fC fR) {c a : Nat} (hc : c < 8) (ha : a ≤ 24) : jq_dn (vr_has fR c) a n 0 = jq_fst (vc_nx fC g (nI a) c) 24 1 := by
  refine jq_dn_fst (fun k h1 h2 => ?_) (fun k h1 => ?_) (fun k h1 h2 => ?_) h24
  · unfold vc_nx
    have : nI a < nI k := nI_lt h1 (by omega)
    simp only [this, decide_true, Bool.true_and]
    exact ji_has h7 h8 h24 p hc (by omega) h2
  · unfold vc_nx
    have : ¬ nI a < nI k := nI_nlt h1 (by omega)
    simp [this]
  · unfold vc_nx
    rw [ji_has0 h7 h24 (Or.inr h1) (by omega)]
    simp
theorem ji_last (h7 : fC 0 0 7 = nI n) (h8 : fR 20 0 8 = nI n) (h24 : n ≤ 24) (p : jp_8 n g fC fR) {c : Nat} (hc : c < 8) : vr_last fR n c = vc_last fC g c := by
  unfold vr_last vc_last
  exact jq_upl_ld (fun k h1 h2 => ji_has h7 h8 h24 p hc h1 h2) (fun k h1 h2 => ji_has0 h7 h24 (Or.inr h1) (by omega)) h24
theorem ji_hid (p : jp_7 n (fC 10) (fR 29 0)) (h24 : n ≤ 24) {a : Nat} (ha : a ≤ 24) : jq_an (vc_wh fC n (nI a)) 24 1 = jq_any (vr_hid fR) (n - a) (a + 1) false := by
  apply Bool.eq_iff_iff.mpr
  rw [jq_an_iff, jq_any_iff]
  constructor
  · rintro ⟨j, h1, h2, h3⟩
    unfold vc_wh at h3
    simp only [Bool.and_eq_true, decide_eq_true_eq] at h3
    obtain ⟨q1, q2, q3⟩ := h3
    have haj : a < j := by
      by_cases e : a < j
      · exact e
      · exact absurd q1 (nI_nlt (by omega) (by omega))
    refine Or.inr ⟨j, by omega, by omega, ?_⟩
    unfold vr_hid
    simpa using (p j h1 q2).mp q3
  · rintro (h | ⟨j, h1, h2, h3⟩)
    · cases h
    · refine ⟨j, by omega, by omega, ?_⟩
      unfold vr_hid at h3
      have h3 : ¬ fR 29 0 j = 0 := by simpa using h3
      unfold vc_wh
      simp only [Bool.and_eq_true, decide_eq_true_eq]
      exact ⟨nI_lt (by omega) (by omega), by omega, (p j (by omega) (by omega)).mpr h3⟩
theorem ji_snd (h7 : fC 0 0 7 = nI n) (h8 : fR 20 0 8 = nI n) (h24 : n ≤ 24) (p7 : jp_7 n (fC 10) (fR 29 0)) (p : jp_8 n g fC fR) {c : Nat} (hc : c < 8) : vr_snd fR n c = (!(jq_an (vc_wh fC n 0) 24 1) && vc_snd fC g c) := by
  have hE : ∀ b, vc_E fC g b c = vr_E fR b c := fun b => ji_E h7 h8 h24 p hc
  have h0 : (0 : Int32) = nI 0 := rfl
  have hh := ji_hid p7 h24 (a := 0) (by omega)
  have e1 : jq_an (vr_hid fR) n 1 = jq_any (vr_hid fR) (n - 0) (0 + 1) false := by
    apply Bool.eq_iff_iff.mpr
    rw [jq_an_iff, jq_any_iff]
    constructor
    · rintro ⟨j, z1, z2, z3⟩
      exact Or.inr ⟨j, by omega, by omega, z3⟩
    · rintro (z | ⟨j, z1, z2, z3⟩)
      · cases z
      · exact ⟨j, by omega, by omega, z3⟩
  have hfst : jq_fst (vr_has fR c) n 1 = vc_ah fC g c := by
    unfold vc_ah
    have := jq_fst_24 (P := vr_has fR c) (Q := vc_nx fC g 0 c) n (24 - n) 1 (fun j z1 z2 => ?_) (fun j z1 z2 => ?_)
    · rw [this, show n + (24 - n) = 24 by omega]
    · unfold vc_nx
      have : (0 : Int32) < nI j := nI_lt (a := 0) (by omega) (by omega)
      simp only [this, decide_true, Bool.true_and]
      exact (ji_has h7 h8 h24 p hc z1 (by omega)).symm
    · unfold vc_nx
      rw [ji_has0 h7 h24 (Or.inr (by omega)) (by omega)]
      simp
  unfold vr_snd
  rw [jq_snd_0 n 1 (Nat.le_refl _), hfst, e1, ← hh, ← h0]
  congr 1
  unfold vc_snd
  rcases jq_fst_sp (Q := vr_has fR c) n 1 with ⟨q1, -⟩ | ⟨q1, q2, q3, -⟩
  · rw [hfst] at q1
    rw [q1, if_pos rfl]
    have : ve_r fC g (nI 0) c = none := by
      unfold ve_r
      rw [if_pos (Or.inl (by decide))]
    rw [this]
  · rw [hfst] at q1 q2 q3
    have hne : ¬ vc_ah fC g c = 0 := by omega
    rw [if_neg hne]
    have hv := ji_has h7 h8 h24 p hc q1 (show vc_ah fC g c ≤ n by omega)
    rw [q3] at hv
    unfold vc_has at hv
    cases hr : ve_r fC g (nI (vc_ah fC g c)) c with
    | none => rw [hr] at hv; cases hv
    | some a =>
      have hEE := hE (nI (vc_ah fC g c))
      have e2 : ¬ nI (vc_ah fC g c) < 1 := nI_nlt (b := 1) q1 (by omega)
      have e3 : ¬ nI n < nI (vc_ah fC g c) := nI_nlt (by omega) (by omega)
      have hR : vr_E fR (nI (vc_ah fC g c)) c = vr_e fR (vc_ah fC g c) c := by
        unfold vr_E
        rw [h8, if_neg (by simp [e2, e3]), nI_clamp (by omega)]
      rw [hR] at hEE
      unfold vc_E at hEE
      rw [hr] at hEE
      unfold vr_e at hEE
      have hq3 : ¬ fR 30 0 (8 * vc_ah fC g c + c) = 0 := by
        unfold vr_has at q3
        simpa using q3
      rw [if_neg hq3] at hEE
      have hdep : fC 13 a 0 = fR 31 0 (8 * vc_ah fC g c + c) := by
        have := Option.some.inj hEE
        exact congrArg Prod.fst this
      have hch : jq_chn (vr_has fR c) (fun k bf => jq_sp (vr_E fR) c (nI k) (nI bf)) n 1 (vc_ah fC g c) = jq_chn (vc_has fC g c) (fun k a => jq_sp (vc_E fC g) c (nI k) (nI a)) 24 1 (vc_ah fC g c) := by
        have := jq_chn_24 (has := vr_has fR c) (has' := vc_has fC g c) (sp := fun k bf => jq_sp (vr_E fR) c (nI k) (nI bf)) (sp' := fun k a => jq_sp (vc_E fC g) c (nI k) (nI a)) n (24 - n) 1 (vc_ah fC g c) (fun j z1 z2 => (ji_has h7 h8 h24 p hc z1 (by omega)).symm) (fun j z1 z2 => ji_has0 h7 h24 (Or.inr (by omega)) (by omega)) (fun j i => (ji_sp hE _ _).symm)
        rw [this, show n + (24 - n) = 24 by omega]
      rw [hch]
      unfold vr_dep
      rw [← hdep]
      by_cases z : fC 13 a 0 = 0 <;> simp [z]
end IV
