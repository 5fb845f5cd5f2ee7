/-! two states on one layout: the class runs on one, the reference on the other -/
def jt_lo (f f' : jy_I) : Prop := ∀ k, 20 ≤ k → f' k = f k
def jt_hi (f f' : jy_I) : Prop := ∀ k, k < 20 → f' k = f k
theorem jt_up {f : jy_I} {k0 i j k : Nat} {x : Int32} (h : ¬ k = k0) : jy_up f k0 i j x k = f k := by
  funext i' j'
  exact jy_up_k h
theorem jt_z {f : jy_I} {k0 i k : Nat} {x : Int32} (h : ¬ k = k0) : jy_z f k0 i x k = f k := by
  funext i' j'
  exact if_neg (fun q => h q.1)
theorem jt_lo.rfl' {f : jy_I} : jt_lo f f := fun _ _ => rfl
theorem jt_hi.rfl' {f : jy_I} : jt_hi f f := fun _ _ => rfl
theorem jt_lo.tr {a b c : jy_I} (h : jt_lo a b) (h' : jt_lo b c) : jt_lo a c := fun k q => (h' k q).trans (h k q)
theorem jt_hi.tr {a b c : jy_I} (h : jt_hi a b) (h' : jt_hi b c) : jt_hi a c := fun k q => (h' k q).trans (h k q)
theorem jt_lo.up {a f : jy_I} {k0 i j : Nat} {x : Int32} (h : jt_lo a f) (e : k0 < 20) : jt_lo a (jy_up f k0 i j x) := fun k q => (jt_up (by omega)).trans (h k q)
theorem jt_lo.row {a f : jy_I} {k0 i : Nat} {x : Nat → Int32} (h : jt_lo a f) (e : k0 < 20) : jt_lo a (jy_row f k0 i x) := fun k q => (jy_row_k (by omega)).trans (h k q)
theorem jt_lo.z {a f : jy_I} {k0 i : Nat} {x : Int32} (h : jt_lo a f) (e : k0 < 20) : jt_lo a (jy_z f k0 i x) := fun k q => (jt_z (by omega)).trans (h k q)
theorem jt_hi.up {a f : jy_I} {k0 i j : Nat} {x : Int32} (h : jt_hi a f) (e : 20 ≤ k0) : jt_hi a (jy_up f k0 i j x) := fun k q => (jt_up (by omega)).trans (h k q)
theorem jt_hi.row {a f : jy_I} {k0 i : Nat} {x : Nat → Int32} (h : jt_hi a f) (e : 20 ≤ k0) : jt_hi a (jy_row f k0 i x) := fun k q => (jy_row_k (by omega)).trans (h k q)
theorem jI.cong {K : jy_K} {g : jy_R} {fC fR fC' fR' : jy_I} {cc n : Nat} (h : jI K g fC fR cc n) (hC : jt_hi fC fC') (hR : jt_lo fR fR') : jI K g fC' fR' cc n := by
  have e0 := hC 0 (by omega)
  have e1 := hC 1 (by omega)
  have e2 := hC 2 (by omega)
  have e7 := hC 7 (by omega)
  have e8 := hC 8 (by omega)
  have e9 := hC 9 (by omega)
  have e10 := hC 10 (by omega)
  have e12 := hC 12 (by omega)
  have e13 := hC 13 (by omega)
  have r20 := hR 20 (by omega)
  have r23 := hR 23 (by omega)
  have r25 := hR 25 (by omega)
  have r26 := hR 26 (by omega)
  have r27 := hR 27 (by omega)
  have r29 := hR 29 (by omega)
  have r30 := hR 30 (by omega)
  have r31 := hR 31 (by omega)
  have r32 := hR 32 (by omega)
  have r33 := hR 33 (by omega)
  have r34 := hR 34 (by omega)
  have r35 := hR 35 (by omega)
  have r36 := hR 36 (by omega)
  have r37 := hR 37 (by omega)
  have r38 := hR 38 (by omega)
  have r39 := hR 39 (by omega)
  have r40 := hR 40 (by omega)
  have r41 := hR 41 (by omega)
  have r42 := hR 42 (by omega)
  have r43 := hR 43 (by omega)
  have r44 := hR 44 (by omega)
  have r45 := hR 45 (by omega)
  have r46 := hR 46 (by omega)
  have r47 := hR 47 (by omega)
  have r48 := hR 48 (by omega)
  have v1 : vc_lf fC' = vc_lf fC := by
    funext r
    cases r with
    | none => rfl
    | some a => show fC' 13 a 5 = fC 13 a 5; rw [e13]
  have v2 : vc_t fC' = vc_t fC := by
    funext a
    unfold vc_t
    rw [e13]
  have v3 : vr_e fR' = vr_e fR := by
    funext b c
    unfold vr_e
    rw [r30, r31, r32, r33, r34, r35, r20]
  have v4 : vr_leaf fR' = vr_leaf fR := by
    funext b c
    unfold vr_leaf
    rw [r30, r31, r32, r33, r34, r35, r25]
  have v5 : jp_w fC' fR' = jp_w fC fR := by
    funext r i c
    cases r with
    | none => show (fR' 36 0 i = 0) = (fR 36 0 i = 0); rw [r36]
    | some a =>
      unfold jp_w
      dsimp only
      rw [r36, r37, r38, r39, r40, r20, e13]
  obtain ⟨h1, h2, h3, h4, h5, h6, h7, h8, h9, h10, h11, h12, h13, h14, h15, h16, h17⟩ := h
  refine ⟨h1, h2, ?_, ?_, ?_, ?_, ?_, ?_, ?_, ?_, ?_, ?_, ?_, ?_, ?_, h16, by rw [r31]; exact h17⟩
  · unfold jn_C; rw [e0]; exact h3
  · unfold jn_R; rw [r20]; exact h4
  · rw [e0, r20]; exact h5
  · rw [e1, r23]; exact h6
  · rw [e2, r27]; exact h7
  · rw [e7, e8, r25, r26, r41]; exact h8
  · rw [e8, e9, r42, r43, r44, r45, r46, r47, r48]; exact h9
  · rw [e9]; exact h10
  · rw [r47, r48]; exact h11
  · rw [e10, r29]; exact h12
  · unfold jp_8; rw [v1, v2, v3, v4, e13, r30, r31, r32]; exact h13
  · unfold jp_9; rw [v1, e12]; exact h14
  · unfold jp_10; rw [v5]; exact h15
/-- the layout grows -/
def jE (K K' : jy_K) : Prop := K'.2.1 0 0 = K.2.1 0 0 ∧ K'.2.1 20 0 = K.2.1 20 0 ∧ K'.2.2.1 ≤ K.2.2.1 + 7 ∧ K'.2.2.2 ≤ K.2.2.2 + 67 ∧ K.2.2.1 ≤ K'.2.2.1 ∧ ∀ a, a < K.2.2.1 → K'.1 a = K.1 a
theorem jE.rfl' {K : jy_K} : jE K K := ⟨rfl, rfl, by omega, by omega, by omega, fun _ _ => rfl⟩
/-- the four layouts that a call may leave -/
def jKs (K K' : jy_K) (fC : jy_I) : Prop := K' = K ∨ K' = jy_nk K 13 K.2.2.1 6 ∨ K' = vb_K K ((fC 0 0 7).toNatClampNeg + 1) ∨ K' = wd_K K (fC 0 0 5).toNatClampNeg (fC 0 0 7).toNatClampNeg
theorem jKs.eq {K K' K'' : jy_K} {f : jy_I} (h : jKs K K' f) (h' : jKs K K'' f) (e : K'.2.2.1 = K''.2.2.1) : K' = K'' := by
  have a1 : ∀ m, (jy_nk K 13 K.2.2.1 m).2.2.1 = K.2.2.1 + 1 := fun m => rfl
  have a2 : ∀ b, (vb_K K b).2.2.1 = K.2.2.1 + 3 := fun b => rfl
  have a3 : ∀ c n, (wd_K K c n).2.2.1 = K.2.2.1 + 7 := fun c n => rfl
  rcases h with rfl | rfl | rfl | rfl <;> rcases h' with rfl | rfl | rfl | rfl <;> first | rfl | (exfalso; simp only [a1, a2, a3] at e; omega)
/-- one call of both: the same answer, and all that holds between them holds again -/
def jL (Z : jx_Sc) (d mC mR : Nat) (as : List jx_V) (K : jy_K) (g : jy_R) (fC fR : jy_I) : Prop := ∃ (a : Int32) (K' : jy_K) (g' : jy_R) (fC' fR' : jy_I) (cc' n' : Nat), jx_m Z d mC (.inr (some (K.2.1 0 0)) :: as) (jy_w K fC g) = some (some (.inl a), jy_w K' fC' g') ∧ jx_m Z d mR (.inr (some (K.2.1 20 0)) :: as) (jy_w K' fR g') = some (some (.inl a), jy_w K' fR' g') ∧ jI K' g' fC' fR' cc' n' ∧ jl_R K' g' ∧ jt_lo fC fC' ∧ jt_hi fR fR' ∧ jE K K' ∧ jKs K K' fC
section LS
variable {Z : jx_Sc} {d mC mR : Nat} {as : List jx_V} {K : jy_K} {g : jy_R} {fC fR : jy_I} {cc n : Nat}
theorem jL.same {a : Int32} (hI : jI K g fC fR cc n) (hR : jl_R K g) (h1 : jx_m Z d mC (.inr (some (K.2.1 0 0)) :: as) (jy_w K fC g) = some (some (.inl a), jy_w K fC g)) (h2 : jx_m Z d mR (.inr (some (K.2.1 20 0)) :: as) (jy_w K fR g) = some (some (.inl a), jy_w K fR g)) : jL Z d mC mR as K g fC fR :=
  ⟨a, K, g, fC, fR, cc, n, h1, h2, hI, hR, jt_lo.rfl', jt_hi.rfl', jE.rfl', Or.inl rfl⟩
theorem jL.only {a : Int32} {fC' fR' : jy_I} (hR : jl_R K g) (h1 : jx_m Z d mC (.inr (some (K.2.1 0 0)) :: as) (jy_w K fC g) = some (some (.inl a), jy_w K fC' g)) (h2 : jx_m Z d mR (.inr (some (K.2.1 20 0)) :: as) (jy_w K fR g) = some (some (.inl a), jy_w K fR' g)) (hI : jI K g fC' fR' cc n) (hl : jt_lo fC fC') (hh : jt_hi fR fR') : jL Z d mC mR as K g fC fR :=
  ⟨a, K, g, fC', fR', cc, n, h1, h2, hI, hR, hl, hh, jE.rfl', Or.inl rfl⟩
end LS
/-- the same for calls that make no cell -/
def jM (Z : jx_Sc) (dC dR mC mR : Nat) (as : List jx_V) (K : jy_K) (g : jy_R) (fC fR : jy_I) (cc n : Nat) : Prop := ∃ (a : Int32) (fC' fR' : jy_I), jx_m Z dC mC (.inr (some (K.2.1 0 0)) :: as) (jy_w K fC g) = some (some (.inl a), jy_w K fC' g) ∧ jx_m Z dR mR (.inr (some (K.2.1 20 0)) :: as) (jy_w K fR g) = some (some (.inl a), jy_w K fR' g) ∧ jI K g fC' fR' cc n ∧ jt_lo fC fC' ∧ jt_hi fR fR'
section MS
variable {Z : jx_Sc} {dC dR d mC mR : Nat} {as : List jx_V} {K : jy_K} {g : jy_R} {fC fR : jy_I} {cc n : Nat}
theorem jM.same {a : Int32} (hI : jI K g fC fR cc n) (h1 : jx_m Z dC mC (.inr (some (K.2.1 0 0)) :: as) (jy_w K fC g) = some (some (.inl a), jy_w K fC g)) (h2 : jx_m Z dR mR (.inr (some (K.2.1 20 0)) :: as) (jy_w K fR g) = some (some (.inl a), jy_w K fR g)) : jM Z dC dR mC mR as K g fC fR cc n :=
  ⟨a, fC, fR, h1, h2, hI, jt_lo.rfl', jt_hi.rfl'⟩
theorem jM.only {a : Int32} {fC' fR' : jy_I} (h1 : jx_m Z dC mC (.inr (some (K.2.1 0 0)) :: as) (jy_w K fC g) = some (some (.inl a), jy_w K fC' g)) (h2 : jx_m Z dR mR (.inr (some (K.2.1 20 0)) :: as) (jy_w K fR g) = some (some (.inl a), jy_w K fR' g)) (hI : jI K g fC' fR' cc n) (hl : jt_lo fC fC') (hh : jt_hi fR fR') : jM Z dC dR mC mR as K g fC fR cc n :=
  ⟨a, fC', fR', h1, h2, hI, hl, hh⟩
theorem jM.L (hR : jl_R K g) (h : jM Z d d mC mR as K g fC fR cc n) : jL Z d mC mR as K g fC fR := by
  obtain ⟨a, fC', fR', h1, h2, hI, hl, hh⟩ := h
  exact ⟨a, K, g, fC', fR', cc, n, h1, h2, hI, hR, hl, hh, jE.rfl', Or.inl rfl⟩
end MS
theorem jz_usr {u : Int32} (h : ¬ (u < 0 ∨ 3 < u)) : ∃ k : Nat, u = nI k ∧ k < 4 := by
  rw [Int32.lt_iff_toInt_lt, Int32.lt_iff_toInt_lt, jz_0, jz_3] at h
  exact ⟨u.toNatClampNeg, (jz_nI (by omega)).symm, by rw [jz_cl]; omega⟩
theorem jz_4u {u : Int32} : (4 ≤ u) ↔ (3 < u) := by
  rw [Int32.le_iff_toInt_le, Int32.lt_iff_toInt_lt, jz_4, jz_3]
  omega
theorem jz_8u {u : Int32} : (8 ≤ u) ↔ (7 < u) := by
  rw [Int32.le_iff_toInt_le, Int32.lt_iff_toInt_lt, jz_8, jz_7]
  omega
theorem jz_rng {u : Int32} {m : Nat} (hm : m < 2 ^ 31) (h : ¬ (u < 0 ∨ nI m < u)) : ∃ k : Nat, u = nI k ∧ k ≤ m := by
  rw [Int32.lt_iff_toInt_lt, Int32.lt_iff_toInt_lt, jz_0, nI_toInt hm] at h
  exact ⟨u.toNatClampNeg, (jz_nI (by omega)).symm, by rw [jz_cl]; omega⟩
theorem jz_coi {c : Int32} {cc : Nat} (h8 : cc ≤ 8) (h : ¬ (c < 0 ∨ nI cc ≤ c)) : ∃ k : Nat, c = nI k ∧ k < cc := by
  rw [Int32.lt_iff_toInt_lt, Int32.le_iff_toInt_le, jz_0, nI_toInt (by omega)] at h
  exact ⟨c.toNatClampNeg, (jz_nI (by omega)).symm, by rw [jz_cl]; omega⟩
theorem jz_bl {b : Int32} {n : Nat} (h24 : n ≤ 24) (h : ¬ (b < 1 ∨ nI n < b)) : ∃ k : Nat, b = nI k ∧ 1 ≤ k ∧ k ≤ n := by
  rw [Int32.lt_iff_toInt_lt, Int32.lt_iff_toInt_lt, jz_1, nI_toInt (by omega)] at h
  exact ⟨b.toNatClampNeg, (jz_nI (by omega)).symm, by rw [jz_cl]; omega, by rw [jz_cl]; omega⟩
