/-! one call of the law: the class, then the reference on what the class left -/
def jy_mg (a b : jy_I) : jy_I := fun k => if k < 20 then a k else b k
theorem jy_mg_hi {a b : jy_I} : jt_hi a (jy_mg a b) := fun k h => if_pos h
theorem jy_mg_lo {a b : jy_I} : jt_lo b (jy_mg a b) := fun k h => if_neg (by omega)
theorem jy_fs_mx {a b : jy_I} {g g' : jy_R} {k i : Nat} : ∀ (l : List Bool) (s : Nat), jy_fs a g k i s l = jy_fs b g' k i s l → jy_fs a g' k i s l = jy_fs b g' k i s l
  | [], s, h => rfl
  | c :: l, s, h => by
    simp only [jy_fs, List.cons.injEq] at h ⊢
    refine ⟨?_, jy_fs_mx l (s + 1) h.2⟩
    cases c with
    | true => simp
    | false => simpa using h.1
theorem jy_c_mx {a b : jy_I} {g g' : jy_R} {k i : Nat} (h : jy_c a g k i = jy_c b g' k i) : jy_c a g' k i = jy_c b g' k i := by
  unfold jy_c at h ⊢
  split at h
  · rename_i e
    simpa [e] using h
  · rename_i e
    rfl
  · rename_i e
    simp only [Sum.inr.injEq, Prod.mk.injEq, true_and] at h ⊢
    exact jy_fs_mx _ _ h
theorem jy_w_ext {K : jy_K} {a b : jy_I} {g g' : jy_R} (h : ∀ x r, K.1 x = some r → jy_c a g r.1 r.2 = jy_c b g' r.1 r.2) : jy_w K a g = jy_w K b g' := by
  refine Prod.ext ?_ rfl
  funext x
  show (K.1 x).map _ = (K.1 x).map _
  cases e : K.1 x with
  | none => rfl
  | some r => exact congrArg some (h x r e)
theorem jy_w_at {K : jy_K} {a b : jy_I} {g g' : jy_R} (h : jy_w K a g = jy_w K b g') {x : Nat} {r : Nat × Nat} (e : K.1 x = some r) : jy_c a g r.1 r.2 = jy_c b g' r.1 r.2 := by
  have := congrFun (congrArg Prod.fst h) x
  change (K.1 x).map _ = (K.1 x).map _ at this
  rw [e] at this
  exact Option.some.inj this
theorem jL.two {Z : jx_Sc} {d mC mR : Nat} {as : List jx_V} {K : jy_K} {g : jy_R} {f : jy_I} {cc n : Nat} (hI : jI K g f f cc n) (h : ∀ fR, jI K g f fR cc n → jL Z d mC mR as K g f fR) : ∃ (a : Int32) (K' : jy_K) (g' : jy_R) (f1 f2 : jy_I) (cc' n' : Nat), jx_m Z d mC (.inr (some (K.2.1 0 0)) :: as) (jy_w K f g) = some (some (.inl a), jy_w K' f1 g') ∧ jx_m Z d mR (.inr (some (K.2.1 20 0)) :: as) (jy_w K' f1 g') = some (some (.inl a), jy_w K' f2 g') ∧ jI K' g' f2 f2 cc' n' ∧ jl_C K' g' cc' n' ∧ jl_R K' g' ∧ jE K K' := by
  obtain ⟨a1, K1, g1, f1, fR1, cc1, n1, c1, r1, I1, R1, lo1, hi1, E1, S1⟩ := h f hI
  have hI2 : jI K g f f1 cc n := hI.cong jt_hi.rfl' lo1
  obtain ⟨a2, K2, g2, f2, fR2, cc2, n2, c2, r2, I2, R2, lo2, hi2, E2, S2⟩ := h f1 hI2
  have ww : (some (Sum.inl a1 : jx_V), jy_w K1 f1 g1) = (some (Sum.inl a2), jy_w K2 f2 g2) := Option.some.inj (c1.symm.trans c2)
  have w : jy_w K1 f1 g1 = jy_w K2 f2 g2 := congrArg Prod.snd ww
  have eK : K1 = K2 := S1.eq S2 (congrArg (fun w => w.2.1) w)
  subst eK
  have w2 : jy_w K1 f1 g2 = jy_w K1 f2 g2 := jy_w_ext (fun x r e => jy_c_mx (jy_w_at w e))
  have w3 : jy_w K1 fR2 g2 = jy_w K1 (jy_mg f2 fR2) g2 := jy_w_ext (fun x r e => by
    have q := jy_w_at w2 e
    by_cases k : r.1 < 20
    · have e1 : fR2 r.1 = f1 r.1 := hi2 r.1 k
      have e2 : jy_mg f2 fR2 r.1 = f2 r.1 := if_pos k
      rw [jy_c_up (f' := f1) (g' := g2) (by rw [e1]) rfl, q]
      exact (jy_c_up (by rw [e2]) rfl).symm
    · have e2 : jy_mg f2 fR2 r.1 = fR2 r.1 := if_neg k
      exact (jy_c_up (by rw [e2]) rfl).symm)
  rw [w2, w3] at r2
  exact ⟨a2, K1, g2, f2, jy_mg f2 fR2, cc2, n2, c2, r2, I2.cong jy_mg_hi jy_mg_lo, I2.1, R2, E2⟩
