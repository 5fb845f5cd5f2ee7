/-! one step, a run, a method: soundness -/
theorem jx_nn {q : jx_S ⊕ jx_T} {P : Prop} (h : (none : jx_O) = some q) : P := by cases h
theorem ja_ir_some {X : jx_X} {st : List jx_V} {w : jx_W} {q : jx_S ⊕ jx_T} (h : ja_ir X st w = some q) : ∃ x, st = [.inl x] ∧ q = .inr (some (.inl x), w) ∧ (X.2.2.2.1 = some .int ∨ (X.2.2.2.1 = some .boolean ∧ (x = 0 ∨ x = 1))) := by
  unfold ja_ir at h
  split at h
  · split at h
    · cases h
      exact ⟨_, rfl, rfl, Or.inl (by assumption)⟩
    · split at h
      · cases h
        exact ⟨_, rfl, rfl, Or.inr ⟨by assumption, by assumption⟩⟩
      · cases h
    · cases h
  · cases h
theorem ja_ar_some {X : jx_X} {st : List jx_V} {w : jx_W} {q : jx_S ⊕ jx_T} (h : ja_ar X st w = some q) : ∃ r C, st = [.inr r] ∧ q = .inr (some (.inr r), w) ∧ X.2.2.2.1 = some (.object C) := by
  unfold ja_ar at h
  split at h
  · split at h
    · cases h
      exact ⟨_, _, rfl, rfl, by assumption⟩
    · cases h
  · cases h
theorem ja_vr_some {X : jx_X} {st : List jx_V} {w : jx_W} {q : jx_S ⊕ jx_T} (h : ja_vr X st w = some q) : st = [] ∧ q = .inr (none, w) ∧ X.2.2.2.1 = none := by
  unfold ja_vr at h
  split at h
  · split at h
    · cases h
      exact ⟨rfl, rfl, by assumption⟩
    · cases h
  · cases h
def jx_le (w w' : jx_W) : Prop := w.2.1 ≤ w'.2.1 ∧ w.2.2 ≤ w'.2.2
def jx_dst (q : jx_S ⊕ jx_T) : jx_W := match q with
  | .inl s => s.2.2.2
  | .inr t => t.2
theorem jx_mcl {call : jx_C} (hC : ∀ k as w t, call k as w = some t → jx_le w t.2) {qq : Nat × Nat × Nat} {pc : Nat} {lv : jx_L} {st : List jx_V} {w : jx_W} {q : jx_S ⊕ jx_T} (h : jx_cl call qq pc lv st w = some q) : jx_le w (jx_dst q) := by
  obtain ⟨t1, -, -, hcall, rfl⟩ := jx_cl_some h
  exact hC _ _ _ _ hcall
theorem jx_mono {Z : jx_Sc} {X : jx_X} {call : jx_C} (hC : ∀ k as w t, call k as w = some t → jx_le w t.2) {i : Instr} {n pc : Nat} {lv : jx_L} {st : List jx_V} {w : jx_W} {q : jx_S ⊕ jx_T} (h : jx_I Z X call i n pc lv st w = some q) : jx_le w (jx_dst q) := by
  cases i with
  | iconst _ => cases jx_go_some (jx_k_some h).2; exact ⟨Nat.le_refl _, Nat.le_refl _⟩
  | bipush _ => cases jx_go_some (jx_k_some h).2; exact ⟨Nat.le_refl _, Nat.le_refl _⟩
  | sipush _ => cases jx_go_some (jx_k_some h).2; exact ⟨Nat.le_refl _, Nat.le_refl _⟩
  | aconst_null => cases jx_go_some (jx_k_some h).2; exact ⟨Nat.le_refl _, Nat.le_refl _⟩
  | iload_n _ => obtain ⟨_, -, rfl⟩ := ja_li_some (jx_k_some h).2; exact ⟨Nat.le_refl _, Nat.le_refl _⟩
  | iload _ => obtain ⟨_, -, rfl⟩ := ja_li_some (jx_k_some h).2; exact ⟨Nat.le_refl _, Nat.le_refl _⟩
  | aload_n _ => obtain ⟨_, -, rfl⟩ := ja_la_some (jx_k_some h).2; exact ⟨Nat.le_refl _, Nat.le_refl _⟩
  | aload _ => obtain ⟨_, -, rfl⟩ := ja_la_some (jx_k_some h).2; exact ⟨Nat.le_refl _, Nat.le_refl _⟩
  | istore_n _ => obtain ⟨_, _, -, -, rfl⟩ := ja_si_some (jx_k_some h).2; exact ⟨Nat.le_refl _, Nat.le_refl _⟩
  | istore _ => obtain ⟨_, _, -, -, rfl⟩ := ja_si_some (jx_k_some h).2; exact ⟨Nat.le_refl _, Nat.le_refl _⟩
  | astore_n _ => obtain ⟨_, _, -, -, rfl⟩ := ja_sa_some (jx_k_some h).2; exact ⟨Nat.le_refl _, Nat.le_refl _⟩
  | astore _ => obtain ⟨_, _, -, -, rfl⟩ := ja_sa_some (jx_k_some h).2; exact ⟨Nat.le_refl _, Nat.le_refl _⟩
  | iinc _ _ => obtain ⟨_, -, -, rfl⟩ := ja_ii_some (jx_k_some h).2; exact ⟨Nat.le_refl _, Nat.le_refl _⟩
  | iadd => obtain ⟨_, _, _, -, rfl⟩ := ja_b2_some (jx_k_some h).2; exact ⟨Nat.le_refl _, Nat.le_refl _⟩
  | isub => obtain ⟨_, _, _, -, rfl⟩ := ja_b2_some (jx_k_some h).2; exact ⟨Nat.le_refl _, Nat.le_refl _⟩
  | imul => obtain ⟨_, _, _, -, rfl⟩ := ja_b2_some (jx_k_some h).2; exact ⟨Nat.le_refl _, Nat.le_refl _⟩
  | iand => obtain ⟨_, _, _, -, rfl⟩ := ja_b2_some (jx_k_some h).2; exact ⟨Nat.le_refl _, Nat.le_refl _⟩
  | ior => obtain ⟨_, _, _, -, rfl⟩ := ja_b2_some (jx_k_some h).2; exact ⟨Nat.le_refl _, Nat.le_refl _⟩
  | ixor => obtain ⟨_, _, _, -, rfl⟩ := ja_b2_some (jx_k_some h).2; exact ⟨Nat.le_refl _, Nat.le_refl _⟩
  | ishl => obtain ⟨_, _, _, -, rfl⟩ := ja_b2_some (jx_k_some h).2; exact ⟨Nat.le_refl _, Nat.le_refl _⟩
  | ishr => obtain ⟨_, _, _, -, rfl⟩ := ja_b2_some (jx_k_some h).2; exact ⟨Nat.le_refl _, Nat.le_refl _⟩
  | iushr => obtain ⟨_, _, _, -, rfl⟩ := ja_b2_some (jx_k_some h).2; exact ⟨Nat.le_refl _, Nat.le_refl _⟩
  | idiv => obtain ⟨_, _, _, -, -, rfl⟩ := ja_b0_some (jx_k_some h).2; exact ⟨Nat.le_refl _, Nat.le_refl _⟩
  | irem => obtain ⟨_, _, _, -, -, rfl⟩ := ja_b0_some (jx_k_some h).2; exact ⟨Nat.le_refl _, Nat.le_refl _⟩
  | ineg => obtain ⟨_, _, -, rfl⟩ := ja_neg_some (jx_k_some h).2; exact ⟨Nat.le_refl _, Nat.le_refl _⟩
  | dup => obtain ⟨_, _, -, rfl⟩ := ja_dup_some (jx_k_some h).2; exact ⟨Nat.le_refl _, Nat.le_refl _⟩
  | dup2 => obtain ⟨_, _, _, -, rfl⟩ := ja_dup2_some (jx_k_some h).2; exact ⟨Nat.le_refl _, Nat.le_refl _⟩
  | pop => obtain ⟨_, _, -, rfl⟩ := ja_pop_some (jx_k_some h).2; exact ⟨Nat.le_refl _, Nat.le_refl _⟩
  | ifCond _ _ => obtain ⟨_, _, -, _, -, rfl⟩ := ja_if_some (jx_k_some h).2; exact ⟨Nat.le_refl _, Nat.le_refl _⟩
  | if_icmp _ _ => obtain ⟨_, _, _, -, _, -, rfl⟩ := ja_ic_some (jx_k_some h).2; exact ⟨Nat.le_refl _, Nat.le_refl _⟩
  | ifnull _ => obtain ⟨_, _, -, _, -, rfl⟩ := ja_nl_some (jx_k_some h).2; exact ⟨Nat.le_refl _, Nat.le_refl _⟩
  | ifnonnull _ => obtain ⟨_, _, -, _, -, rfl⟩ := ja_nn_some (jx_k_some h).2; exact ⟨Nat.le_refl _, Nat.le_refl _⟩
  | goto _ => obtain ⟨_, -, rfl⟩ := jx_br_some (jx_k_some h).2; exact ⟨Nat.le_refl _, Nat.le_refl _⟩
  | tableswitch _ _ _ _ => obtain ⟨_, _, -, _, -, _, -, rfl⟩ := ja_ts_some h; exact ⟨Nat.le_refl _, Nat.le_refl _⟩
  | ldc _ => obtain ⟨_, -, rfl⟩ := ja_lc_some (jx_k_some h).2; exact ⟨Nat.le_refl _, Nat.le_refl _⟩
  | getfield _ => obtain ⟨_, _, _, _, _, _, _, -, -, -, rfl⟩ := ja_gf_some (jx_k_some h).2; exact ⟨Nat.le_refl _, Nat.le_refl _⟩
  | putfield _ => obtain ⟨_, _, _, _, _, _, _, _, -, -, -, -, hw, rfl⟩ := ja_pf_some (jx_k_some h).2; obtain ⟨_, -, -, rfl⟩ := jx_sF_some hw; exact ⟨Nat.le_refl _, Nat.le_refl _⟩
  | iaload => obtain ⟨_, _, _, _, -, -, rfl⟩ := ja_al_some (jx_k_some h).2; exact ⟨Nat.le_refl _, Nat.le_refl _⟩
  | baload => obtain ⟨_, _, _, _, -, -, rfl⟩ := ja_al_some (jx_k_some h).2; exact ⟨Nat.le_refl _, Nat.le_refl _⟩
  | iastore => obtain ⟨_, _, _, _, _, -, -, hw, rfl⟩ := ja_as_some (jx_k_some h).2; obtain ⟨_, _, -, -, rfl⟩ := jx_sI_some hw; exact ⟨Nat.le_refl _, Nat.le_refl _⟩
  | bastore => obtain ⟨_, _, _, _, _, -, -, hw, rfl⟩ := ja_as_some (jx_k_some h).2; obtain ⟨_, _, -, -, rfl⟩ := jx_sI_some hw; exact ⟨Nat.le_refl _, Nat.le_refl _⟩
  | aaload => obtain ⟨_, _, _, _, -, -, rfl⟩ := ja_rl_some (jx_k_some h).2; exact ⟨Nat.le_refl _, Nat.le_refl _⟩
  | aastore => obtain ⟨_, _, _, _, _, -, hw, rfl⟩ := ja_rs_some (jx_k_some h).2; obtain ⟨_, _, _, -, -, -, rfl⟩ := jx_sA_some hw; exact ⟨Nat.le_refl _, Nat.le_refl _⟩
  | arraylength => obtain ⟨_, _, _, -, -, rfl⟩ := ja_len_some (jx_k_some h).2; exact ⟨Nat.le_refl _, Nat.le_refl _⟩
  | newarray _ => obtain ⟨_, _, _, -, -, -, -, rfl⟩ := ja_na_some (jx_k_some h).2; exact ⟨Nat.le_add_right _ _, Nat.le_add_right _ _⟩
  | anewarray _ => obtain ⟨_, _, _, -, -, -, -, rfl⟩ := ja_ra_some (jx_k_some h).2; exact ⟨Nat.le_add_right _ _, Nat.le_add_right _ _⟩
  | new _ => obtain ⟨_, _, -, rfl⟩ := ja_nw_some (jx_k_some h).2; exact ⟨Nat.le_add_right _ _, Nat.le_add_right _ _⟩
  | invokestatic _ =>
    rcases ja_is_some (jx_k_some h).2 with ⟨_, -, h⟩ | ⟨_, _, _, _, -, -, -, rfl⟩
    · exact jx_mcl hC h
    · exact ⟨Nat.le_refl _, Nat.le_refl _⟩
  | invokevirtual _ =>
    obtain ⟨_, _, _, -, -, -, h⟩ := ja_iv_some (jx_k_some h).2
    exact jx_mcl hC h
  | invokespecial _ =>
    rcases ja_in_some (jx_k_some h).2 with ⟨_, _, -, -, h⟩ | ⟨_, _, -, -, -, rfl⟩
    · exact jx_mcl hC h
    · exact ⟨Nat.le_refl _, Nat.le_refl _⟩
  | ireturn => obtain ⟨_, -, rfl, -⟩ := ja_ir_some (jx_k_some h).2; exact ⟨Nat.le_refl _, Nat.le_refl _⟩
  | areturn => obtain ⟨_, _, -, rfl, -⟩ := ja_ar_some (jx_k_some h).2; exact ⟨Nat.le_refl _, Nat.le_refl _⟩
  | return_ => obtain ⟨-, rfl, -⟩ := ja_vr_some (jx_k_some h).2; exact ⟨Nat.le_refl _, Nat.le_refl _⟩
  | _ => exact jx_nn h
theorem jx_out {Z : jx_Sc} {X : jx_X} {call : jx_C} {i : Instr} {n pc : Nat} {lv : jx_L} {st : List jx_V} {w : jx_W} {t : jx_T} (h : jx_I Z X call i n pc lv st w = some (.inr t)) : i = .ireturn ∨ i = .areturn ∨ i = .return_ := by
  cases i with
  | iconst _ => cases jx_go_some (jx_k_some h).2
  | bipush _ => cases jx_go_some (jx_k_some h).2
  | sipush _ => cases jx_go_some (jx_k_some h).2
  | aconst_null => cases jx_go_some (jx_k_some h).2
  | iload_n _ => obtain ⟨_, -, hh⟩ := ja_li_some (jx_k_some h).2; cases hh
  | iload _ => obtain ⟨_, -, hh⟩ := ja_li_some (jx_k_some h).2; cases hh
  | aload_n _ => obtain ⟨_, -, hh⟩ := ja_la_some (jx_k_some h).2; cases hh
  | aload _ => obtain ⟨_, -, hh⟩ := ja_la_some (jx_k_some h).2; cases hh
  | istore_n _ => obtain ⟨_, _, -, -, hh⟩ := ja_si_some (jx_k_some h).2; cases hh
  | istore _ => obtain ⟨_, _, -, -, hh⟩ := ja_si_some (jx_k_some h).2; cases hh
  | astore_n _ => obtain ⟨_, _, -, -, hh⟩ := ja_sa_some (jx_k_some h).2; cases hh
  | astore _ => obtain ⟨_, _, -, -, hh⟩ := ja_sa_some (jx_k_some h).2; cases hh
  | iinc _ _ => obtain ⟨_, -, -, hh⟩ := ja_ii_some (jx_k_some h).2; cases hh
  | iadd => obtain ⟨_, _, _, -, hh⟩ := ja_b2_some (jx_k_some h).2; cases hh
  | isub => obtain ⟨_, _, _, -, hh⟩ := ja_b2_some (jx_k_some h).2; cases hh
  | imul => obtain ⟨_, _, _, -, hh⟩ := ja_b2_some (jx_k_some h).2; cases hh
  | iand => obtain ⟨_, _, _, -, hh⟩ := ja_b2_some (jx_k_some h).2; cases hh
  | ior => obtain ⟨_, _, _, -, hh⟩ := ja_b2_some (jx_k_some h).2; cases hh
  | ixor => obtain ⟨_, _, _, -, hh⟩ := ja_b2_some (jx_k_some h).2; cases hh
  | ishl => obtain ⟨_, _, _, -, hh⟩ := ja_b2_some (jx_k_some h).2; cases hh
  | ishr => obtain ⟨_, _, _, -, hh⟩ := ja_b2_some (jx_k_some h).2; cases hh
  | iushr => obtain ⟨_, _, _, -, hh⟩ := ja_b2_some (jx_k_some h).2; cases hh
  | idiv => obtain ⟨_, _, _, -, -, hh⟩ := ja_b0_some (jx_k_some h).2; cases hh
  | irem => obtain ⟨_, _, _, -, -, hh⟩ := ja_b0_some (jx_k_some h).2; cases hh
  | ineg => obtain ⟨_, _, -, hh⟩ := ja_neg_some (jx_k_some h).2; cases hh
  | dup => obtain ⟨_, _, -, hh⟩ := ja_dup_some (jx_k_some h).2; cases hh
  | dup2 => obtain ⟨_, _, _, -, hh⟩ := ja_dup2_some (jx_k_some h).2; cases hh
  | pop => obtain ⟨_, _, -, hh⟩ := ja_pop_some (jx_k_some h).2; cases hh
  | ifCond _ _ => obtain ⟨_, _, -, _, -, hh⟩ := ja_if_some (jx_k_some h).2; cases hh
  | if_icmp _ _ => obtain ⟨_, _, _, -, _, -, hh⟩ := ja_ic_some (jx_k_some h).2; cases hh
  | ifnull _ => obtain ⟨_, _, -, _, -, hh⟩ := ja_nl_some (jx_k_some h).2; cases hh
  | ifnonnull _ => obtain ⟨_, _, -, _, -, hh⟩ := ja_nn_some (jx_k_some h).2; cases hh
  | goto _ => obtain ⟨_, -, hh⟩ := jx_br_some (jx_k_some h).2; cases hh
  | tableswitch _ _ _ _ => obtain ⟨_, _, -, _, -, _, -, hh⟩ := ja_ts_some h; cases hh
  | ldc _ => obtain ⟨_, -, hh⟩ := ja_lc_some (jx_k_some h).2; cases hh
  | getfield _ => obtain ⟨_, _, _, _, _, _, _, -, -, -, hh⟩ := ja_gf_some (jx_k_some h).2; cases hh
  | putfield _ => obtain ⟨_, _, _, _, _, _, _, _, -, -, -, -, hw, hh⟩ := ja_pf_some (jx_k_some h).2; cases hh
  | iaload => obtain ⟨_, _, _, _, -, -, hh⟩ := ja_al_some (jx_k_some h).2; cases hh
  | baload => obtain ⟨_, _, _, _, -, -, hh⟩ := ja_al_some (jx_k_some h).2; cases hh
  | iastore => obtain ⟨_, _, _, _, _, -, -, hw, hh⟩ := ja_as_some (jx_k_some h).2; cases hh
  | bastore => obtain ⟨_, _, _, _, _, -, -, hw, hh⟩ := ja_as_some (jx_k_some h).2; cases hh
  | aaload => obtain ⟨_, _, _, _, -, -, hh⟩ := ja_rl_some (jx_k_some h).2; cases hh
  | aastore => obtain ⟨_, _, _, _, _, -, hw, hh⟩ := ja_rs_some (jx_k_some h).2; cases hh
  | arraylength => obtain ⟨_, _, _, -, -, hh⟩ := ja_len_some (jx_k_some h).2; cases hh
  | newarray _ => obtain ⟨_, _, _, -, -, -, -, hh⟩ := ja_na_some (jx_k_some h).2; cases hh
  | anewarray _ => obtain ⟨_, _, _, -, -, -, -, hh⟩ := ja_ra_some (jx_k_some h).2; cases hh
  | new _ => obtain ⟨_, _, -, hh⟩ := ja_nw_some (jx_k_some h).2; cases hh
  | invokestatic _ =>
    rcases ja_is_some (jx_k_some h).2 with ⟨_, -, h⟩ | ⟨_, _, _, _, -, -, -, hh⟩
    · obtain ⟨_, -, -, -, hh⟩ := jx_cl_some h
      cases hh
    · cases hh
  | invokevirtual _ =>
    obtain ⟨_, _, _, -, -, -, h⟩ := ja_iv_some (jx_k_some h).2
    obtain ⟨_, -, -, -, hh⟩ := jx_cl_some h
    cases hh
  | invokespecial _ =>
    rcases ja_in_some (jx_k_some h).2 with ⟨_, _, -, -, h⟩ | ⟨_, _, -, -, -, hh⟩
    · obtain ⟨_, -, -, -, hh⟩ := jx_cl_some h
      cases hh
    · cases hh
  | ireturn => exact Or.inl rfl
  | areturn => exact Or.inr (Or.inl rfl)
  | return_ => exact Or.inr (Or.inr rfl)
  | _ => exact jx_nn h
theorem jx_mono_ex {Z : jx_Sc} {X : jx_X} {call : jx_C} (hC : ∀ k as w t, call k as w = some t → jx_le w t.2) (f : Nat) : ∀ (s : jx_S) (t : jx_T), jx_ex Z X call f s = some t → jx_le s.2.2.2 t.2 := by
  induction f with
  | zero => intro s t h; simp [jx_ex] at h
  | succ f ih =>
    intro s t h
    simp only [jx_ex] at h
    cases hn : jx_nxt Z X call s with
    | none => rw [hn] at h; cases h
    | some q =>
      rw [hn] at h
      have h1 : jx_le s.2.2.2 (jx_dst q) := by
        unfold jx_nxt at hn
        split at hn
        · exact jx_mono hC hn
        · cases hn
      cases q with
      | inl s' =>
        have h2 := ih s' t h
        exact ⟨Nat.le_trans h1.1 h2.1, Nat.le_trans h1.2 h2.2⟩
      | inr r =>
        cases h
        exact h1
theorem jx_mono_m {Z : jx_Sc} (d : Nat) : ∀ k as w t, jx_m Z d k as w = some t → jx_le w t.2 := by
  induction d with
  | zero => intro k as w t h; simp [jx_m] at h
  | succ d ih =>
    intro k as w t h
    obtain ⟨d', y, X, n, hd, -, -, hr⟩ := jx_m_some h
    cases hd
    obtain ⟨f, hf⟩ := jx_run_iff.mp hr
    exact jx_mono_ex ih f _ t hf
section JE
variable {p : Program} {l : Launch} {e : Env} {R : Room} {s : State} {m : MethodId} {args : Array Value} {below : List Frame} {meth : Method} {c : Code} {Qf : State → Prop}
variable {d b0 : Nat} {Z : jx_Sc} {D : va_G} {kA : Nat → ClassId} {X : jx_X} {t : jx_T} {pc n : Nat} {lv : jx_L} {st : List jx_V} {w : jx_W} {q : jx_S ⊕ jx_T} {call : jx_C}
theorem jx_step {i : Instr} (hF : jx_Fx d b0 Z D kA X p R s m args meth c) (hC : ∀ k as w t1, call k as w = some t1 → jx_Met l d b0 Z D kA k as w t1) (hd : decode X.2.1 pc = .ok (i, n)) (h : jx_I Z X call i n pc lv st w = some q) (hq : jx_To p l e R s m args below meth c Qf b0 D kA X t q) : jx_Go p l e R s m args below meth c Qf b0 D kA X t pc lv st w := by
  cases i with
  | iconst _ => exact js_iconst hF hd h hq
  | bipush _ => exact js_bipush hF hd h hq
  | sipush _ => exact js_sipush hF hd h hq
  | aconst_null => exact js_aconst_null hF hd h hq
  | ldc _ => exact js_ldc hF hd h hq
  | iload_n _ => exact js_iload_n hF hd h hq
  | iload _ => exact js_iload hF hd h hq
  | aload_n _ => exact js_aload_n hF hd h hq
  | aload _ => exact js_aload hF hd h hq
  | istore_n _ => exact js_istore_n hF hd h hq
  | istore _ => exact js_istore hF hd h hq
  | astore_n _ => exact js_astore_n hF hd h hq
  | astore _ => exact js_astore hF hd h hq
  | iinc _ _ => exact js_iinc hF hd h hq
  | iadd => exact js_iadd hF hd h hq
  | isub => exact js_isub hF hd h hq
  | imul => exact js_imul hF hd h hq
  | iand => exact js_iand hF hd h hq
  | ior => exact js_ior hF hd h hq
  | ixor => exact js_ixor hF hd h hq
  | ishl => exact js_ishl hF hd h hq
  | ishr => exact js_ishr hF hd h hq
  | iushr => exact js_iushr hF hd h hq
  | idiv => exact js_idiv hF hd h hq
  | irem => exact js_irem hF hd h hq
  | ineg => exact js_ineg hF hd h hq
  | dup => exact js_dup hF hd h hq
  | dup2 => exact js_dup2 hF hd h hq
  | pop => exact js_pop hF hd h hq
  | ifnull _ => exact js_ifnull hF hd h hq
  | ifnonnull _ => exact js_ifnonnull hF hd h hq
  | goto _ => exact js_goto hF hd h hq
  | tableswitch _ _ _ _ => exact js_tableswitch hF hd h hq
  | getfield _ => exact js_getfield hF hd h hq
  | putfield _ => exact js_putfield hF hd h hq
  | iaload => exact js_iaload hF hd h hq
  | iastore => exact js_iastore hF hd h hq
  | baload => exact js_baload hF hd h hq
  | bastore => exact js_bastore hF hd h hq
  | aaload => exact js_aaload hF hd h hq
  | aastore => exact js_aastore hF hd h hq
  | arraylength => exact js_arraylength hF hd h hq
  | newarray _ => exact js_newarray hF hd h hq
  | anewarray _ => exact js_anewarray hF hd h hq
  | new _ => exact js_new hF hd h hq
  | invokestatic _ => exact js_invokestatic hF hC hd h hq
  | invokevirtual _ => exact js_invokevirtual hF hC hd h hq
  | invokespecial _ => exact js_invokespecial hF hC hd h hq
  | ifCond cd _ =>
    cases cd with
    | eq => exact js_if_eq hF hd h hq
    | ne => exact js_if_ne hF hd h hq
    | lt => exact js_if_lt hF hd h hq
    | ge => exact js_if_ge hF hd h hq
    | gt => exact js_if_gt hF hd h hq
    | le => exact js_if_le hF hd h hq
  | if_icmp cd _ =>
    cases cd with
    | eq => exact js_icmp_eq hF hd h hq
    | ne => exact js_icmp_ne hF hd h hq
    | lt => exact js_icmp_lt hF hd h hq
    | ge => exact js_icmp_ge hF hd h hq
    | gt => exact js_icmp_gt hF hd h hq
    | le => exact js_icmp_le hF hd h hq
  | ireturn =>
    obtain ⟨_, -, rfl, -⟩ := ja_ir_some (jx_k_some h).2
    exact hq.elim
  | areturn =>
    obtain ⟨_, _, -, rfl, -⟩ := ja_ar_some (jx_k_some h).2
    exact hq.elim
  | return_ =>
    obtain ⟨-, rfl, -⟩ := ja_vr_some (jx_k_some h).2
    exact hq.elim
  | _ => exact jx_nn h
theorem jx_runs (hF : jx_Fx d b0 Z D kA X p R s m args meth c) (hC : ∀ k as w t1, call k as w = some t1 → jx_Met l d b0 Z D kA k as w t1)
    (hret : ∀ pc lv st w, jx_nxt Z X call (pc, lv, st, w) = some (.inr t) → jx_Go p l e R s m args below meth c Qf b0 D kA X t pc lv st w) (f : Nat) : ∀ pc lv st w, jx_ex Z X call f (pc, lv, st, w) = some t → jx_Go p l e R s m args below meth c Qf b0 D kA X t pc lv st w := by
  induction f with
  | zero => intro pc lv st w h; simp [jx_ex] at h
  | succ f ih =>
    intro pc lv st w h
    simp only [jx_ex] at h
    cases hn : jx_nxt Z X call (pc, lv, st, w) with
    | none => rw [hn] at h; cases h
    | some q =>
      rw [hn] at h
      cases q with
      | inl s' =>
        obtain ⟨pc', lv', st', w'⟩ := s'
        have hG := ih pc' lv' st' w' h
        unfold jx_nxt at hn
        split at hn
        · rename_i i n hd
          exact jx_step hF hC hd hn hG
        · cases hn
      | inr r =>
        cases h
        exact hret pc lv st w hn
/-- a method's return -/
theorem jx_ret (hF : jx_Fx d b0 Z D kA X p R s m args meth c) (hr : meth.sig.returnType = X.2.2.2.1) (hlocks : meth.locks = false) (h : jx_nxt Z X call (pc, lv, st, w) = some (.inr t)) : jx_Go p l e R s m args below meth c (MQ below (jx_Q b0 D kA t) args s R.cells R.slots (fun a => b0 ≤ a)) b0 D kA X t pc lv st w := by
  unfold jx_nxt at h
  split at h
  · rename_i i n hd
    dsimp only at h hd
    have key := jx_out h
    have fin : t.2 = w → (∀ (ls : Array Slot) (H : Heap) (locs : List Loc), jx_R b0 D kA w H → va_S (fun a => b0 ≤ a) s.heap H locs → W p l e R s m args below meth c H locs R.cells R.slots (MQ below (jx_Q b0 D kA t) args s R.cells R.slots (fun a => b0 ≤ a)) (F0 m pc ls (st.map jx_v))) → jx_Go p l e R s m args below meth c (MQ below (jx_Q b0 D kA t) args s R.cells R.slots (fun a => b0 ≤ a)) b0 D kA X t pc lv st w := by
      intro hw k
      subst hw
      refine ⟨Nat.le_refl _, Nat.le_refl _, fun ls H locs cells slots hl hR hS hc hs => ?_⟩
      rw [Nat.sub_self, Nat.add_zero] at hc hs
      subst hc
      subst hs
      exact k ls H locs hR hS
    obtain ⟨hx, hb, -⟩ := hF
    rcases key with rfl | rfl | rfl
    · obtain ⟨rfl, h⟩ := jx_k_some h
      obtain ⟨x, rfl, ht, hty⟩ := ja_ir_some h
      cases ht
      refine fin rfl (fun ls H locs hR hS => ?_)
      rcases hty with hty | ⟨hty, h01⟩
      · exact W.iret hx hb (hr.trans hty) (fun u hu hW => ⟨rfl, by rw [hu]; exact hR, hS.F hu⟩) hS.2.2 hd hlocks
      · refine W.zret hx hb (hr.trans hty) ?_ (fun u hu hW => ⟨rfl, by rw [hu]; exact hR, hS.F hu⟩) hS.2.2 hd hlocks
        rcases h01 with rfl | rfl <;> first | rfl | decide
    · obtain ⟨rfl, h⟩ := jx_k_some h
      obtain ⟨r, C, rfl, ht, hty⟩ := ja_ar_some h
      cases ht
      refine fin rfl (fun ls H locs hR hS => ?_)
      exact W.aret hx hb (hr.trans hty) (Or.inl ⟨_, rfl⟩) (by cases r with | none => exact Or.inl rfl | some a => exact Or.inr ⟨a, rfl⟩) (fun u hu hW => ⟨rfl, by rw [hu]; exact hR, hS.F hu⟩) hS.2.2 hd hlocks
    · obtain ⟨rfl, h⟩ := jx_k_some h
      obtain ⟨rfl, ht, hty⟩ := ja_vr_some h
      cases ht
      refine fin rfl (fun ls H locs hR hS => ?_)
      exact W.vret hx hb (hr.trans hty) (fun u hu hW => ⟨rfl, by rw [hu]; exact hR, hS.F hu⟩) hS.2.2 hd hlocks
  · cases h
end JE
theorem jx_sound {l : Launch} {b0 : Nat} {Z : jx_Sc} {D : va_G} {kA : Nat → ClassId} (hZ : Z.1 < b0) (d : Nat) : ∀ k as w t, jx_m Z d k as w = some t → jx_Met l d b0 Z D kA k as w t := by
  induction d with
  | zero => intro k as w t h; simp [jx_m] at h
  | succ d ih =>
    intro k as w t h
    have hm := jx_mono_m _ k as w t h
    refine ⟨hm.1, hm.2, fun y X n hM => ?_⟩
    obtain ⟨d', y', X', n', hd', hM', hn, hr⟩ := jx_m_some h
    cases hd'
    cases hM.symm.trans hM'
    obtain ⟨f, hf⟩ := jx_run_iff.mp hr
    obtain ⟨hy, hyc, hinit, -, -, -, -, hnl⟩ := jt_M_ok _ (List.mem_of_getElem? hM)
    dsimp only at hy hyc hinit hnl
    refine Met.ofW (cc := X.2.1) (maxL := X.2.2.1) (ret := X.2.2.2.1) hy rfl ?_
    intro p e s m args below meth c s₁ B hml hP
    obtain ⟨rfl, hR, hK, hX⟩ := hP
    have hts := atoms_spec (ws := Cond.code y X.2.1 X.2.2.1 X.2.2.2.1 :: jt_G) B.pre
    have hown : s.vm.findClass (jt_cn X.1) = some m.cls := hyc ▸ findClass_of_methodNamed B.named
    have hF : jx_Fx d b0 Z D kA X p { frames := d + 1, cells := t.2.2.1 - w.2.1, slots := t.2.2.2 - w.2.2, locals := 38 * (d + 1) } s m ((as.map jx_v).toArray) meth c :=
      ⟨B.exec, B.bytes, hml, hown, fun w hw => hts w (List.mem_cons_of_mem _ hw), fun hi => (name_of_methodNamed B.named B.method).1.trans (hinit hi), hK, Nat.le_refl _, Nat.le_refl _, by rw [hR.1]; exact hR.2.1, hX, hZ⟩
    have hG := jx_runs (l := l) (e := e) (below := below) hF ih (fun pc lv st w' h' => jx_ret hF B.returns B.notSynchronized h') f 0 _ _ w hf
    have hsl : (lg_sl (as.map jx_v)).length ≤ X.2.2.1 := by rw [jx_sl, hn]; exact hnl
    have hl := lv_entry (as.map jx_v) hsl
    rw [← jx_ps_args as (X.2.2.1 - as.length) 0] at hl
    have := hG.2.2 _ s.heap [] 0 0 hl hR va_S.rf (Nat.zero_add _) (Nat.zero_add _)
    rw [lg_entry_eq]
    exact this
