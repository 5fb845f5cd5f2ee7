/-! calls -/
theorem jx_cl_some {call : jx_C} {qq : Nat × Nat × Nat} {pc : Nat} {lv : jx_L} {st : List jx_V} {w : jx_W} {q : jx_S ⊕ jx_T} (h : jx_cl call qq pc lv st w = some q) : ∃ t1, qq.2.2 ≤ st.length ∧ (st.drop qq.2.2).length ≤ jx_bd qq.1 ∧ call qq.2.1 (st.take qq.2.2).reverse w = some t1 ∧ q = .inl (pc + 3, lv, t1.1.toList ++ st.drop qq.2.2, t1.2) := by
  unfold jx_cl at h
  split at h
  · rename_i hh
    split at h
    · rename_i t1 ht
      exact ⟨t1, hh.1, hh.2, ht, jx_go_some h⟩
    · cases h
  · cases h
theorem jx_rv_some {qq : Nat × Nat × Nat} {st : List jx_V} {a : Nat} (h : jx_rv qq st = some a) : st[qq.2.2 - 1]? = some (.inr (some a)) := by
  unfold jx_rv at h
  split at h
  · rename_i b hb
    cases h
    exact hb
  · cases h
theorem jx_is_some {w : jx_W} {a ci : Nat} (h : jx_is w a ci = true) : ∃ fs, w.1 a = some (.inr (ci, fs)) := by
  unfold jx_is at h
  split at h
  · rename_i c0 fs hc
    have : c0 = ci := by simpa using h
    subst this
    exact ⟨fs, hc⟩
  · cases h
/-- the stack at a call on an object -/
theorem jx_stk {st : List jx_V} {n a : Nat} (h : st[n]? = some (.inr (some a))) : (st.take (n + 1)).reverse = .inr (some a) :: (st.take n).reverse ∧ st = st.take n ++ .inr (some a) :: st.drop (n + 1) := by
  have h1 : st.take (n + 1) = st.take n ++ [.inr (some a)] := by rw [List.take_add_one, h]; rfl
  refine ⟨by rw [h1, List.reverse_append]; rfl, ?_⟩
  have h2 := List.take_append_drop (n + 1) st
  rw [h1, List.append_assoc] at h2
  exact h2.symm
theorem jx_gw {w : Cond} (h : goodWord w = true) : (w.onTables && w.keeps) = true ∨ ∃ ty, w = .arrayClass ty := by
  unfold goodWord at h
  split at h
  · exact Or.inr ⟨_, rfl⟩
  · exact Or.inl h
theorem jx_gi {ws : List Cond} (h : ∀ w ∈ ws, w ∈ jt_G) : GoodIn jt_G ws := fun w hw => ⟨h w hw, jx_gw (jt_good w (h w hw))⟩
theorem jx_in1 {w : Cond} {ws : List Cond} (h : w ∈ jt_G) (h2 : ∀ x ∈ ws, x ∈ jt_G) : ∀ x ∈ w :: ws, x ∈ jt_G := List.forall_mem_cons.mpr ⟨h, h2⟩
/-- what a call of method k with these values from this world comes to: its contract -/
def jx_Met (l : Launch) (d b0 : Nat) (Z : jx_Sc) (D : va_G) (kA : Nat → ClassId) (k : Nat) (as : List jx_V) (w : jx_W) (t : jx_T) : Prop :=
  w.2.1 ≤ t.2.2.1 ∧ w.2.2 ≤ t.2.2.2 ∧ ∀ (y : MethodName) (X : jx_X) (n : Nat), jt_M k = some (y, X, n) →
    Met l y (Cond.code y X.2.1 X.2.2.1 X.2.2.2.1 :: jt_G) { frames := d, cells := t.2.2.1 - w.2.1, slots := t.2.2.2 - w.2.2, locals := 38 * d } (va_Pc (as.map jx_v) (jx_B b0 Z D kA w)) (jx_Q b0 D kA t) (t.2.2.1 - w.2.1) (t.2.2.2 - w.2.2) (fun a => b0 ≤ a)
section JD
variable {p : Program} {l : Launch} {e : Env} {R : Room} {s : State} {m : MethodId} {args : Array Value} {below : List Frame} {meth : Method} {c : Code} {Qf : State → Prop}
variable {d b0 : Nat} {Z : jx_Sc} {D : va_G} {kA : Nat → ClassId} {X : jx_X} {t : jx_T} {pc n : Nat} {lv : jx_L} {st : List jx_V} {w : jx_W} {q : jx_S ⊕ jx_T} {call : jx_C}
/-- behind a call -/
theorem jx_after {H : Heap} {locs : List Loc} {cells slots mc ms : Nat} {ls : Array Slot} {st0 rest : List Value} {a : Array Value} {t1 : jx_T}
    (hr : va_Run p l e R s m args below meth c H locs cells slots mc ms (F0 m pc ls st0) rest (jx_Q b0 D kA t1 a) (fun a => b0 ≤ a)) (hS : va_S (fun a => b0 ≤ a) s.heap H locs)
    (kk : ∀ (H1 : Heap) (locs1 : List Loc), jx_R b0 D kA t1.2 H1 → va_S (fun a => b0 ≤ a) s.heap H1 locs1 → W p l e R s m args below meth c H1 locs1 (cells + mc) (slots + ms) Qf (F0 m (pc + 3) ls ((t1.1.map jx_v).toList ++ rest))) : W p l e R s m args below meth c H locs cells slots Qf (F0 m pc ls st0) := by
  intro T hT X'
  obtain ⟨v, st₀, u, T', L, h0, Y, hL, e1, e2, ⟨hv, hp, hz, hk⟩, go⟩ := hr T hT X'
  have hv : v = t1.1.map jx_v := by cases hv; rfl
  subst hv
  rw [h0] at hz hk
  obtain ⟨t2, a1, b1⟩ := kk T'.heap (locs ++ L) (by rw [e1]; exact hp)
    ⟨Nat.le_trans hS.1 (by rw [e1]; exact hz), fun x h1 h2 => by rw [e1, hk x (Nat.lt_of_lt_of_le h1 hS.1) h2]; exact hS.2.1 x h1 h2, fun x hx => by
      rcases List.mem_append.mp hx with h | h
      · exact hS.2.2 x h
      · exact hL x h⟩ T' rfl Y
  exact ⟨t2, go t2 a1, b1⟩
/-- a row that calls -/
theorem jx_lifc {st' : List jx_V} {t1 : jx_T} (hG : jx_To p l e R s m args below meth c Qf b0 D kA X t (.inl (pc + 3, lv, t1.1.toList ++ st', t1.2))) (h1 : w.2.1 ≤ t1.2.2.1) (h2 : w.2.2 ≤ t1.2.2.2)
    (hrow : ∀ (ls : Array Slot) (H : Heap) (locs : List Loc) (cells slots : Nat), lv_has ls X.2.2.1 (jx_ps 0 lv) → jx_R b0 D kA w H → va_S (fun a => b0 ≤ a) s.heap H locs → cells + (t1.2.2.1 - w.2.1) ≤ R.cells ∧ slots + (t1.2.2.2 - w.2.2) ≤ R.slots → ∃ a, va_Run p l e R s m args below meth c H locs cells slots (t1.2.2.1 - w.2.1) (t1.2.2.2 - w.2.2) (F0 m pc ls (st.map jx_v)) (st'.map jx_v) (jx_Q b0 D kA t1 a) (fun a => b0 ≤ a)) :
    jx_Go p l e R s m args below meth c Qf b0 D kA X t pc lv st w := by
  have g1 : t1.2.2.1 ≤ t.2.2.1 := hG.1
  have g2 : t1.2.2.2 ≤ t.2.2.2 := hG.2.1
  refine ⟨Nat.le_trans h1 g1, Nat.le_trans h2 g2, fun ls H locs cells slots hl hR hS hc hs => ?_⟩
  obtain ⟨a, hr⟩ := hrow ls H locs cells slots hl hR hS ⟨by omega, by omega⟩
  refine jx_after hr hS (fun H1 locs1 k1 k2 => ?_)
  have hk := hG.2.2 ls H1 locs1 (cells + (t1.2.2.1 - w.2.1)) (slots + (t1.2.2.2 - w.2.2)) hl k1 k2 (by show cells + (t1.2.2.1 - w.2.1) + (t.2.2.1 - t1.2.2.1) = R.cells; omega) (by show slots + (t1.2.2.2 - w.2.2) + (t.2.2.2 - t1.2.2.2) = R.slots; omega)
  have e1 : (t1.1.toList ++ st').map jx_v = (t1.1.map jx_v).toList ++ st'.map jx_v := by
    rw [List.map_append]
    cases t1.1 <;> rfl
  dsimp only at hk
  rw [e1] at hk
  exact hk
/-- what a callee is given -/
theorem jx_pre (hF : jx_Fx d b0 Z D kA X p R s m args meth c) {H : Heap} {locs : List Loc} (hR : jx_R b0 D kA w H) (hS : va_S (fun a => b0 ≤ a) s.heap H locs) {av : List Value} : PreS s H (va_Pc av (jx_B b0 Z D kA w)) av := by
  obtain ⟨-, -, -, -, -, -, hK, -, -, hb0, hX, hZ⟩ := hF
  refine ⟨jx_blind, fun U hU hW => ?_⟩
  subst hU
  exact ⟨rfl, hR, hK.moved hW, (hX.kept (hS.2.1 Z.1 (Nat.lt_of_lt_of_le hZ hb0) (Nat.not_le.mpr hZ))).moved hW.alike⟩
/-- a static call with up to twelve values under its parameters -/
theorem jx_runS {y : MethodName} {bytes cc : ByteArray} {maxL nL mc ms n index : Nat} {ret : Option FieldType} {ws : List Cond} {rm : Room} {Pc : Array Value → State → Prop} {Qc : Array Value → State → Outcome → State → Prop} {free : Addr → Prop} {Ts : List Cond} {own : String} {As rest : List Value} {H : Heap} {locs : List Loc} {cells slots : Nat} {ls : Array Slot} {stk : List Value}
    (S : CallFix p m c cc nL s args Ts own) (hM : Met l y ws rm Pc Qc mc ms free) (cw : CallB R s args own index y bytes maxL ret ws rm mc ms n ∧ (Cond.static y).before args s = true) (hlo : 12 + (maxL + 11) + rm.locals ≤ R.locals) (hp : PreS s H Pc As)
    (hn : As.length = n) (hsize : ls.size = nL) (hstk : stk = As.reverse ++ rest) (h12 : (rest.map fun v => v.category).sum ≤ 12) (hdg : decode cc pc = .ok (.invokestatic index, 3)) (hf : cells + mc ≤ R.cells ∧ slots + ms ≤ R.slots) :
    va_Run p l e R s m args below meth c H locs cells slots mc ms (F0 m pc ls stk) rest (Qc As.toArray) free := by
  obtain ⟨⟨k1, k2, k3, -, k4, k5, k6, k7, k8, k9, k10⟩, kst⟩ := cw
  have B : Back l R p e below s args y 3 12 (PreOf R mc ms Pc) (PostOf Qc mc ms free) := back_of (bytes := bytes) (maxL := maxL) (ret := ret) hM hp.1 k1 k2 k3 hlo k4 k5 (fun a' U hW => word_at hW (Or.inl rfl) k7)
  intro T hT Y
  have go := callS Y S.1 (bytes := bytes) (maxL := maxL) (ret := ret) S.2.2.2.1 k10 kst k7 k6 k8 B (g := F0 m pc ls stk) rfl (hsize.trans S.2.2.1.symm) (argsL := As) (rest := rest) (fun sig h => hn.trans (k9 sig h)) hstk (by show 2 * 0 + _ ≤ 12; omega) (by rw [S.2.1]; exact hdg) (fun vm₁ hW₁ => ⟨hf.1, hf.2, hp.2 (T.setVm vm₁) hT hW₁⟩)
  obtain ⟨v, vm₁, ⟨U', l2, c2, s2⟩, -, Y', ⟨g', mk, u, L, e1, e2, hq, h1, hL, h2, h3⟩, st⟩ := go
  dsimp only [Pt.U, Pt.locs, Pt.cells, Pt.slots] at Y' e1 e2 h1 h2 h3 st
  subst h1
  subst h2
  subst h3
  exact ⟨v, (T.setVm vm₁).calling g' mk As.toArray, u, U', L, hT, Y', hL, e1, e2, hq, st⟩
theorem js_static {qq : Nat × Nat × Nat} {k : Nat} (hF : jx_Fx d b0 Z D kA X p R s m args meth c) (hC : ∀ k as w t1, call k as w = some t1 → jx_Met l d b0 Z D kA k as w t1) (hd : decode X.2.1 pc = .ok (.invokestatic k, 3)) (hS0 : jt_SP ((X.1, k), qq)) (h : jx_cl call qq pc lv st w = some q) (hq : jx_To p l e R s m args below meth c Qf b0 D kA X t q) : jx_Go p l e R s m args below meth c Qf b0 D kA X t pc lv st w := by
  obtain ⟨t1, hlen, h8, hcall, rfl⟩ := jx_cl_some h
  obtain ⟨y, X', hM, hst, hm15, hdesc, hkind⟩ := hS0
  dsimp only at hM hm15 hdesc hkind
  obtain ⟨m1, m2, hmet⟩ := hC _ _ _ _ hcall
  have hmet := hmet y X' _ hM
  obtain ⟨-, hyc, -, hcode, hini, hcls, hml', -⟩ := jt_M_ok _ (List.mem_of_getElem? hM)
  dsimp only at hyc hcode hini hcls hml'
  have hF0 := hF
  obtain ⟨hx, hb, hml, hown, hts, -, hK, hfr, hlo, -⟩ := hF
  have hws : ∀ x ∈ Cond.code y X'.2.1 X'.2.2.1 X'.2.2.2.1 :: jt_G, x ∈ jt_G := jx_in1 hcode (fun _ h => h)
  refine jx_lifc hq m1 m2 (fun ls H locs cells slots hl hR hS hcs => ?_)
  have hAs : ((st.take qq.2.2).reverse.map jx_v).length = qq.2.2 := by rw [List.length_map, List.length_reverse, List.length_take]; omega
  have hstk : st.map jx_v = ((st.take qq.2.2).reverse.map jx_v).reverse ++ (st.drop qq.2.2).map jx_v := by rw [← List.map_reverse, List.reverse_reverse, ← List.map_append, List.take_append_drop]
  rcases hkind with ⟨h0, hyo, hlink⟩ | ⟨h0, host, hlink⟩
  · have cw := cwS (R := R) (own := jt_cn X.1) (index := k) (y := y) (bytes := X'.2.1) (maxL := X'.2.2.1) (ret := X'.2.2.2.1) (rm := { frames := d, cells := t1.2.2.1 - w.2.1, slots := t1.2.2.2 - w.2.2, locals := 38 * d }) qq.2.2 hts (jx_gi (jx_in1 hlink (jx_in1 hst (jx_in1 (by rw [← hyo]; exact hini) hws)))) rfl rfl rfl ⟨hyo, hcls.1, hcls.2, hdesc⟩ ⟨hfr, by show 8 + (X'.2.2.1 + 11) + 38 * d ≤ R.locals; omega⟩
    unfold jx_bd at h8
    rw [if_pos h0] at h8
    have h8' : (((st.drop qq.2.2).map jx_v).map fun v => v.category).sum ≤ 12 := by rw [jx_sum]; exact h8
    exact ⟨_, jx_runS ⟨hx, hb, hml, hown, hts⟩ hmet cw (by show 12 + (X'.2.2.1 + 11) + 38 * d ≤ R.locals; omega) (jx_pre hF0 hR hS) hAs hl.1 hstk h8' hd hcs⟩
  · have cw := va_cnB (R := R) (own := jt_cn X.1) (index := k) (y := y) (bytes := X'.2.1) (maxL := X'.2.2.1) (ret := X'.2.2.2.1) (rm := { frames := d, cells := t1.2.2.1 - w.2.1, slots := t1.2.2.2 - w.2.2, locals := 38 * d }) qq.2.2 hts (jx_gi hws) rfl rfl rfl (hK.2.1 _ hlink) (hts _ hini) ⟨hcls.1, hcls.2, hdesc⟩ ⟨hfr, by show 8 + (X'.2.2.1 + 11) + 38 * d ≤ R.locals; omega⟩
    unfold jx_bd at h8
    rw [if_neg (by rw [h0]; decide)] at h8
    have h8' : (((st.drop qq.2.2).map jx_v).map fun v => v.category).sum ≤ 8 := by rw [jx_sum]; exact h8
    exact ⟨_, va_runSN ⟨hx, hb, hml, hown, hts⟩ hmet ⟨cw, hts _ hst, trivial⟩ (jx_pre hF0 hR hS) rfl hAs hl.1 hstk (lv_room h8') hd hcs⟩
theorem ja_is_some {k : Nat} (h : ja_is call X k pc lv st w = some q) : (∃ qq, jt_ms X.1 k = some (.inl qq) ∧ jx_cl call qq pc lv st w = some q) ∨ ∃ b x y st0, jt_ms X.1 k = some (.inr b) ∧ st = .inl y :: .inl x :: st0 ∧ st0.length ≤ 8 ∧ q = .inl (pc + 3, lv, .inl (if b = true then (if x < y then y else x) else (if y < x then y else x)) :: st0, w) := by
  unfold ja_is at h
  split at h
  · exact Or.inl ⟨_, by assumption, h⟩
  · rename_i b hb
    split at h
    · split at h
      · exact Or.inr ⟨b, _, _, _, hb, rfl, by assumption, jx_go_some h⟩
      · cases h
    · cases h
  · cases h
theorem js_invokestatic {k : Nat} (hF : jx_Fx d b0 Z D kA X p R s m args meth c) (hC : ∀ k as w t1, call k as w = some t1 → jx_Met l d b0 Z D kA k as w t1) (hd : decode X.2.1 pc = .ok (.invokestatic k, n)) (h : jx_k n 3 (ja_is call X k pc lv st w) = some q) (hq : jx_To p l e R s m args below meth c Qf b0 D kA X t q) : jx_Go p l e R s m args below meth c Qf b0 D kA X t pc lv st w := by
  obtain ⟨rfl, h⟩ := jx_k_some h
  rcases ja_is_some h with ⟨qq, hm, h⟩ | ⟨b, x, y, st0, hm, rfl, h8, rfl⟩
  · exact js_static hF hC hd (jt_ms_l hm) h hq
  · have hl := jt_ms_r hm
    obtain ⟨hx, hb, hml, hown, hts, -, hK, hfr, hlo, -⟩ := hF
    have h8' : ((st0.map jx_v).map fun v => v.category).sum + 13 ≤ R.locals := by rw [jx_sum]; omega
    cases b with
    | true =>
      have hl : Cond.methodLink (jt_cn X.1) k Lib.Math.max.name ∈ jt_G := hl
      rw [if_pos rfl] at hq
      exact jx_lift hq (fun ls H locs cells slots hlv hR _ hc hs kk => va_mmax hx hb (hml.trans hlv.1.symm) hown (hts _ hl) (hts _ jt_max.1) (hts _ jt_max.2.1) (hts _ jt_max.2.2) (by omega) h8' hc hs hd kk)
    | false =>
      have hl : Cond.methodLink (jt_cn X.1) k Lib.Math.min.name ∈ jt_G := hl
      rw [if_neg (by decide)] at hq
      exact jx_lift hq (fun ls H locs cells slots hlv hR _ hc hs kk => va_mmin hx hb (hml.trans hlv.1.symm) hown (hts _ hl) (hts _ jt_min.1) (hts _ jt_max.2.1) (hts _ jt_min.2) (by omega) h8' hc hs hd kk)
theorem ja_iv_some {k : Nat} (h : ja_iv call X k pc lv st w = some q) : ∃ qq ci a, jt_mv X.1 k = some (qq, ci) ∧ jx_rv qq st = some a ∧ jx_is w a ci = true ∧ jx_cl call qq pc lv st w = some q := by
  unfold ja_iv at h
  split at h
  · rename_i qq ci hm
    split at h
    · rename_i a ha
      split at h
      · exact ⟨qq, ci, a, hm, ha, by assumption, h⟩
      · cases h
    · cases h
  · cases h
theorem js_invokevirtual {k : Nat} (hF : jx_Fx d b0 Z D kA X p R s m args meth c) (hC : ∀ k as w t1, call k as w = some t1 → jx_Met l d b0 Z D kA k as w t1) (hd : decode X.2.1 pc = .ok (.invokevirtual k, n)) (h : jx_k n 3 (ja_iv call X k pc lv st w) = some q) (hq : jx_To p l e R s m args below meth c Qf b0 D kA X t q) : jx_Go p l e R s m args below meth c Qf b0 D kA X t pc lv st w := by
  obtain ⟨rfl, h⟩ := jx_k_some h
  obtain ⟨qq, ci, a, hm, ha, his, h⟩ := ja_iv_some h
  obtain ⟨t1, hlen, h8, hcall, rfl⟩ := jx_cl_some h
  obtain ⟨y, X', n', hM, hnp, hyc0, hci, hdesc, hlink, hinst, hsel, h2⟩ := jt_mv_ok hm
  dsimp only at hM hnp hyc0 hci hdesc hlink hinst hsel h2
  unfold jx_bd at h8
  rw [if_neg (by rw [h2]; decide)] at h8
  have ha := jx_rv_some ha
  rw [hnp] at hcall hlen h8 hq ha
  rw [Nat.add_sub_cancel] at ha
  obtain ⟨hs1, hs2⟩ := jx_stk ha
  obtain ⟨fs, hcell⟩ := jx_is_some his
  obtain ⟨m1, m2, hmet⟩ := hC _ _ _ _ hcall
  have hmet := hmet y X' _ hM
  rw [hs1, List.map_cons] at hmet
  obtain ⟨-, hyc, -, hcode, hini, hcls, hml', -⟩ := jt_M_ok _ (List.mem_of_getElem? hM)
  dsimp only at hyc hcode hini hcls hml'
  have hF0 := hF
  obtain ⟨hx, hb, hml, hown, hts, -, hK, hfr, hlo, -⟩ := hF
  have hws : ∀ x ∈ Cond.code y X'.2.1 X'.2.2.1 X'.2.2.2.1 :: jt_G, x ∈ jt_G := jx_in1 hcode (fun _ h => h)
  refine jx_lifc hq m1 m2 (fun ls H locs cells slots hl hR hS hcs => ?_)
  have hAs : ((st.take n').reverse.map jx_v).length = n' := by rw [List.length_map, List.length_reverse, List.length_take]; omega
  have hstk : st.map jx_v = ((st.take n').reverse.map jx_v).reverse ++ .ref a :: (st.drop (n' + 1)).map jx_v := by
    rw [← List.map_reverse, List.reverse_reverse]
    conv => lhs; rw [hs2]
    rw [List.map_append]
    rfl
  have h8' : (((st.drop (n' + 1)).map jx_v).map fun v => v.category).sum ≤ 8 := by rw [jx_sum]; exact h8
  obtain ⟨T, N, ty, hc, -⟩ := jt_D_ok ci hci
  have hrv := va_recv hK.1 (hR.one hcell) hc (q0 := 0) rfl
  rw [← hyc0] at hrv
  have hp := jx_pre (av := .ref a :: (st.take n').reverse.map jx_v) hF0 hR hS
  have cw := cwV (R := R) (own := jt_cn X.1) (C := y.cls) (index := k) (y := y) (bytes := X'.2.1) (maxL := X'.2.2.1) (ret := X'.2.2.2.1) (rm := { frames := d, cells := t1.2.2.1 - w.2.1, slots := t1.2.2.2 - w.2.2, locals := 38 * d }) n' hts (jx_gi (jx_in1 hlink (jx_in1 hinst (jx_in1 hsel (jx_in1 hini hws))))) rfl rfl rfl ⟨rfl, hcls.1, hcls.2, hdesc⟩ ⟨hfr, by show 8 + (X'.2.2.1 + 11) + 38 * d ≤ R.locals; omega⟩
  exact ⟨_, va_runV ⟨hx, hb, hml, hown, hts⟩ hmet cw ⟨hp.1, hrv, hp.2⟩ rfl hAs hl.1 hstk (lv_room h8') hd hcs⟩
theorem ja_in_some {k : Nat} (h : ja_in call X k pc lv st w = some q) : (∃ qq a, jt_mi X.1 k = some (some qq) ∧ jx_rv qq st = some a ∧ jx_cl call qq pc lv st w = some q) ∨ ∃ a st0, jt_mi X.1 k = some none ∧ st = .inr (some a) :: st0 ∧ st0.length ≤ 8 ∧ q = .inl (pc + 3, lv, st0, w) := by
  unfold ja_in at h
  split at h
  · rename_i qq hm
    split at h
    · rename_i a ha
      exact Or.inl ⟨qq, a, hm, ha, h⟩
    · cases h
  · rename_i hm
    split at h
    · split at h
      · exact Or.inr ⟨_, _, hm, rfl, by assumption, jx_go_some h⟩
      · cases h
    · cases h
  · cases h
theorem js_invokespecial {k : Nat} (hF : jx_Fx d b0 Z D kA X p R s m args meth c) (hC : ∀ k as w t1, call k as w = some t1 → jx_Met l d b0 Z D kA k as w t1) (hd : decode X.2.1 pc = .ok (.invokespecial k, n)) (h : jx_k n 3 (ja_in call X k pc lv st w) = some q) (hq : jx_To p l e R s m args below meth c Qf b0 D kA X t q) : jx_Go p l e R s m args below meth c Qf b0 D kA X t pc lv st w := by
  obtain ⟨rfl, h⟩ := jx_k_some h
  rcases ja_in_some h with ⟨qq, a, hm, ha, h⟩ | ⟨a, st0, hm, rfl, h8, rfl⟩
  · obtain ⟨t1, hlen, h8, hcall, rfl⟩ := jx_cl_some h
    obtain ⟨y, X', n', hM, hnp, hy1, hret, hdesc, hinst, hkind⟩ := jt_mi_ok hm
    unfold jx_bd at h8
    rw [if_neg (by rcases hkind with ⟨h, -⟩ | ⟨h, -⟩ <;> rw [h] <;> decide)] at h8
    have ha := jx_rv_some ha
    rw [hnp] at hcall hlen h8 hq ha
    rw [Nat.add_sub_cancel] at ha
    obtain ⟨hs1, hs2⟩ := jx_stk ha
    obtain ⟨m1, m2, hmet⟩ := hC _ _ _ _ hcall
    have hmet := hmet y X' _ hM
    rw [hs1, List.map_cons, hret] at hmet
    obtain ⟨-, hyc, -, hcode, hini, hcls, hml', -⟩ := jt_M_ok _ (List.mem_of_getElem? hM)
    dsimp only at hyc hcode hini hcls hml'
    rw [hret] at hcode
    have hF0 := hF
    obtain ⟨hx, hb, hml, hown, hts, -, hK, hfr, hlo, -⟩ := hF
    have hws : ∀ x ∈ Cond.code y X'.2.1 X'.2.2.1 none :: jt_G, x ∈ jt_G := jx_in1 hcode (fun _ h => h)
    refine jx_lifc hq m1 m2 (fun ls H locs cells slots hl hR hS hcs => ?_)
    have hAs : ((st.take n').reverse.map jx_v).length = n' := by rw [List.length_map, List.length_reverse, List.length_take]; omega
    have hstk : st.map jx_v = ((st.take n').reverse.map jx_v).reverse ++ .ref a :: (st.drop (n' + 1)).map jx_v := by
      rw [← List.map_reverse, List.reverse_reverse]
      conv => lhs; rw [hs2]
      rw [List.map_append]
      rfl
    have h8' : (((st.drop (n' + 1)).map jx_v).map fun v => v.category).sum ≤ 8 := by rw [jx_sum]; exact h8
    have hp := jx_pre (av := .ref a :: (st.take n').reverse.map jx_v) hF0 hR hS
    rcases hkind with ⟨-, hlink⟩ | ⟨-, host, hlink⟩
    · have cw := cwI (R := R) (own := jt_cn X.1) (index := k) (y := y) (bytes := X'.2.1) (maxL := X'.2.2.1) (rm := { frames := d, cells := t1.2.2.1 - w.2.1, slots := t1.2.2.2 - w.2.2, locals := 38 * d }) n' hts (jx_gi hws) rfl rfl rfl (hts _ hini) (hts _ hlink) (hts _ hinst) hy1 ⟨hcls.1, hcls.2, hdesc⟩ ⟨hfr, by show 8 + (X'.2.2.1 + 11) + 38 * d ≤ R.locals; omega⟩
      exact ⟨_, va_runI ⟨hx, hb, hml, hown, hts⟩ hmet cw hp rfl hAs hl.1 hstk (lv_room h8') hd hcs⟩
    · have cw := va_cnB (R := R) (own := jt_cn X.1) (index := k) (y := y) (bytes := X'.2.1) (maxL := X'.2.2.1) (ret := none) (rm := { frames := d, cells := t1.2.2.1 - w.2.1, slots := t1.2.2.2 - w.2.2, locals := 38 * d }) n' hts (jx_gi hws) rfl rfl rfl (hK.2.1 _ hlink) (hts _ hini) ⟨hcls.1, hcls.2, hdesc⟩ ⟨hfr, by show 8 + (X'.2.2.1 + 11) + 38 * d ≤ R.locals; omega⟩
      exact ⟨_, va_runIN ⟨hx, hb, hml, hown, hts⟩ hmet ⟨cw, hy1, hts _ hinst⟩ hp rfl hAs hl.1 hstk (lv_room h8') hd hcs⟩
  · have hl := jt_mi_o hm
    obtain ⟨hx, hb, hml, hown, hts, -, hK, hfr, hlo, -⟩ := hF
    have h8' : ((st0.map jx_v).map fun v => v.category).sum ≤ 8 := by rw [jx_sum]; exact h8
    exact jx_lift hq (fun ls H locs cells slots hlv hR _ _ _ kk => W.objInit hx hb hown (hts _ hl) (hts _ jt_obj.1) (hts _ jt_obj.2) rfl (hlv.1.trans hml.symm) rfl hd (by omega) (by have := lv_room (m := m) (pc := pc) (ls := ls) (rest := (Value.ref a :: st0.map jx_v)) h8'; exact Nat.le_trans (Nat.add_le_add_right this 12) (by omega)) kk)
end JD
