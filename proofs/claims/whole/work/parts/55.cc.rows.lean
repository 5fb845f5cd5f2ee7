/-! the class: its layout, and its reads and writes under it -/
def jn_C (f : jy_I) (cc n : Nat) : Prop := f 0 0 5 = nI cc ∧ f 0 0 7 = nI n ∧ cc ≤ 8 ∧ n ≤ 24
/-- coin c of the class: its object, its exit, the exit's challenges -/
def jl_c (K : jy_K) (g : jy_R) (c : Nat) : Prop := jy_lv K 7 c ∧ jy_lv K 8 c ∧ jy_lv K 9 c ∧ g 3 0 c = some (K.2.1 7 c) ∧ g 7 c 2 = some (K.2.1 8 c) ∧ g 8 c 5 = some (K.2.1 9 c)
/-- block b, its entries and its tree -/
def jl_b (K : jy_K) (g : jy_R) (b : Nat) : Prop := jy_lv K 10 b ∧ jy_lv K 11 b ∧ jy_lv K 12 b ∧ g 4 0 b = some (K.2.1 10 b) ∧ g 10 b 0 = some (K.2.1 11 b) ∧ g 10 b 1 = some (K.2.1 12 b)
/-- a reference to an entry, or null -/
def jl_e (K : jy_K) (r : Option Nat) : Prop := ∀ a, r = some a → K.1 a = some (13, a)
def jl_o (K : jy_K) (g : jy_R) : Prop := (jy_lv K 0 0 ∧ jy_lv K 1 0 ∧ jy_lv K 2 0 ∧ jy_lv K 3 0 ∧ jy_lv K 4 0 ∧ jy_lv K 5 0 ∧ jy_lv K 6 0) ∧ g 0 0 2 = some (K.2.1 1 0) ∧ g 0 0 3 = some (K.2.1 2 0) ∧ g 0 0 4 = some (K.2.1 3 0) ∧ g 0 0 6 = some (K.2.1 4 0) ∧ g 0 0 8 = some (K.2.1 5 0) ∧ g 0 0 9 = some (K.2.1 6 0)
def jl_C (K : jy_K) (g : jy_R) (cc n : Nat) : Prop := jy_ok K ∧ jl_o K g ∧ (∀ c, c < cc → jl_c K g c) ∧ (∀ b, 1 ≤ b → b ≤ n → jl_b K g b) ∧ (∀ b c, 1 ≤ b → b ≤ n → c < 8 → jl_e K (g 11 b c)) ∧ (∀ c, c < 8 → jl_e K (g 5 0 c) ∧ jl_e K (g 6 0 c)) ∧ (∀ x a, K.1 x = some (13, a) → x = a)
/-- the roles that are free -/
def jl_F (K : jy_K) (cc n : Nat) : Prop := (∀ c, cc ≤ c → jy_no K 7 c ∧ jy_no K 8 c ∧ jy_no K 9 c) ∧ (∀ b, n < b → jy_no K 10 b ∧ jy_no K 11 b ∧ jy_no K 12 b)
section CU
variable {Z : jx_Sc} {K : jy_K} {f : jy_I} {g : jy_R} {cc n : Nat} {x : Int32} {r : Option Nat}
theorem cu_is (h : jl_C K g cc n) : jx_is (jy_w K f g) (K.2.1 0 0) 0 = true := jy_is h.2.1.1.1 rfl
theorem cu_g0 (h : jl_C K g cc n) : jx_gF (jy_w K f g) (K.2.1 0 0) 0 0 = some (.inl (f 0 0 0)) := jy_gFi h.2.1.1.1 rfl rfl
theorem cu_g1 (h : jl_C K g cc n) : jx_gF (jy_w K f g) (K.2.1 0 0) 0 1 = some (.inl (f 0 0 1)) := jy_gFi h.2.1.1.1 rfl rfl
theorem cu_g5 (h : jl_C K g cc n) : jx_gF (jy_w K f g) (K.2.1 0 0) 0 5 = some (.inl (f 0 0 5)) := jy_gFi h.2.1.1.1 rfl rfl
theorem cu_g7 (h : jl_C K g cc n) : jx_gF (jy_w K f g) (K.2.1 0 0) 0 7 = some (.inl (f 0 0 7)) := jy_gFi h.2.1.1.1 rfl rfl
theorem cu_g10 (h : jl_C K g cc n) : jx_gF (jy_w K f g) (K.2.1 0 0) 0 10 = some (.inl (f 0 0 10)) := jy_gFi h.2.1.1.1 rfl rfl
theorem cu_s5 (h : jl_C K g cc n) : jx_sF (jy_w K f g) (K.2.1 0 0) 0 5 (.inl x) = some (jy_w K (jy_up f 0 0 5 x) g) := jy_sFi h.1 h.2.1.1.1 rfl rfl
theorem cu_s7 (h : jl_C K g cc n) : jx_sF (jy_w K f g) (K.2.1 0 0) 0 7 (.inl x) = some (jy_w K (jy_up f 0 0 7 x) g) := jy_sFi h.1 h.2.1.1.1 rfl rfl
theorem cu_s10 (h : jl_C K g cc n) : jx_sF (jy_w K f g) (K.2.1 0 0) 0 10 (.inl x) = some (jy_w K (jy_up f 0 0 10 x) g) := jy_sFi h.1 h.2.1.1.1 rfl rfl
theorem cu_g2 (h : jl_C K g cc n) : jx_gF (jy_w K f g) (K.2.1 0 0) 0 2 = some (.inr (some (K.2.1 1 0))) := (jy_gFr h.2.1.1.1 rfl rfl).trans (congrArg (fun z => some (Sum.inr z)) h.2.1.2.1)
theorem cu_g3 (h : jl_C K g cc n) : jx_gF (jy_w K f g) (K.2.1 0 0) 0 3 = some (.inr (some (K.2.1 2 0))) := (jy_gFr h.2.1.1.1 rfl rfl).trans (congrArg (fun z => some (Sum.inr z)) h.2.1.2.2.1)
theorem cu_g4 (h : jl_C K g cc n) : jx_gF (jy_w K f g) (K.2.1 0 0) 0 4 = some (.inr (some (K.2.1 3 0))) := (jy_gFr h.2.1.1.1 rfl rfl).trans (congrArg (fun z => some (Sum.inr z)) h.2.1.2.2.2.1)
theorem cu_g6 (h : jl_C K g cc n) : jx_gF (jy_w K f g) (K.2.1 0 0) 0 6 = some (.inr (some (K.2.1 4 0))) := (jy_gFr h.2.1.1.1 rfl rfl).trans (congrArg (fun z => some (Sum.inr z)) h.2.1.2.2.2.2.1)
theorem cu_g8 (h : jl_C K g cc n) : jx_gF (jy_w K f g) (K.2.1 0 0) 0 8 = some (.inr (some (K.2.1 5 0))) := (jy_gFr h.2.1.1.1 rfl rfl).trans (congrArg (fun z => some (Sum.inr z)) h.2.1.2.2.2.2.2.1)
theorem cu_g9 (h : jl_C K g cc n) : jx_gF (jy_w K f g) (K.2.1 0 0) 0 9 = some (.inr (some (K.2.1 6 0))) := (jy_gFr h.2.1.1.1 rfl rfl).trans (congrArg (fun z => some (Sum.inr z)) h.2.1.2.2.2.2.2.2)
theorem cu_n1 (h : jl_C K g cc n) {k : Nat} (hk : k < 4) : jx_gI Z 0 (jy_w K f g) (K.2.1 1 0) (nI k) = some (f 1 0 k) := by rw [jy_gI h.2.1.1.2.1 rfl, if_neg (nI_in hk (by decide)), nI_clamp (Nat.lt_trans hk (by decide))]
theorem cu_m1 (h : jl_C K g cc n) {k : Nat} (hk : k < 4) : jx_sI 0 (jy_w K f g) (K.2.1 1 0) (nI k) x = some (jy_w K (jy_up f 1 0 k x) g) := by rw [jy_sI h.1 h.2.1.1.2.1 rfl, if_neg (nI_in hk (by decide)), nI_clamp (Nat.lt_trans hk (by decide))]
theorem cu_n2 (h : jl_C K g cc n) {k : Nat} (hk : k < 32) : jx_gI Z 0 (jy_w K f g) (K.2.1 2 0) (nI k) = some (f 2 0 k) := by rw [jy_gI h.2.1.1.2.2.1 rfl, if_neg (nI_in hk (by decide)), nI_clamp (Nat.lt_trans hk (by decide))]
theorem cu_m2 (h : jl_C K g cc n) {k : Nat} (hk : k < 32) : jx_sI 0 (jy_w K f g) (K.2.1 2 0) (nI k) x = some (jy_w K (jy_up f 2 0 k x) g) := by rw [jy_sI h.1 h.2.1.1.2.2.1 rfl, if_neg (nI_in hk (by decide)), nI_clamp (Nat.lt_trans hk (by decide))]
theorem cu_n3 (h : jl_C K g cc n) {k : Nat} (hk : k < 8) : jx_gA (jy_w K f g) (K.2.1 3 0) (nI k) = some (g 3 0 k) := by rw [jy_gA h.2.1.1.2.2.2.1 rfl rfl, if_neg (nI_in hk (by decide)), nI_clamp (Nat.lt_trans hk (by decide))]
theorem cu_n4 (h : jl_C K g cc n) {k : Nat} (hk : k < 25) : jx_gA (jy_w K f g) (K.2.1 4 0) (nI k) = some (g 4 0 k) := by rw [jy_gA h.2.1.1.2.2.2.2.1 rfl rfl, if_neg (nI_in hk (by decide)), nI_clamp (Nat.lt_trans hk (by decide))]
theorem cu_n5 (h : jl_C K g cc n) {k : Nat} (hk : k < 8) : jx_gA (jy_w K f g) (K.2.1 5 0) (nI k) = some (g 5 0 k) := by rw [jy_gA h.2.1.1.2.2.2.2.2.1 rfl rfl, if_neg (nI_in hk (by decide)), nI_clamp (Nat.lt_trans hk (by decide))]
theorem cu_n6 (h : jl_C K g cc n) {k : Nat} (hk : k < 8) : jx_gA (jy_w K f g) (K.2.1 6 0) (nI k) = some (g 6 0 k) := by rw [jy_gA h.2.1.1.2.2.2.2.2.2 rfl rfl, if_neg (nI_in hk (by decide)), nI_clamp (Nat.lt_trans hk (by decide))]
/-! a coin and its exit -/
theorem cu_c0 {c : Nat} (h : jl_c K g c) : jx_gF (jy_w K f g) (K.2.1 7 c) 1 0 = some (.inl (f 7 c 0)) := jy_gFi h.1 rfl rfl
theorem cu_c1 {c : Nat} (h : jl_c K g c) : jx_gF (jy_w K f g) (K.2.1 7 c) 1 1 = some (.inl (f 7 c 1)) := jy_gFi h.1 rfl rfl
theorem cu_c2 {c : Nat} (h : jl_c K g c) : jx_gF (jy_w K f g) (K.2.1 7 c) 1 2 = some (.inr (some (K.2.1 8 c))) := (jy_gFr h.1 rfl rfl).trans (congrArg (fun z => some (Sum.inr z)) h.2.2.2.2.1)
theorem cu_d1 {c : Nat} (ho : jy_ok K) (h : jl_c K g c) : jx_sF (jy_w K f g) (K.2.1 7 c) 1 1 (.inl x) = some (jy_w K (jy_up f 7 c 1 x) g) := jy_sFi ho h.1 rfl rfl
theorem cu_e0 {c : Nat} (h : jl_c K g c) : jx_gF (jy_w K f g) (K.2.1 8 c) 2 0 = some (.inl (f 8 c 0)) := jy_gFi h.2.1 rfl rfl
theorem cu_e1 {c : Nat} (h : jl_c K g c) : jx_gF (jy_w K f g) (K.2.1 8 c) 2 1 = some (.inl (f 8 c 1)) := jy_gFi h.2.1 rfl rfl
theorem cu_e2 {c : Nat} (h : jl_c K g c) : jx_gF (jy_w K f g) (K.2.1 8 c) 2 2 = some (.inl (f 8 c 2)) := jy_gFi h.2.1 rfl rfl
theorem cu_e3 {c : Nat} (h : jl_c K g c) : jx_gF (jy_w K f g) (K.2.1 8 c) 2 3 = some (.inl (f 8 c 3)) := jy_gFi h.2.1 rfl rfl
theorem cu_e4 {c : Nat} (h : jl_c K g c) : jx_gF (jy_w K f g) (K.2.1 8 c) 2 4 = some (.inl (f 8 c 4)) := jy_gFi h.2.1 rfl rfl
theorem cu_e5 {c : Nat} (h : jl_c K g c) : jx_gF (jy_w K f g) (K.2.1 8 c) 2 5 = some (.inr (some (K.2.1 9 c))) := (jy_gFr h.2.1 rfl rfl).trans (congrArg (fun z => some (Sum.inr z)) h.2.2.2.2.2)
theorem cu_eis {c : Nat} (h : jl_c K g c) : jx_is (jy_w K f g) (K.2.1 8 c) 2 = true := jy_is h.2.1 rfl
theorem cu_x0 {c : Nat} (ho : jy_ok K) (h : jl_c K g c) : jx_sF (jy_w K f g) (K.2.1 8 c) 2 0 (.inl x) = some (jy_w K (jy_up f 8 c 0 x) g) := jy_sFi ho h.2.1 rfl rfl
theorem cu_x1 {c : Nat} (ho : jy_ok K) (h : jl_c K g c) : jx_sF (jy_w K f g) (K.2.1 8 c) 2 1 (.inl x) = some (jy_w K (jy_up f 8 c 1 x) g) := jy_sFi ho h.2.1 rfl rfl
theorem cu_x2 {c : Nat} (ho : jy_ok K) (h : jl_c K g c) : jx_sF (jy_w K f g) (K.2.1 8 c) 2 2 (.inl x) = some (jy_w K (jy_up f 8 c 2 x) g) := jy_sFi ho h.2.1 rfl rfl
theorem cu_x3 {c : Nat} (ho : jy_ok K) (h : jl_c K g c) : jx_sF (jy_w K f g) (K.2.1 8 c) 2 3 (.inl x) = some (jy_w K (jy_up f 8 c 3 x) g) := jy_sFi ho h.2.1 rfl rfl
theorem cu_x4 {c : Nat} (ho : jy_ok K) (h : jl_c K g c) : jx_sF (jy_w K f g) (K.2.1 8 c) 2 4 (.inl x) = some (jy_w K (jy_up f 8 c 4 x) g) := jy_sFi ho h.2.1 rfl rfl
theorem cu_n9 {c : Nat} (h : jl_c K g c) {k : Nat} (hk : k < 25) : jx_gI Z 0 (jy_w K f g) (K.2.1 9 c) (nI k) = some (f 9 c k) := by rw [jy_gI h.2.2.1 rfl, if_neg (nI_in hk (by decide)), nI_clamp (Nat.lt_trans hk (by decide))]
theorem cu_m9 {c : Nat} (ho : jy_ok K) (h : jl_c K g c) {k : Nat} (hk : k < 25) : jx_sI 0 (jy_w K f g) (K.2.1 9 c) (nI k) x = some (jy_w K (jy_up f 9 c k x) g) := by rw [jy_sI ho h.2.2.1 rfl, if_neg (nI_in hk (by decide)), nI_clamp (Nat.lt_trans hk (by decide))]
theorem cu_l9 {c : Nat} (h : jl_c K g c) : jx_gL Z (jy_w K f g) (K.2.1 9 c) = some 25 := jy_gL h.2.2.1 rfl (by decide)
/-! a block -/
theorem cu_b0 {b : Nat} (h : jl_b K g b) : jx_gF (jy_w K f g) (K.2.1 10 b) 3 0 = some (.inr (some (K.2.1 11 b))) := (jy_gFr h.1 rfl rfl).trans (congrArg (fun z => some (Sum.inr z)) h.2.2.2.2.1)
theorem cu_b1 {b : Nat} (h : jl_b K g b) : jx_gF (jy_w K f g) (K.2.1 10 b) 3 1 = some (.inr (some (K.2.1 12 b))) := (jy_gFr h.1 rfl rfl).trans (congrArg (fun z => some (Sum.inr z)) h.2.2.2.2.2)
theorem cu_b2 {b : Nat} (h : jl_b K g b) : jx_gF (jy_w K f g) (K.2.1 10 b) 3 2 = some (.inl (f 10 b 2)) := jy_gFi h.1 rfl rfl
theorem cu_bis {b : Nat} (h : jl_b K g b) : jx_is (jy_w K f g) (K.2.1 10 b) 3 = true := jy_is h.1 rfl
theorem cu_y2 {b : Nat} (ho : jy_ok K) (h : jl_b K g b) : jx_sF (jy_w K f g) (K.2.1 10 b) 3 2 (.inl x) = some (jy_w K (jy_up f 10 b 2 x) g) := jy_sFi ho h.1 rfl rfl
theorem cu_n11 {b : Nat} (h : jl_b K g b) {k : Nat} (hk : k < 8) : jx_gA (jy_w K f g) (K.2.1 11 b) (nI k) = some (g 11 b k) := by rw [jy_gA h.2.1 rfl rfl, if_neg (nI_in hk (by decide)), nI_clamp (Nat.lt_trans hk (by decide))]
theorem cu_n12 {b : Nat} (h : jl_b K g b) {k : Nat} (hk : k < 16) : jx_gI Z 0 (jy_w K f g) (K.2.1 12 b) (nI k) = some (f 12 b k) := by rw [jy_gI h.2.2.1 rfl, if_neg (nI_in hk (by decide)), nI_clamp (Nat.lt_trans hk (by decide))]
theorem cu_m12 {b : Nat} (ho : jy_ok K) (h : jl_b K g b) {k : Nat} (hk : k < 16) : jx_sI 0 (jy_w K f g) (K.2.1 12 b) (nI k) x = some (jy_w K (jy_up f 12 b k x) g) := by rw [jy_sI ho h.2.2.1 rfl, if_neg (nI_in hk (by decide)), nI_clamp (Nat.lt_trans hk (by decide))]
/-! an entry -/
theorem cu_at {a : Nat} (ho : jy_ok K) (h : K.1 a = some (13, a)) : a = K.2.1 13 a ∧ jy_lv K 13 a := by
  have e := (ho a _ h).1
  refine ⟨e, ?_⟩
  unfold jy_lv
  rw [← e]
  exact h
theorem cu_v {a q : Nat} (ho : jy_ok K) (h : K.1 a = some (13, a)) (hq : q < 6) : jx_gF (jy_w K f g) a 4 q = some (.inl (f 13 a q)) := by
  obtain ⟨e, hl⟩ := cu_at ho h
  have hq' : ([false, false, false, false, false, false] : List Bool)[q]? = some false := by
    match q, hq with
    | 0, _ => rfl
    | 1, _ => rfl
    | 2, _ => rfl
    | 3, _ => rfl
    | 4, _ => rfl
    | 5, _ => rfl
  have := jy_gFi (f := f) (g := g) (ci := 4) hl rfl hq'
  rw [← e] at this
  exact this
end CU
