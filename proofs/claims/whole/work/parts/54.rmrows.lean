/-! the reference: its layout, and its reads and writes under it (by gen_state.py) -/
def jl_R (K : jy_K) (g : jy_R) : Prop := jy_ok K ∧ jy_lv K 20 0 ∧ ∀ j ∈ ([3, 5, 6, 7, 9, 10, 11, 12, 13, 14, 15, 16, 17, 18, 19, 20, 21, 22, 23, 24, 25, 26, 27, 28, 29] : List Nat), jy_lv K (20 + j) 0 ∧ g 20 0 j = some (K.2.1 (20 + j) 0)
section JU
variable {Z : jx_Sc} {K : jy_K} {f : jy_I} {g : jy_R} {j x : Int32} {r : Option Nat}
theorem ru_is (h : jl_R K g) : jx_is (jy_w K f g) (K.2.1 20 0) 5 = true := jy_is h.2.1 rfl
theorem ru_g0 (h : jl_R K g) : jx_gF (jy_w K f g) (K.2.1 20 0) 5 0 = some (.inl (f 20 0 0)) := jy_gFi h.2.1 rfl rfl
theorem ru_s0 (h : jl_R K g) : jx_sF (jy_w K f g) (K.2.1 20 0) 5 0 (.inl x) = some (jy_w K (jy_up f 20 0 0 x) g) := jy_sFi h.1 h.2.1 rfl rfl
theorem ru_g1 (h : jl_R K g) : jx_gF (jy_w K f g) (K.2.1 20 0) 5 1 = some (.inl (f 20 0 1)) := jy_gFi h.2.1 rfl rfl
theorem ru_s1 (h : jl_R K g) : jx_sF (jy_w K f g) (K.2.1 20 0) 5 1 (.inl x) = some (jy_w K (jy_up f 20 0 1 x) g) := jy_sFi h.1 h.2.1 rfl rfl
theorem ru_g2 (h : jl_R K g) : jx_gF (jy_w K f g) (K.2.1 20 0) 5 2 = some (.inl (f 20 0 2)) := jy_gFi h.2.1 rfl rfl
theorem ru_s2 (h : jl_R K g) : jx_sF (jy_w K f g) (K.2.1 20 0) 5 2 (.inl x) = some (jy_w K (jy_up f 20 0 2 x) g) := jy_sFi h.1 h.2.1 rfl rfl
theorem ru_g3 (h : jl_R K g) : jx_gF (jy_w K f g) (K.2.1 20 0) 5 3 = some (.inr (some (K.2.1 23 0))) := (jy_gFr h.2.1 rfl rfl).trans (congrArg (fun z => some (Sum.inr z)) (h.2.2 3 (by decide)).2)
theorem ru_a3 (h : jl_R K g) : jx_gI Z 0 (jy_w K f g) (K.2.1 23 0) j = if j < 0 ∨ 4 ≤ j.toNatClampNeg then none else some (f 23 0 j.toNatClampNeg) := jy_gI (h.2.2 3 (by decide)).1 rfl
theorem ru_b3 (h : jl_R K g) : jx_sI 0 (jy_w K f g) (K.2.1 23 0) j x = if j < 0 ∨ 4 ≤ j.toNatClampNeg then none else some (jy_w K (jy_up f 23 0 j.toNatClampNeg x) g) := jy_sI h.1 (h.2.2 3 (by decide)).1 rfl
theorem ru_g4 (h : jl_R K g) : jx_gF (jy_w K f g) (K.2.1 20 0) 5 4 = some (.inl (f 20 0 4)) := jy_gFi h.2.1 rfl rfl
theorem ru_s4 (h : jl_R K g) : jx_sF (jy_w K f g) (K.2.1 20 0) 5 4 (.inl x) = some (jy_w K (jy_up f 20 0 4 x) g) := jy_sFi h.1 h.2.1 rfl rfl
theorem ru_g5 (h : jl_R K g) : jx_gF (jy_w K f g) (K.2.1 20 0) 5 5 = some (.inr (some (K.2.1 25 0))) := (jy_gFr h.2.1 rfl rfl).trans (congrArg (fun z => some (Sum.inr z)) (h.2.2 5 (by decide)).2)
theorem ru_a5 (h : jl_R K g) : jx_gI Z 0 (jy_w K f g) (K.2.1 25 0) j = if j < 0 ∨ 8 ≤ j.toNatClampNeg then none else some (f 25 0 j.toNatClampNeg) := jy_gI (h.2.2 5 (by decide)).1 rfl
theorem ru_b5 (h : jl_R K g) : jx_sI 0 (jy_w K f g) (K.2.1 25 0) j x = if j < 0 ∨ 8 ≤ j.toNatClampNeg then none else some (jy_w K (jy_up f 25 0 j.toNatClampNeg x) g) := jy_sI h.1 (h.2.2 5 (by decide)).1 rfl
theorem ru_g6 (h : jl_R K g) : jx_gF (jy_w K f g) (K.2.1 20 0) 5 6 = some (.inr (some (K.2.1 26 0))) := (jy_gFr h.2.1 rfl rfl).trans (congrArg (fun z => some (Sum.inr z)) (h.2.2 6 (by decide)).2)
theorem ru_a6 (h : jl_R K g) : jx_gI Z 1 (jy_w K f g) (K.2.1 26 0) j = if j < 0 ∨ 8 ≤ j.toNatClampNeg then none else some (f 26 0 j.toNatClampNeg) := jy_gI (h.2.2 6 (by decide)).1 rfl
theorem ru_b6 (h : jl_R K g) : jx_sI 1 (jy_w K f g) (K.2.1 26 0) j x = if j < 0 ∨ 8 ≤ j.toNatClampNeg then none else some (jy_w K (jy_up f 26 0 j.toNatClampNeg x) g) := jy_sI h.1 (h.2.2 6 (by decide)).1 rfl
theorem ru_g7 (h : jl_R K g) : jx_gF (jy_w K f g) (K.2.1 20 0) 5 7 = some (.inr (some (K.2.1 27 0))) := (jy_gFr h.2.1 rfl rfl).trans (congrArg (fun z => some (Sum.inr z)) (h.2.2 7 (by decide)).2)
theorem ru_a7 (h : jl_R K g) : jx_gI Z 0 (jy_w K f g) (K.2.1 27 0) j = if j < 0 ∨ 32 ≤ j.toNatClampNeg then none else some (f 27 0 j.toNatClampNeg) := jy_gI (h.2.2 7 (by decide)).1 rfl
theorem ru_b7 (h : jl_R K g) : jx_sI 0 (jy_w K f g) (K.2.1 27 0) j x = if j < 0 ∨ 32 ≤ j.toNatClampNeg then none else some (jy_w K (jy_up f 27 0 j.toNatClampNeg x) g) := jy_sI h.1 (h.2.2 7 (by decide)).1 rfl
theorem ru_g8 (h : jl_R K g) : jx_gF (jy_w K f g) (K.2.1 20 0) 5 8 = some (.inl (f 20 0 8)) := jy_gFi h.2.1 rfl rfl
theorem ru_s8 (h : jl_R K g) : jx_sF (jy_w K f g) (K.2.1 20 0) 5 8 (.inl x) = some (jy_w K (jy_up f 20 0 8 x) g) := jy_sFi h.1 h.2.1 rfl rfl
theorem ru_g9 (h : jl_R K g) : jx_gF (jy_w K f g) (K.2.1 20 0) 5 9 = some (.inr (some (K.2.1 29 0))) := (jy_gFr h.2.1 rfl rfl).trans (congrArg (fun z => some (Sum.inr z)) (h.2.2 9 (by decide)).2)
theorem ru_a9 (h : jl_R K g) : jx_gI Z 1 (jy_w K f g) (K.2.1 29 0) j = if j < 0 ∨ 25 ≤ j.toNatClampNeg then none else some (f 29 0 j.toNatClampNeg) := jy_gI (h.2.2 9 (by decide)).1 rfl
theorem ru_b9 (h : jl_R K g) : jx_sI 1 (jy_w K f g) (K.2.1 29 0) j x = if j < 0 ∨ 25 ≤ j.toNatClampNeg then none else some (jy_w K (jy_up f 29 0 j.toNatClampNeg x) g) := jy_sI h.1 (h.2.2 9 (by decide)).1 rfl
theorem ru_g10 (h : jl_R K g) : jx_gF (jy_w K f g) (K.2.1 20 0) 5 10 = some (.inr (some (K.2.1 30 0))) := (jy_gFr h.2.1 rfl rfl).trans (congrArg (fun z => some (Sum.inr z)) (h.2.2 10 (by decide)).2)
theorem ru_a10 (h : jl_R K g) : jx_gI Z 1 (jy_w K f g) (K.2.1 30 0) j = if j < 0 ∨ 200 ≤ j.toNatClampNeg then none else some (f 30 0 j.toNatClampNeg) := jy_gI (h.2.2 10 (by decide)).1 rfl
theorem ru_b10 (h : jl_R K g) : jx_sI 1 (jy_w K f g) (K.2.1 30 0) j x = if j < 0 ∨ 200 ≤ j.toNatClampNeg then none else some (jy_w K (jy_up f 30 0 j.toNatClampNeg x) g) := jy_sI h.1 (h.2.2 10 (by decide)).1 rfl
theorem ru_g11 (h : jl_R K g) : jx_gF (jy_w K f g) (K.2.1 20 0) 5 11 = some (.inr (some (K.2.1 31 0))) := (jy_gFr h.2.1 rfl rfl).trans (congrArg (fun z => some (Sum.inr z)) (h.2.2 11 (by decide)).2)
theorem ru_a11 (h : jl_R K g) : jx_gI Z 1 (jy_w K f g) (K.2.1 31 0) j = if j < 0 ∨ 200 ≤ j.toNatClampNeg then none else some (f 31 0 j.toNatClampNeg) := jy_gI (h.2.2 11 (by decide)).1 rfl
theorem ru_b11 (h : jl_R K g) : jx_sI 1 (jy_w K f g) (K.2.1 31 0) j x = if j < 0 ∨ 200 ≤ j.toNatClampNeg then none else some (jy_w K (jy_up f 31 0 j.toNatClampNeg x) g) := jy_sI h.1 (h.2.2 11 (by decide)).1 rfl
theorem ru_g12 (h : jl_R K g) : jx_gF (jy_w K f g) (K.2.1 20 0) 5 12 = some (.inr (some (K.2.1 32 0))) := (jy_gFr h.2.1 rfl rfl).trans (congrArg (fun z => some (Sum.inr z)) (h.2.2 12 (by decide)).2)
theorem ru_a12 (h : jl_R K g) : jx_gI Z 0 (jy_w K f g) (K.2.1 32 0) j = if j < 0 ∨ 200 ≤ j.toNatClampNeg then none else some (f 32 0 j.toNatClampNeg) := jy_gI (h.2.2 12 (by decide)).1 rfl
theorem ru_b12 (h : jl_R K g) : jx_sI 0 (jy_w K f g) (K.2.1 32 0) j x = if j < 0 ∨ 200 ≤ j.toNatClampNeg then none else some (jy_w K (jy_up f 32 0 j.toNatClampNeg x) g) := jy_sI h.1 (h.2.2 12 (by decide)).1 rfl
theorem ru_g13 (h : jl_R K g) : jx_gF (jy_w K f g) (K.2.1 20 0) 5 13 = some (.inr (some (K.2.1 33 0))) := (jy_gFr h.2.1 rfl rfl).trans (congrArg (fun z => some (Sum.inr z)) (h.2.2 13 (by decide)).2)
theorem ru_a13 (h : jl_R K g) : jx_gI Z 0 (jy_w K f g) (K.2.1 33 0) j = if j < 0 ∨ 200 ≤ j.toNatClampNeg then none else some (f 33 0 j.toNatClampNeg) := jy_gI (h.2.2 13 (by decide)).1 rfl
theorem ru_b13 (h : jl_R K g) : jx_sI 0 (jy_w K f g) (K.2.1 33 0) j x = if j < 0 ∨ 200 ≤ j.toNatClampNeg then none else some (jy_w K (jy_up f 33 0 j.toNatClampNeg x) g) := jy_sI h.1 (h.2.2 13 (by decide)).1 rfl
theorem ru_g14 (h : jl_R K g) : jx_gF (jy_w K f g) (K.2.1 20 0) 5 14 = some (.inr (some (K.2.1 34 0))) := (jy_gFr h.2.1 rfl rfl).trans (congrArg (fun z => some (Sum.inr z)) (h.2.2 14 (by decide)).2)
theorem ru_a14 (h : jl_R K g) : jx_gI Z 0 (jy_w K f g) (K.2.1 34 0) j = if j < 0 ∨ 200 ≤ j.toNatClampNeg then none else some (f 34 0 j.toNatClampNeg) := jy_gI (h.2.2 14 (by decide)).1 rfl
theorem ru_b14 (h : jl_R K g) : jx_sI 0 (jy_w K f g) (K.2.1 34 0) j x = if j < 0 ∨ 200 ≤ j.toNatClampNeg then none else some (jy_w K (jy_up f 34 0 j.toNatClampNeg x) g) := jy_sI h.1 (h.2.2 14 (by decide)).1 rfl
theorem ru_g15 (h : jl_R K g) : jx_gF (jy_w K f g) (K.2.1 20 0) 5 15 = some (.inr (some (K.2.1 35 0))) := (jy_gFr h.2.1 rfl rfl).trans (congrArg (fun z => some (Sum.inr z)) (h.2.2 15 (by decide)).2)
theorem ru_a15 (h : jl_R K g) : jx_gI Z 0 (jy_w K f g) (K.2.1 35 0) j = if j < 0 ∨ 200 ≤ j.toNatClampNeg then none else some (f 35 0 j.toNatClampNeg) := jy_gI (h.2.2 15 (by decide)).1 rfl
theorem ru_b15 (h : jl_R K g) : jx_sI 0 (jy_w K f g) (K.2.1 35 0) j x = if j < 0 ∨ 200 ≤ j.toNatClampNeg then none else some (jy_w K (jy_up f 35 0 j.toNatClampNeg x) g) := jy_sI h.1 (h.2.2 15 (by decide)).1 rfl
theorem ru_g16 (h : jl_R K g) : jx_gF (jy_w K f g) (K.2.1 20 0) 5 16 = some (.inr (some (K.2.1 36 0))) := (jy_gFr h.2.1 rfl rfl).trans (congrArg (fun z => some (Sum.inr z)) (h.2.2 16 (by decide)).2)
theorem ru_a16 (h : jl_R K g) : jx_gI Z 1 (jy_w K f g) (K.2.1 36 0) j = if j < 0 ∨ 16 ≤ j.toNatClampNeg then none else some (f 36 0 j.toNatClampNeg) := jy_gI (h.2.2 16 (by decide)).1 rfl
theorem ru_b16 (h : jl_R K g) : jx_sI 1 (jy_w K f g) (K.2.1 36 0) j x = if j < 0 ∨ 16 ≤ j.toNatClampNeg then none else some (jy_w K (jy_up f 36 0 j.toNatClampNeg x) g) := jy_sI h.1 (h.2.2 16 (by decide)).1 rfl
theorem ru_g17 (h : jl_R K g) : jx_gF (jy_w K f g) (K.2.1 20 0) 5 17 = some (.inr (some (K.2.1 37 0))) := (jy_gFr h.2.1 rfl rfl).trans (congrArg (fun z => some (Sum.inr z)) (h.2.2 17 (by decide)).2)
theorem ru_a17 (h : jl_R K g) : jx_gI Z 0 (jy_w K f g) (K.2.1 37 0) j = if j < 0 ∨ 16 ≤ j.toNatClampNeg then none else some (f 37 0 j.toNatClampNeg) := jy_gI (h.2.2 17 (by decide)).1 rfl
theorem ru_b17 (h : jl_R K g) : jx_sI 0 (jy_w K f g) (K.2.1 37 0) j x = if j < 0 ∨ 16 ≤ j.toNatClampNeg then none else some (jy_w K (jy_up f 37 0 j.toNatClampNeg x) g) := jy_sI h.1 (h.2.2 17 (by decide)).1 rfl
theorem ru_g18 (h : jl_R K g) : jx_gF (jy_w K f g) (K.2.1 20 0) 5 18 = some (.inr (some (K.2.1 38 0))) := (jy_gFr h.2.1 rfl rfl).trans (congrArg (fun z => some (Sum.inr z)) (h.2.2 18 (by decide)).2)
theorem ru_a18 (h : jl_R K g) : jx_gI Z 0 (jy_w K f g) (K.2.1 38 0) j = if j < 0 ∨ 16 ≤ j.toNatClampNeg then none else some (f 38 0 j.toNatClampNeg) := jy_gI (h.2.2 18 (by decide)).1 rfl
theorem ru_b18 (h : jl_R K g) : jx_sI 0 (jy_w K f g) (K.2.1 38 0) j x = if j < 0 ∨ 16 ≤ j.toNatClampNeg then none else some (jy_w K (jy_up f 38 0 j.toNatClampNeg x) g) := jy_sI h.1 (h.2.2 18 (by decide)).1 rfl
theorem ru_g19 (h : jl_R K g) : jx_gF (jy_w K f g) (K.2.1 20 0) 5 19 = some (.inr (some (K.2.1 39 0))) := (jy_gFr h.2.1 rfl rfl).trans (congrArg (fun z => some (Sum.inr z)) (h.2.2 19 (by decide)).2)
theorem ru_a19 (h : jl_R K g) : jx_gI Z 0 (jy_w K f g) (K.2.1 39 0) j = if j < 0 ∨ 16 ≤ j.toNatClampNeg then none else some (f 39 0 j.toNatClampNeg) := jy_gI (h.2.2 19 (by decide)).1 rfl
theorem ru_b19 (h : jl_R K g) : jx_sI 0 (jy_w K f g) (K.2.1 39 0) j x = if j < 0 ∨ 16 ≤ j.toNatClampNeg then none else some (jy_w K (jy_up f 39 0 j.toNatClampNeg x) g) := jy_sI h.1 (h.2.2 19 (by decide)).1 rfl
theorem ru_g20 (h : jl_R K g) : jx_gF (jy_w K f g) (K.2.1 20 0) 5 20 = some (.inr (some (K.2.1 40 0))) := (jy_gFr h.2.1 rfl rfl).trans (congrArg (fun z => some (Sum.inr z)) (h.2.2 20 (by decide)).2)
theorem ru_a20 (h : jl_R K g) : jx_gI Z 0 (jy_w K f g) (K.2.1 40 0) j = if j < 0 ∨ 16 ≤ j.toNatClampNeg then none else some (f 40 0 j.toNatClampNeg) := jy_gI (h.2.2 20 (by decide)).1 rfl
theorem ru_b20 (h : jl_R K g) : jx_sI 0 (jy_w K f g) (K.2.1 40 0) j x = if j < 0 ∨ 16 ≤ j.toNatClampNeg then none else some (jy_w K (jy_up f 40 0 j.toNatClampNeg x) g) := jy_sI h.1 (h.2.2 20 (by decide)).1 rfl
theorem ru_g21 (h : jl_R K g) : jx_gF (jy_w K f g) (K.2.1 20 0) 5 21 = some (.inr (some (K.2.1 41 0))) := (jy_gFr h.2.1 rfl rfl).trans (congrArg (fun z => some (Sum.inr z)) (h.2.2 21 (by decide)).2)
theorem ru_a21 (h : jl_R K g) : jx_gI Z 1 (jy_w K f g) (K.2.1 41 0) j = if j < 0 ∨ 8 ≤ j.toNatClampNeg then none else some (f 41 0 j.toNatClampNeg) := jy_gI (h.2.2 21 (by decide)).1 rfl
theorem ru_b21 (h : jl_R K g) : jx_sI 1 (jy_w K f g) (K.2.1 41 0) j x = if j < 0 ∨ 8 ≤ j.toNatClampNeg then none else some (jy_w K (jy_up f 41 0 j.toNatClampNeg x) g) := jy_sI h.1 (h.2.2 21 (by decide)).1 rfl
theorem ru_g22 (h : jl_R K g) : jx_gF (jy_w K f g) (K.2.1 20 0) 5 22 = some (.inr (some (K.2.1 42 0))) := (jy_gFr h.2.1 rfl rfl).trans (congrArg (fun z => some (Sum.inr z)) (h.2.2 22 (by decide)).2)
theorem ru_a22 (h : jl_R K g) : jx_gI Z 0 (jy_w K f g) (K.2.1 42 0) j = if j < 0 ∨ 8 ≤ j.toNatClampNeg then none else some (f 42 0 j.toNatClampNeg) := jy_gI (h.2.2 22 (by decide)).1 rfl
theorem ru_b22 (h : jl_R K g) : jx_sI 0 (jy_w K f g) (K.2.1 42 0) j x = if j < 0 ∨ 8 ≤ j.toNatClampNeg then none else some (jy_w K (jy_up f 42 0 j.toNatClampNeg x) g) := jy_sI h.1 (h.2.2 22 (by decide)).1 rfl
theorem ru_g23 (h : jl_R K g) : jx_gF (jy_w K f g) (K.2.1 20 0) 5 23 = some (.inr (some (K.2.1 43 0))) := (jy_gFr h.2.1 rfl rfl).trans (congrArg (fun z => some (Sum.inr z)) (h.2.2 23 (by decide)).2)
theorem ru_a23 (h : jl_R K g) : jx_gI Z 0 (jy_w K f g) (K.2.1 43 0) j = if j < 0 ∨ 8 ≤ j.toNatClampNeg then none else some (f 43 0 j.toNatClampNeg) := jy_gI (h.2.2 23 (by decide)).1 rfl
theorem ru_b23 (h : jl_R K g) : jx_sI 0 (jy_w K f g) (K.2.1 43 0) j x = if j < 0 ∨ 8 ≤ j.toNatClampNeg then none else some (jy_w K (jy_up f 43 0 j.toNatClampNeg x) g) := jy_sI h.1 (h.2.2 23 (by decide)).1 rfl
theorem ru_g24 (h : jl_R K g) : jx_gF (jy_w K f g) (K.2.1 20 0) 5 24 = some (.inr (some (K.2.1 44 0))) := (jy_gFr h.2.1 rfl rfl).trans (congrArg (fun z => some (Sum.inr z)) (h.2.2 24 (by decide)).2)
theorem ru_a24 (h : jl_R K g) : jx_gI Z 0 (jy_w K f g) (K.2.1 44 0) j = if j < 0 ∨ 8 ≤ j.toNatClampNeg then none else some (f 44 0 j.toNatClampNeg) := jy_gI (h.2.2 24 (by decide)).1 rfl
theorem ru_b24 (h : jl_R K g) : jx_sI 0 (jy_w K f g) (K.2.1 44 0) j x = if j < 0 ∨ 8 ≤ j.toNatClampNeg then none else some (jy_w K (jy_up f 44 0 j.toNatClampNeg x) g) := jy_sI h.1 (h.2.2 24 (by decide)).1 rfl
theorem ru_g25 (h : jl_R K g) : jx_gF (jy_w K f g) (K.2.1 20 0) 5 25 = some (.inr (some (K.2.1 45 0))) := (jy_gFr h.2.1 rfl rfl).trans (congrArg (fun z => some (Sum.inr z)) (h.2.2 25 (by decide)).2)
theorem ru_a25 (h : jl_R K g) : jx_gI Z 0 (jy_w K f g) (K.2.1 45 0) j = if j < 0 ∨ 8 ≤ j.toNatClampNeg then none else some (f 45 0 j.toNatClampNeg) := jy_gI (h.2.2 25 (by decide)).1 rfl
theorem ru_b25 (h : jl_R K g) : jx_sI 0 (jy_w K f g) (K.2.1 45 0) j x = if j < 0 ∨ 8 ≤ j.toNatClampNeg then none else some (jy_w K (jy_up f 45 0 j.toNatClampNeg x) g) := jy_sI h.1 (h.2.2 25 (by decide)).1 rfl
theorem ru_g26 (h : jl_R K g) : jx_gF (jy_w K f g) (K.2.1 20 0) 5 26 = some (.inr (some (K.2.1 46 0))) := (jy_gFr h.2.1 rfl rfl).trans (congrArg (fun z => some (Sum.inr z)) (h.2.2 26 (by decide)).2)
theorem ru_a26 (h : jl_R K g) : jx_gI Z 1 (jy_w K f g) (K.2.1 46 0) j = if j < 0 ∨ 200 ≤ j.toNatClampNeg then none else some (f 46 0 j.toNatClampNeg) := jy_gI (h.2.2 26 (by decide)).1 rfl
theorem ru_b26 (h : jl_R K g) : jx_sI 1 (jy_w K f g) (K.2.1 46 0) j x = if j < 0 ∨ 200 ≤ j.toNatClampNeg then none else some (jy_w K (jy_up f 46 0 j.toNatClampNeg x) g) := jy_sI h.1 (h.2.2 26 (by decide)).1 rfl
theorem ru_g27 (h : jl_R K g) : jx_gF (jy_w K f g) (K.2.1 20 0) 5 27 = some (.inr (some (K.2.1 47 0))) := (jy_gFr h.2.1 rfl rfl).trans (congrArg (fun z => some (Sum.inr z)) (h.2.2 27 (by decide)).2)
theorem ru_a27 (h : jl_R K g) : jx_gI Z 1 (jy_w K f g) (K.2.1 47 0) j = if j < 0 ∨ 200 ≤ j.toNatClampNeg then none else some (f 47 0 j.toNatClampNeg) := jy_gI (h.2.2 27 (by decide)).1 rfl
theorem ru_b27 (h : jl_R K g) : jx_sI 1 (jy_w K f g) (K.2.1 47 0) j x = if j < 0 ∨ 200 ≤ j.toNatClampNeg then none else some (jy_w K (jy_up f 47 0 j.toNatClampNeg x) g) := jy_sI h.1 (h.2.2 27 (by decide)).1 rfl
theorem ru_g28 (h : jl_R K g) : jx_gF (jy_w K f g) (K.2.1 20 0) 5 28 = some (.inr (some (K.2.1 48 0))) := (jy_gFr h.2.1 rfl rfl).trans (congrArg (fun z => some (Sum.inr z)) (h.2.2 28 (by decide)).2)
theorem ru_a28 (h : jl_R K g) : jx_gI Z 0 (jy_w K f g) (K.2.1 48 0) j = if j < 0 ∨ 200 ≤ j.toNatClampNeg then none else some (f 48 0 j.toNatClampNeg) := jy_gI (h.2.2 28 (by decide)).1 rfl
theorem ru_b28 (h : jl_R K g) : jx_sI 0 (jy_w K f g) (K.2.1 48 0) j x = if j < 0 ∨ 200 ≤ j.toNatClampNeg then none else some (jy_w K (jy_up f 48 0 j.toNatClampNeg x) g) := jy_sI h.1 (h.2.2 28 (by decide)).1 rfl
theorem ru_g29 (h : jl_R K g) : jx_gF (jy_w K f g) (K.2.1 20 0) 5 29 = some (.inr (some (K.2.1 49 0))) := (jy_gFr h.2.1 rfl rfl).trans (congrArg (fun z => some (Sum.inr z)) (h.2.2 29 (by decide)).2)
theorem ru_a29 (h : jl_R K g) : jx_gI Z 0 (jy_w K f g) (K.2.1 49 0) j = if j < 0 ∨ 8 ≤ j.toNatClampNeg then none else some (f 49 0 j.toNatClampNeg) := jy_gI (h.2.2 29 (by decide)).1 rfl
theorem ru_b29 (h : jl_R K g) : jx_sI 0 (jy_w K f g) (K.2.1 49 0) j x = if j < 0 ∨ 8 ≤ j.toNatClampNeg then none else some (jy_w K (jy_up f 49 0 j.toNatClampNeg x) g) := jy_sI h.1 (h.2.2 29 (by decide)).1 rfl
theorem ru_n3 (h : jl_R K g) {k : Nat} (hk : k < 4) : jx_gI Z 0 (jy_w K f g) (K.2.1 23 0) (nI k) = some (f 23 0 k) := by rw [ru_a3 h, if_neg (nI_in hk (by decide)), nI_clamp (Nat.lt_trans hk (by decide))]
theorem ru_m3 (h : jl_R K g) {k : Nat} (hk : k < 4) : jx_sI 0 (jy_w K f g) (K.2.1 23 0) (nI k) x = some (jy_w K (jy_up f 23 0 k x) g) := by rw [ru_b3 h, if_neg (nI_in hk (by decide)), nI_clamp (Nat.lt_trans hk (by decide))]
theorem ru_n5 (h : jl_R K g) {k : Nat} (hk : k < 8) : jx_gI Z 0 (jy_w K f g) (K.2.1 25 0) (nI k) = some (f 25 0 k) := by rw [ru_a5 h, if_neg (nI_in hk (by decide)), nI_clamp (Nat.lt_trans hk (by decide))]
theorem ru_m5 (h : jl_R K g) {k : Nat} (hk : k < 8) : jx_sI 0 (jy_w K f g) (K.2.1 25 0) (nI k) x = some (jy_w K (jy_up f 25 0 k x) g) := by rw [ru_b5 h, if_neg (nI_in hk (by decide)), nI_clamp (Nat.lt_trans hk (by decide))]
theorem ru_n6 (h : jl_R K g) {k : Nat} (hk : k < 8) : jx_gI Z 1 (jy_w K f g) (K.2.1 26 0) (nI k) = some (f 26 0 k) := by rw [ru_a6 h, if_neg (nI_in hk (by decide)), nI_clamp (Nat.lt_trans hk (by decide))]
theorem ru_m6 (h : jl_R K g) {k : Nat} (hk : k < 8) : jx_sI 1 (jy_w K f g) (K.2.1 26 0) (nI k) x = some (jy_w K (jy_up f 26 0 k x) g) := by rw [ru_b6 h, if_neg (nI_in hk (by decide)), nI_clamp (Nat.lt_trans hk (by decide))]
theorem ru_n7 (h : jl_R K g) {k : Nat} (hk : k < 32) : jx_gI Z 0 (jy_w K f g) (K.2.1 27 0) (nI k) = some (f 27 0 k) := by rw [ru_a7 h, if_neg (nI_in hk (by decide)), nI_clamp (Nat.lt_trans hk (by decide))]
theorem ru_m7 (h : jl_R K g) {k : Nat} (hk : k < 32) : jx_sI 0 (jy_w K f g) (K.2.1 27 0) (nI k) x = some (jy_w K (jy_up f 27 0 k x) g) := by rw [ru_b7 h, if_neg (nI_in hk (by decide)), nI_clamp (Nat.lt_trans hk (by decide))]
theorem ru_n9 (h : jl_R K g) {k : Nat} (hk : k < 25) : jx_gI Z 1 (jy_w K f g) (K.2.1 29 0) (nI k) = some (f 29 0 k) := by rw [ru_a9 h, if_neg (nI_in hk (by decide)), nI_clamp (Nat.lt_trans hk (by decide))]
theorem ru_m9 (h : jl_R K g) {k : Nat} (hk : k < 25) : jx_sI 1 (jy_w K f g) (K.2.1 29 0) (nI k) x = some (jy_w K (jy_up f 29 0 k x) g) := by rw [ru_b9 h, if_neg (nI_in hk (by decide)), nI_clamp (Nat.lt_trans hk (by decide))]
theorem ru_n10 (h : jl_R K g) {k : Nat} (hk : k < 200) : jx_gI Z 1 (jy_w K f g) (K.2.1 30 0) (nI k) = some (f 30 0 k) := by rw [ru_a10 h, if_neg (nI_in hk (by decide)), nI_clamp (Nat.lt_trans hk (by decide))]
theorem ru_m10 (h : jl_R K g) {k : Nat} (hk : k < 200) : jx_sI 1 (jy_w K f g) (K.2.1 30 0) (nI k) x = some (jy_w K (jy_up f 30 0 k x) g) := by rw [ru_b10 h, if_neg (nI_in hk (by decide)), nI_clamp (Nat.lt_trans hk (by decide))]
theorem ru_n11 (h : jl_R K g) {k : Nat} (hk : k < 200) : jx_gI Z 1 (jy_w K f g) (K.2.1 31 0) (nI k) = some (f 31 0 k) := by rw [ru_a11 h, if_neg (nI_in hk (by decide)), nI_clamp (Nat.lt_trans hk (by decide))]
theorem ru_m11 (h : jl_R K g) {k : Nat} (hk : k < 200) : jx_sI 1 (jy_w K f g) (K.2.1 31 0) (nI k) x = some (jy_w K (jy_up f 31 0 k x) g) := by rw [ru_b11 h, if_neg (nI_in hk (by decide)), nI_clamp (Nat.lt_trans hk (by decide))]
theorem ru_n12 (h : jl_R K g) {k : Nat} (hk : k < 200) : jx_gI Z 0 (jy_w K f g) (K.2.1 32 0) (nI k) = some (f 32 0 k) := by rw [ru_a12 h, if_neg (nI_in hk (by decide)), nI_clamp (Nat.lt_trans hk (by decide))]
theorem ru_m12 (h : jl_R K g) {k : Nat} (hk : k < 200) : jx_sI 0 (jy_w K f g) (K.2.1 32 0) (nI k) x = some (jy_w K (jy_up f 32 0 k x) g) := by rw [ru_b12 h, if_neg (nI_in hk (by decide)), nI_clamp (Nat.lt_trans hk (by decide))]
theorem ru_n13 (h : jl_R K g) {k : Nat} (hk : k < 200) : jx_gI Z 0 (jy_w K f g) (K.2.1 33 0) (nI k) = some (f 33 0 k) := by rw [ru_a13 h, if_neg (nI_in hk (by decide)), nI_clamp (Nat.lt_trans hk (by decide))]
theorem ru_m13 (h : jl_R K g) {k : Nat} (hk : k < 200) : jx_sI 0 (jy_w K f g) (K.2.1 33 0) (nI k) x = some (jy_w K (jy_up f 33 0 k x) g) := by rw [ru_b13 h, if_neg (nI_in hk (by decide)), nI_clamp (Nat.lt_trans hk (by decide))]
theorem ru_n14 (h : jl_R K g) {k : Nat} (hk : k < 200) : jx_gI Z 0 (jy_w K f g) (K.2.1 34 0) (nI k) = some (f 34 0 k) := by rw [ru_a14 h, if_neg (nI_in hk (by decide)), nI_clamp (Nat.lt_trans hk (by decide))]
theorem ru_m14 (h : jl_R K g) {k : Nat} (hk : k < 200) : jx_sI 0 (jy_w K f g) (K.2.1 34 0) (nI k) x = some (jy_w K (jy_up f 34 0 k x) g) := by rw [ru_b14 h, if_neg (nI_in hk (by decide)), nI_clamp (Nat.lt_trans hk (by decide))]
theorem ru_n15 (h : jl_R K g) {k : Nat} (hk : k < 200) : jx_gI Z 0 (jy_w K f g) (K.2.1 35 0) (nI k) = some (f 35 0 k) := by rw [ru_a15 h, if_neg (nI_in hk (by decide)), nI_clamp (Nat.lt_trans hk (by decide))]
theorem ru_m15 (h : jl_R K g) {k : Nat} (hk : k < 200) : jx_sI 0 (jy_w K f g) (K.2.1 35 0) (nI k) x = some (jy_w K (jy_up f 35 0 k x) g) := by rw [ru_b15 h, if_neg (nI_in hk (by decide)), nI_clamp (Nat.lt_trans hk (by decide))]
theorem ru_n16 (h : jl_R K g) {k : Nat} (hk : k < 16) : jx_gI Z 1 (jy_w K f g) (K.2.1 36 0) (nI k) = some (f 36 0 k) := by rw [ru_a16 h, if_neg (nI_in hk (by decide)), nI_clamp (Nat.lt_trans hk (by decide))]
theorem ru_m16 (h : jl_R K g) {k : Nat} (hk : k < 16) : jx_sI 1 (jy_w K f g) (K.2.1 36 0) (nI k) x = some (jy_w K (jy_up f 36 0 k x) g) := by rw [ru_b16 h, if_neg (nI_in hk (by decide)), nI_clamp (Nat.lt_trans hk (by decide))]
theorem ru_n17 (h : jl_R K g) {k : Nat} (hk : k < 16) : jx_gI Z 0 (jy_w K f g) (K.2.1 37 0) (nI k) = some (f 37 0 k) := by rw [ru_a17 h, if_neg (nI_in hk (by decide)), nI_clamp (Nat.lt_trans hk (by decide))]
theorem ru_m17 (h : jl_R K g) {k : Nat} (hk : k < 16) : jx_sI 0 (jy_w K f g) (K.2.1 37 0) (nI k) x = some (jy_w K (jy_up f 37 0 k x) g) := by rw [ru_b17 h, if_neg (nI_in hk (by decide)), nI_clamp (Nat.lt_trans hk (by decide))]
theorem ru_n18 (h : jl_R K g) {k : Nat} (hk : k < 16) : jx_gI Z 0 (jy_w K f g) (K.2.1 38 0) (nI k) = some (f 38 0 k) := by rw [ru_a18 h, if_neg (nI_in hk (by decide)), nI_clamp (Nat.lt_trans hk (by decide))]
theorem ru_m18 (h : jl_R K g) {k : Nat} (hk : k < 16) : jx_sI 0 (jy_w K f g) (K.2.1 38 0) (nI k) x = some (jy_w K (jy_up f 38 0 k x) g) := by rw [ru_b18 h, if_neg (nI_in hk (by decide)), nI_clamp (Nat.lt_trans hk (by decide))]
theorem ru_n19 (h : jl_R K g) {k : Nat} (hk : k < 16) : jx_gI Z 0 (jy_w K f g) (K.2.1 39 0) (nI k) = some (f 39 0 k) := by rw [ru_a19 h, if_neg (nI_in hk (by decide)), nI_clamp (Nat.lt_trans hk (by decide))]
theorem ru_m19 (h : jl_R K g) {k : Nat} (hk : k < 16) : jx_sI 0 (jy_w K f g) (K.2.1 39 0) (nI k) x = some (jy_w K (jy_up f 39 0 k x) g) := by rw [ru_b19 h, if_neg (nI_in hk (by decide)), nI_clamp (Nat.lt_trans hk (by decide))]
theorem ru_n20 (h : jl_R K g) {k : Nat} (hk : k < 16) : jx_gI Z 0 (jy_w K f g) (K.2.1 40 0) (nI k) = some (f 40 0 k) := by rw [ru_a20 h, if_neg (nI_in hk (by decide)), nI_clamp (Nat.lt_trans hk (by decide))]
theorem ru_m20 (h : jl_R K g) {k : Nat} (hk : k < 16) : jx_sI 0 (jy_w K f g) (K.2.1 40 0) (nI k) x = some (jy_w K (jy_up f 40 0 k x) g) := by rw [ru_b20 h, if_neg (nI_in hk (by decide)), nI_clamp (Nat.lt_trans hk (by decide))]
theorem ru_n21 (h : jl_R K g) {k : Nat} (hk : k < 8) : jx_gI Z 1 (jy_w K f g) (K.2.1 41 0) (nI k) = some (f 41 0 k) := by rw [ru_a21 h, if_neg (nI_in hk (by decide)), nI_clamp (Nat.lt_trans hk (by decide))]
theorem ru_m21 (h : jl_R K g) {k : Nat} (hk : k < 8) : jx_sI 1 (jy_w K f g) (K.2.1 41 0) (nI k) x = some (jy_w K (jy_up f 41 0 k x) g) := by rw [ru_b21 h, if_neg (nI_in hk (by decide)), nI_clamp (Nat.lt_trans hk (by decide))]
theorem ru_n22 (h : jl_R K g) {k : Nat} (hk : k < 8) : jx_gI Z 0 (jy_w K f g) (K.2.1 42 0) (nI k) = some (f 42 0 k) := by rw [ru_a22 h, if_neg (nI_in hk (by decide)), nI_clamp (Nat.lt_trans hk (by decide))]
theorem ru_m22 (h : jl_R K g) {k : Nat} (hk : k < 8) : jx_sI 0 (jy_w K f g) (K.2.1 42 0) (nI k) x = some (jy_w K (jy_up f 42 0 k x) g) := by rw [ru_b22 h, if_neg (nI_in hk (by decide)), nI_clamp (Nat.lt_trans hk (by decide))]
theorem ru_n23 (h : jl_R K g) {k : Nat} (hk : k < 8) : jx_gI Z 0 (jy_w K f g) (K.2.1 43 0) (nI k) = some (f 43 0 k) := by rw [ru_a23 h, if_neg (nI_in hk (by decide)), nI_clamp (Nat.lt_trans hk (by decide))]
theorem ru_m23 (h : jl_R K g) {k : Nat} (hk : k < 8) : jx_sI 0 (jy_w K f g) (K.2.1 43 0) (nI k) x = some (jy_w K (jy_up f 43 0 k x) g) := by rw [ru_b23 h, if_neg (nI_in hk (by decide)), nI_clamp (Nat.lt_trans hk (by decide))]
theorem ru_n24 (h : jl_R K g) {k : Nat} (hk : k < 8) : jx_gI Z 0 (jy_w K f g) (K.2.1 44 0) (nI k) = some (f 44 0 k) := by rw [ru_a24 h, if_neg (nI_in hk (by decide)), nI_clamp (Nat.lt_trans hk (by decide))]
theorem ru_m24 (h : jl_R K g) {k : Nat} (hk : k < 8) : jx_sI 0 (jy_w K f g) (K.2.1 44 0) (nI k) x = some (jy_w K (jy_up f 44 0 k x) g) := by rw [ru_b24 h, if_neg (nI_in hk (by decide)), nI_clamp (Nat.lt_trans hk (by decide))]
theorem ru_n25 (h : jl_R K g) {k : Nat} (hk : k < 8) : jx_gI Z 0 (jy_w K f g) (K.2.1 45 0) (nI k) = some (f 45 0 k) := by rw [ru_a25 h, if_neg (nI_in hk (by decide)), nI_clamp (Nat.lt_trans hk (by decide))]
theorem ru_m25 (h : jl_R K g) {k : Nat} (hk : k < 8) : jx_sI 0 (jy_w K f g) (K.2.1 45 0) (nI k) x = some (jy_w K (jy_up f 45 0 k x) g) := by rw [ru_b25 h, if_neg (nI_in hk (by decide)), nI_clamp (Nat.lt_trans hk (by decide))]
theorem ru_n26 (h : jl_R K g) {k : Nat} (hk : k < 200) : jx_gI Z 1 (jy_w K f g) (K.2.1 46 0) (nI k) = some (f 46 0 k) := by rw [ru_a26 h, if_neg (nI_in hk (by decide)), nI_clamp (Nat.lt_trans hk (by decide))]
theorem ru_m26 (h : jl_R K g) {k : Nat} (hk : k < 200) : jx_sI 1 (jy_w K f g) (K.2.1 46 0) (nI k) x = some (jy_w K (jy_up f 46 0 k x) g) := by rw [ru_b26 h, if_neg (nI_in hk (by decide)), nI_clamp (Nat.lt_trans hk (by decide))]
theorem ru_n27 (h : jl_R K g) {k : Nat} (hk : k < 200) : jx_gI Z 1 (jy_w K f g) (K.2.1 47 0) (nI k) = some (f 47 0 k) := by rw [ru_a27 h, if_neg (nI_in hk (by decide)), nI_clamp (Nat.lt_trans hk (by decide))]
theorem ru_m27 (h : jl_R K g) {k : Nat} (hk : k < 200) : jx_sI 1 (jy_w K f g) (K.2.1 47 0) (nI k) x = some (jy_w K (jy_up f 47 0 k x) g) := by rw [ru_b27 h, if_neg (nI_in hk (by decide)), nI_clamp (Nat.lt_trans hk (by decide))]
theorem ru_n28 (h : jl_R K g) {k : Nat} (hk : k < 200) : jx_gI Z 0 (jy_w K f g) (K.2.1 48 0) (nI k) = some (f 48 0 k) := by rw [ru_a28 h, if_neg (nI_in hk (by decide)), nI_clamp (Nat.lt_trans hk (by decide))]
theorem ru_m28 (h : jl_R K g) {k : Nat} (hk : k < 200) : jx_sI 0 (jy_w K f g) (K.2.1 48 0) (nI k) x = some (jy_w K (jy_up f 48 0 k x) g) := by rw [ru_b28 h, if_neg (nI_in hk (by decide)), nI_clamp (Nat.lt_trans hk (by decide))]
theorem ru_n29 (h : jl_R K g) {k : Nat} (hk : k < 8) : jx_gI Z 0 (jy_w K f g) (K.2.1 49 0) (nI k) = some (f 49 0 k) := by rw [ru_a29 h, if_neg (nI_in hk (by decide)), nI_clamp (Nat.lt_trans hk (by decide))]
theorem ru_m29 (h : jl_R K g) {k : Nat} (hk : k < 8) : jx_sI 0 (jy_w K f g) (K.2.1 49 0) (nI k) x = some (jy_w K (jy_up f 49 0 k x) g) := by rw [ru_b29 h, if_neg (nI_in hk (by decide)), nI_clamp (Nat.lt_trans hk (by decide))]
end JU
