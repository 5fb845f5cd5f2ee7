/-! a row for each read and each write (by gen_state.py) -/
section JV
variable {Z : jx_Sc} {K : jy_K} {f : jy_I} {g : jy_R} {i : Nat} {j x : Int32} {r : Option Nat}
theorem jv_g0_0 (h : jy_lv K 0 i) : jx_gF (jy_w K f g) (K.2.1 0 i) 0 0 = some (.inl (f 0 i 0)) := jy_gFi h rfl rfl
theorem jv_s0_0 (ho : jy_ok K) (h : jy_lv K 0 i) : jx_sF (jy_w K f g) (K.2.1 0 i) 0 0 (.inl x) = some (jy_w K (jy_up f 0 i 0 x) g) := jy_sFi ho h rfl rfl
theorem jv_g0_1 (h : jy_lv K 0 i) : jx_gF (jy_w K f g) (K.2.1 0 i) 0 1 = some (.inl (f 0 i 1)) := jy_gFi h rfl rfl
theorem jv_s0_1 (ho : jy_ok K) (h : jy_lv K 0 i) : jx_sF (jy_w K f g) (K.2.1 0 i) 0 1 (.inl x) = some (jy_w K (jy_up f 0 i 1 x) g) := jy_sFi ho h rfl rfl
theorem jv_g0_2 (h : jy_lv K 0 i) : jx_gF (jy_w K f g) (K.2.1 0 i) 0 2 = some (.inr (g 0 i 2)) := jy_gFr h rfl rfl
theorem jv_s0_2 (ho : jy_ok K) (h : jy_lv K 0 i) : jx_sF (jy_w K f g) (K.2.1 0 i) 0 2 (.inr r) = some (jy_w K f (jy_up g 0 i 2 r)) := jy_sFr ho h rfl rfl
theorem jv_g0_3 (h : jy_lv K 0 i) : jx_gF (jy_w K f g) (K.2.1 0 i) 0 3 = some (.inr (g 0 i 3)) := jy_gFr h rfl rfl
theorem jv_s0_3 (ho : jy_ok K) (h : jy_lv K 0 i) : jx_sF (jy_w K f g) (K.2.1 0 i) 0 3 (.inr r) = some (jy_w K f (jy_up g 0 i 3 r)) := jy_sFr ho h rfl rfl
theorem jv_g0_4 (h : jy_lv K 0 i) : jx_gF (jy_w K f g) (K.2.1 0 i) 0 4 = some (.inr (g 0 i 4)) := jy_gFr h rfl rfl
theorem jv_s0_4 (ho : jy_ok K) (h : jy_lv K 0 i) : jx_sF (jy_w K f g) (K.2.1 0 i) 0 4 (.inr r) = some (jy_w K f (jy_up g 0 i 4 r)) := jy_sFr ho h rfl rfl
theorem jv_g0_5 (h : jy_lv K 0 i) : jx_gF (jy_w K f g) (K.2.1 0 i) 0 5 = some (.inl (f 0 i 5)) := jy_gFi h rfl rfl
theorem jv_s0_5 (ho : jy_ok K) (h : jy_lv K 0 i) : jx_sF (jy_w K f g) (K.2.1 0 i) 0 5 (.inl x) = some (jy_w K (jy_up f 0 i 5 x) g) := jy_sFi ho h rfl rfl
theorem jv_g0_6 (h : jy_lv K 0 i) : jx_gF (jy_w K f g) (K.2.1 0 i) 0 6 = some (.inr (g 0 i 6)) := jy_gFr h rfl rfl
theorem jv_s0_6 (ho : jy_ok K) (h : jy_lv K 0 i) : jx_sF (jy_w K f g) (K.2.1 0 i) 0 6 (.inr r) = some (jy_w K f (jy_up g 0 i 6 r)) := jy_sFr ho h rfl rfl
theorem jv_g0_7 (h : jy_lv K 0 i) : jx_gF (jy_w K f g) (K.2.1 0 i) 0 7 = some (.inl (f 0 i 7)) := jy_gFi h rfl rfl
theorem jv_s0_7 (ho : jy_ok K) (h : jy_lv K 0 i) : jx_sF (jy_w K f g) (K.2.1 0 i) 0 7 (.inl x) = some (jy_w K (jy_up f 0 i 7 x) g) := jy_sFi ho h rfl rfl
theorem jv_g0_8 (h : jy_lv K 0 i) : jx_gF (jy_w K f g) (K.2.1 0 i) 0 8 = some (.inr (g 0 i 8)) := jy_gFr h rfl rfl
theorem jv_s0_8 (ho : jy_ok K) (h : jy_lv K 0 i) : jx_sF (jy_w K f g) (K.2.1 0 i) 0 8 (.inr r) = some (jy_w K f (jy_up g 0 i 8 r)) := jy_sFr ho h rfl rfl
theorem jv_g0_9 (h : jy_lv K 0 i) : jx_gF (jy_w K f g) (K.2.1 0 i) 0 9 = some (.inr (g 0 i 9)) := jy_gFr h rfl rfl
theorem jv_s0_9 (ho : jy_ok K) (h : jy_lv K 0 i) : jx_sF (jy_w K f g) (K.2.1 0 i) 0 9 (.inr r) = some (jy_w K f (jy_up g 0 i 9 r)) := jy_sFr ho h rfl rfl
theorem jv_g0_10 (h : jy_lv K 0 i) : jx_gF (jy_w K f g) (K.2.1 0 i) 0 10 = some (.inl (f 0 i 10)) := jy_gFi h rfl rfl
theorem jv_s0_10 (ho : jy_ok K) (h : jy_lv K 0 i) : jx_sF (jy_w K f g) (K.2.1 0 i) 0 10 (.inl x) = some (jy_w K (jy_up f 0 i 10 x) g) := jy_sFi ho h rfl rfl
theorem jv_is0 (h : jy_lv K 0 i) : jx_is (jy_w K f g) (K.2.1 0 i) 0 = true := jy_is h rfl
theorem jv_g1 (h : jy_lv K 1 i) : jx_gI Z 0 (jy_w K f g) (K.2.1 1 i) j = if j < 0 ∨ 4 ≤ j.toNatClampNeg then none else some (f 1 i j.toNatClampNeg) := jy_gI h rfl
theorem jv_s1 (ho : jy_ok K) (h : jy_lv K 1 i) : jx_sI 0 (jy_w K f g) (K.2.1 1 i) j x = if j < 0 ∨ 4 ≤ j.toNatClampNeg then none else some (jy_w K (jy_up f 1 i j.toNatClampNeg x) g) := jy_sI ho h rfl
theorem jv_l1 (h : jy_lv K 1 i) : jx_gL Z (jy_w K f g) (K.2.1 1 i) = some 4 := jy_gL h rfl (by decide)
theorem jv_g2 (h : jy_lv K 2 i) : jx_gI Z 0 (jy_w K f g) (K.2.1 2 i) j = if j < 0 ∨ 32 ≤ j.toNatClampNeg then none else some (f 2 i j.toNatClampNeg) := jy_gI h rfl
theorem jv_s2 (ho : jy_ok K) (h : jy_lv K 2 i) : jx_sI 0 (jy_w K f g) (K.2.1 2 i) j x = if j < 0 ∨ 32 ≤ j.toNatClampNeg then none else some (jy_w K (jy_up f 2 i j.toNatClampNeg x) g) := jy_sI ho h rfl
theorem jv_l2 (h : jy_lv K 2 i) : jx_gL Z (jy_w K f g) (K.2.1 2 i) = some 32 := jy_gL h rfl (by decide)
theorem jv_g3 (h : jy_lv K 3 i) : jx_gA (jy_w K f g) (K.2.1 3 i) j = if j < 0 ∨ 8 ≤ j.toNatClampNeg then none else some (g 3 i j.toNatClampNeg) := jy_gA h rfl rfl
theorem jv_s3 (ho : jy_ok K) (h : jy_lv K 3 i) (hr : jx_ok (jy_w K f g) 2 r = true) : jx_sA (jy_w K f g) (K.2.1 3 i) j r = if j < 0 ∨ 8 ≤ j.toNatClampNeg then none else some (jy_w K f (jy_up g 3 i j.toNatClampNeg r)) := jy_sA ho h rfl hr
theorem jv_l3 (h : jy_lv K 3 i) : jx_gL Z (jy_w K f g) (K.2.1 3 i) = some 8 := jy_gL h rfl (by decide)
theorem jv_g4 (h : jy_lv K 4 i) : jx_gA (jy_w K f g) (K.2.1 4 i) j = if j < 0 ∨ 25 ≤ j.toNatClampNeg then none else some (g 4 i j.toNatClampNeg) := jy_gA h rfl rfl
theorem jv_s4 (ho : jy_ok K) (h : jy_lv K 4 i) (hr : jx_ok (jy_w K f g) 3 r = true) : jx_sA (jy_w K f g) (K.2.1 4 i) j r = if j < 0 ∨ 25 ≤ j.toNatClampNeg then none else some (jy_w K f (jy_up g 4 i j.toNatClampNeg r)) := jy_sA ho h rfl hr
theorem jv_l4 (h : jy_lv K 4 i) : jx_gL Z (jy_w K f g) (K.2.1 4 i) = some 25 := jy_gL h rfl (by decide)
theorem jv_g5 (h : jy_lv K 5 i) : jx_gA (jy_w K f g) (K.2.1 5 i) j = if j < 0 ∨ 8 ≤ j.toNatClampNeg then none else some (g 5 i j.toNatClampNeg) := jy_gA h rfl rfl
theorem jv_s5 (ho : jy_ok K) (h : jy_lv K 5 i) (hr : jx_ok (jy_w K f g) 4 r = true) : jx_sA (jy_w K f g) (K.2.1 5 i) j r = if j < 0 ∨ 8 ≤ j.toNatClampNeg then none else some (jy_w K f (jy_up g 5 i j.toNatClampNeg r)) := jy_sA ho h rfl hr
theorem jv_l5 (h : jy_lv K 5 i) : jx_gL Z (jy_w K f g) (K.2.1 5 i) = some 8 := jy_gL h rfl (by decide)
theorem jv_g6 (h : jy_lv K 6 i) : jx_gA (jy_w K f g) (K.2.1 6 i) j = if j < 0 ∨ 8 ≤ j.toNatClampNeg then none else some (g 6 i j.toNatClampNeg) := jy_gA h rfl rfl
theorem jv_s6 (ho : jy_ok K) (h : jy_lv K 6 i) (hr : jx_ok (jy_w K f g) 4 r = true) : jx_sA (jy_w K f g) (K.2.1 6 i) j r = if j < 0 ∨ 8 ≤ j.toNatClampNeg then none else some (jy_w K f (jy_up g 6 i j.toNatClampNeg r)) := jy_sA ho h rfl hr
theorem jv_l6 (h : jy_lv K 6 i) : jx_gL Z (jy_w K f g) (K.2.1 6 i) = some 8 := jy_gL h rfl (by decide)
theorem jv_g7_0 (h : jy_lv K 7 i) : jx_gF (jy_w K f g) (K.2.1 7 i) 1 0 = some (.inl (f 7 i 0)) := jy_gFi h rfl rfl
theorem jv_s7_0 (ho : jy_ok K) (h : jy_lv K 7 i) : jx_sF (jy_w K f g) (K.2.1 7 i) 1 0 (.inl x) = some (jy_w K (jy_up f 7 i 0 x) g) := jy_sFi ho h rfl rfl
theorem jv_g7_1 (h : jy_lv K 7 i) : jx_gF (jy_w K f g) (K.2.1 7 i) 1 1 = some (.inl (f 7 i 1)) := jy_gFi h rfl rfl
theorem jv_s7_1 (ho : jy_ok K) (h : jy_lv K 7 i) : jx_sF (jy_w K f g) (K.2.1 7 i) 1 1 (.inl x) = some (jy_w K (jy_up f 7 i 1 x) g) := jy_sFi ho h rfl rfl
theorem jv_g7_2 (h : jy_lv K 7 i) : jx_gF (jy_w K f g) (K.2.1 7 i) 1 2 = some (.inr (g 7 i 2)) := jy_gFr h rfl rfl
theorem jv_s7_2 (ho : jy_ok K) (h : jy_lv K 7 i) : jx_sF (jy_w K f g) (K.2.1 7 i) 1 2 (.inr r) = some (jy_w K f (jy_up g 7 i 2 r)) := jy_sFr ho h rfl rfl
theorem jv_is7 (h : jy_lv K 7 i) : jx_is (jy_w K f g) (K.2.1 7 i) 1 = true := jy_is h rfl
theorem jv_g8_0 (h : jy_lv K 8 i) : jx_gF (jy_w K f g) (K.2.1 8 i) 2 0 = some (.inl (f 8 i 0)) := jy_gFi h rfl rfl
theorem jv_s8_0 (ho : jy_ok K) (h : jy_lv K 8 i) : jx_sF (jy_w K f g) (K.2.1 8 i) 2 0 (.inl x) = some (jy_w K (jy_up f 8 i 0 x) g) := jy_sFi ho h rfl rfl
theorem jv_g8_1 (h : jy_lv K 8 i) : jx_gF (jy_w K f g) (K.2.1 8 i) 2 1 = some (.inl (f 8 i 1)) := jy_gFi h rfl rfl
theorem jv_s8_1 (ho : jy_ok K) (h : jy_lv K 8 i) : jx_sF (jy_w K f g) (K.2.1 8 i) 2 1 (.inl x) = some (jy_w K (jy_up f 8 i 1 x) g) := jy_sFi ho h rfl rfl
theorem jv_g8_2 (h : jy_lv K 8 i) : jx_gF (jy_w K f g) (K.2.1 8 i) 2 2 = some (.inl (f 8 i 2)) := jy_gFi h rfl rfl
theorem jv_s8_2 (ho : jy_ok K) (h : jy_lv K 8 i) : jx_sF (jy_w K f g) (K.2.1 8 i) 2 2 (.inl x) = some (jy_w K (jy_up f 8 i 2 x) g) := jy_sFi ho h rfl rfl
theorem jv_g8_3 (h : jy_lv K 8 i) : jx_gF (jy_w K f g) (K.2.1 8 i) 2 3 = some (.inl (f 8 i 3)) := jy_gFi h rfl rfl
theorem jv_s8_3 (ho : jy_ok K) (h : jy_lv K 8 i) : jx_sF (jy_w K f g) (K.2.1 8 i) 2 3 (.inl x) = some (jy_w K (jy_up f 8 i 3 x) g) := jy_sFi ho h rfl rfl
theorem jv_g8_4 (h : jy_lv K 8 i) : jx_gF (jy_w K f g) (K.2.1 8 i) 2 4 = some (.inl (f 8 i 4)) := jy_gFi h rfl rfl
theorem jv_s8_4 (ho : jy_ok K) (h : jy_lv K 8 i) : jx_sF (jy_w K f g) (K.2.1 8 i) 2 4 (.inl x) = some (jy_w K (jy_up f 8 i 4 x) g) := jy_sFi ho h rfl rfl
theorem jv_g8_5 (h : jy_lv K 8 i) : jx_gF (jy_w K f g) (K.2.1 8 i) 2 5 = some (.inr (g 8 i 5)) := jy_gFr h rfl rfl
theorem jv_s8_5 (ho : jy_ok K) (h : jy_lv K 8 i) : jx_sF (jy_w K f g) (K.2.1 8 i) 2 5 (.inr r) = some (jy_w K f (jy_up g 8 i 5 r)) := jy_sFr ho h rfl rfl
theorem jv_is8 (h : jy_lv K 8 i) : jx_is (jy_w K f g) (K.2.1 8 i) 2 = true := jy_is h rfl
theorem jv_g9 (h : jy_lv K 9 i) : jx_gI Z 0 (jy_w K f g) (K.2.1 9 i) j = if j < 0 ∨ 25 ≤ j.toNatClampNeg then none else some (f 9 i j.toNatClampNeg) := jy_gI h rfl
theorem jv_s9 (ho : jy_ok K) (h : jy_lv K 9 i) : jx_sI 0 (jy_w K f g) (K.2.1 9 i) j x = if j < 0 ∨ 25 ≤ j.toNatClampNeg then none else some (jy_w K (jy_up f 9 i j.toNatClampNeg x) g) := jy_sI ho h rfl
theorem jv_l9 (h : jy_lv K 9 i) : jx_gL Z (jy_w K f g) (K.2.1 9 i) = some 25 := jy_gL h rfl (by decide)
theorem jv_g10_0 (h : jy_lv K 10 i) : jx_gF (jy_w K f g) (K.2.1 10 i) 3 0 = some (.inr (g 10 i 0)) := jy_gFr h rfl rfl
theorem jv_s10_0 (ho : jy_ok K) (h : jy_lv K 10 i) : jx_sF (jy_w K f g) (K.2.1 10 i) 3 0 (.inr r) = some (jy_w K f (jy_up g 10 i 0 r)) := jy_sFr ho h rfl rfl
theorem jv_g10_1 (h : jy_lv K 10 i) : jx_gF (jy_w K f g) (K.2.1 10 i) 3 1 = some (.inr (g 10 i 1)) := jy_gFr h rfl rfl
theorem jv_s10_1 (ho : jy_ok K) (h : jy_lv K 10 i) : jx_sF (jy_w K f g) (K.2.1 10 i) 3 1 (.inr r) = some (jy_w K f (jy_up g 10 i 1 r)) := jy_sFr ho h rfl rfl
theorem jv_g10_2 (h : jy_lv K 10 i) : jx_gF (jy_w K f g) (K.2.1 10 i) 3 2 = some (.inl (f 10 i 2)) := jy_gFi h rfl rfl
theorem jv_s10_2 (ho : jy_ok K) (h : jy_lv K 10 i) : jx_sF (jy_w K f g) (K.2.1 10 i) 3 2 (.inl x) = some (jy_w K (jy_up f 10 i 2 x) g) := jy_sFi ho h rfl rfl
theorem jv_is10 (h : jy_lv K 10 i) : jx_is (jy_w K f g) (K.2.1 10 i) 3 = true := jy_is h rfl
theorem jv_g11 (h : jy_lv K 11 i) : jx_gA (jy_w K f g) (K.2.1 11 i) j = if j < 0 ∨ 8 ≤ j.toNatClampNeg then none else some (g 11 i j.toNatClampNeg) := jy_gA h rfl rfl
theorem jv_s11 (ho : jy_ok K) (h : jy_lv K 11 i) (hr : jx_ok (jy_w K f g) 4 r = true) : jx_sA (jy_w K f g) (K.2.1 11 i) j r = if j < 0 ∨ 8 ≤ j.toNatClampNeg then none else some (jy_w K f (jy_up g 11 i j.toNatClampNeg r)) := jy_sA ho h rfl hr
theorem jv_l11 (h : jy_lv K 11 i) : jx_gL Z (jy_w K f g) (K.2.1 11 i) = some 8 := jy_gL h rfl (by decide)
theorem jv_g12 (h : jy_lv K 12 i) : jx_gI Z 0 (jy_w K f g) (K.2.1 12 i) j = if j < 0 ∨ 16 ≤ j.toNatClampNeg then none else some (f 12 i j.toNatClampNeg) := jy_gI h rfl
theorem jv_s12 (ho : jy_ok K) (h : jy_lv K 12 i) : jx_sI 0 (jy_w K f g) (K.2.1 12 i) j x = if j < 0 ∨ 16 ≤ j.toNatClampNeg then none else some (jy_w K (jy_up f 12 i j.toNatClampNeg x) g) := jy_sI ho h rfl
theorem jv_l12 (h : jy_lv K 12 i) : jx_gL Z (jy_w K f g) (K.2.1 12 i) = some 16 := jy_gL h rfl (by decide)
theorem jv_g13_0 (h : jy_lv K 13 i) : jx_gF (jy_w K f g) (K.2.1 13 i) 4 0 = some (.inl (f 13 i 0)) := jy_gFi h rfl rfl
theorem jv_s13_0 (ho : jy_ok K) (h : jy_lv K 13 i) : jx_sF (jy_w K f g) (K.2.1 13 i) 4 0 (.inl x) = some (jy_w K (jy_up f 13 i 0 x) g) := jy_sFi ho h rfl rfl
theorem jv_g13_1 (h : jy_lv K 13 i) : jx_gF (jy_w K f g) (K.2.1 13 i) 4 1 = some (.inl (f 13 i 1)) := jy_gFi h rfl rfl
theorem jv_s13_1 (ho : jy_ok K) (h : jy_lv K 13 i) : jx_sF (jy_w K f g) (K.2.1 13 i) 4 1 (.inl x) = some (jy_w K (jy_up f 13 i 1 x) g) := jy_sFi ho h rfl rfl
theorem jv_g13_2 (h : jy_lv K 13 i) : jx_gF (jy_w K f g) (K.2.1 13 i) 4 2 = some (.inl (f 13 i 2)) := jy_gFi h rfl rfl
theorem jv_s13_2 (ho : jy_ok K) (h : jy_lv K 13 i) : jx_sF (jy_w K f g) (K.2.1 13 i) 4 2 (.inl x) = some (jy_w K (jy_up f 13 i 2 x) g) := jy_sFi ho h rfl rfl
theorem jv_g13_3 (h : jy_lv K 13 i) : jx_gF (jy_w K f g) (K.2.1 13 i) 4 3 = some (.inl (f 13 i 3)) := jy_gFi h rfl rfl
theorem jv_s13_3 (ho : jy_ok K) (h : jy_lv K 13 i) : jx_sF (jy_w K f g) (K.2.1 13 i) 4 3 (.inl x) = some (jy_w K (jy_up f 13 i 3 x) g) := jy_sFi ho h rfl rfl
theorem jv_g13_4 (h : jy_lv K 13 i) : jx_gF (jy_w K f g) (K.2.1 13 i) 4 4 = some (.inl (f 13 i 4)) := jy_gFi h rfl rfl
theorem jv_s13_4 (ho : jy_ok K) (h : jy_lv K 13 i) : jx_sF (jy_w K f g) (K.2.1 13 i) 4 4 (.inl x) = some (jy_w K (jy_up f 13 i 4 x) g) := jy_sFi ho h rfl rfl
theorem jv_g13_5 (h : jy_lv K 13 i) : jx_gF (jy_w K f g) (K.2.1 13 i) 4 5 = some (.inl (f 13 i 5)) := jy_gFi h rfl rfl
theorem jv_s13_5 (ho : jy_ok K) (h : jy_lv K 13 i) : jx_sF (jy_w K f g) (K.2.1 13 i) 4 5 (.inl x) = some (jy_w K (jy_up f 13 i 5 x) g) := jy_sFi ho h rfl rfl
theorem jv_is13 (h : jy_lv K 13 i) : jx_is (jy_w K f g) (K.2.1 13 i) 4 = true := jy_is h rfl
theorem jv_g20_0 (h : jy_lv K 20 i) : jx_gF (jy_w K f g) (K.2.1 20 i) 5 0 = some (.inl (f 20 i 0)) := jy_gFi h rfl rfl
theorem jv_s20_0 (ho : jy_ok K) (h : jy_lv K 20 i) : jx_sF (jy_w K f g) (K.2.1 20 i) 5 0 (.inl x) = some (jy_w K (jy_up f 20 i 0 x) g) := jy_sFi ho h rfl rfl
theorem jv_g20_1 (h : jy_lv K 20 i) : jx_gF (jy_w K f g) (K.2.1 20 i) 5 1 = some (.inl (f 20 i 1)) := jy_gFi h rfl rfl
theorem jv_s20_1 (ho : jy_ok K) (h : jy_lv K 20 i) : jx_sF (jy_w K f g) (K.2.1 20 i) 5 1 (.inl x) = some (jy_w K (jy_up f 20 i 1 x) g) := jy_sFi ho h rfl rfl
theorem jv_g20_2 (h : jy_lv K 20 i) : jx_gF (jy_w K f g) (K.2.1 20 i) 5 2 = some (.inl (f 20 i 2)) := jy_gFi h rfl rfl
theorem jv_s20_2 (ho : jy_ok K) (h : jy_lv K 20 i) : jx_sF (jy_w K f g) (K.2.1 20 i) 5 2 (.inl x) = some (jy_w K (jy_up f 20 i 2 x) g) := jy_sFi ho h rfl rfl
theorem jv_g20_3 (h : jy_lv K 20 i) : jx_gF (jy_w K f g) (K.2.1 20 i) 5 3 = some (.inr (g 20 i 3)) := jy_gFr h rfl rfl
theorem jv_s20_3 (ho : jy_ok K) (h : jy_lv K 20 i) : jx_sF (jy_w K f g) (K.2.1 20 i) 5 3 (.inr r) = some (jy_w K f (jy_up g 20 i 3 r)) := jy_sFr ho h rfl rfl
theorem jv_g20_4 (h : jy_lv K 20 i) : jx_gF (jy_w K f g) (K.2.1 20 i) 5 4 = some (.inl (f 20 i 4)) := jy_gFi h rfl rfl
theorem jv_s20_4 (ho : jy_ok K) (h : jy_lv K 20 i) : jx_sF (jy_w K f g) (K.2.1 20 i) 5 4 (.inl x) = some (jy_w K (jy_up f 20 i 4 x) g) := jy_sFi ho h rfl rfl
theorem jv_g20_5 (h : jy_lv K 20 i) : jx_gF (jy_w K f g) (K.2.1 20 i) 5 5 = some (.inr (g 20 i 5)) := jy_gFr h rfl rfl
theorem jv_s20_5 (ho : jy_ok K) (h : jy_lv K 20 i) : jx_sF (jy_w K f g) (K.2.1 20 i) 5 5 (.inr r) = some (jy_w K f (jy_up g 20 i 5 r)) := jy_sFr ho h rfl rfl
theorem jv_g20_6 (h : jy_lv K 20 i) : jx_gF (jy_w K f g) (K.2.1 20 i) 5 6 = some (.inr (g 20 i 6)) := jy_gFr h rfl rfl
theorem jv_s20_6 (ho : jy_ok K) (h : jy_lv K 20 i) : jx_sF (jy_w K f g) (K.2.1 20 i) 5 6 (.inr r) = some (jy_w K f (jy_up g 20 i 6 r)) := jy_sFr ho h rfl rfl
theorem jv_g20_7 (h : jy_lv K 20 i) : jx_gF (jy_w K f g) (K.2.1 20 i) 5 7 = some (.inr (g 20 i 7)) := jy_gFr h rfl rfl
theorem jv_s20_7 (ho : jy_ok K) (h : jy_lv K 20 i) : jx_sF (jy_w K f g) (K.2.1 20 i) 5 7 (.inr r) = some (jy_w K f (jy_up g 20 i 7 r)) := jy_sFr ho h rfl rfl
theorem jv_g20_8 (h : jy_lv K 20 i) : jx_gF (jy_w K f g) (K.2.1 20 i) 5 8 = some (.inl (f 20 i 8)) := jy_gFi h rfl rfl
theorem jv_s20_8 (ho : jy_ok K) (h : jy_lv K 20 i) : jx_sF (jy_w K f g) (K.2.1 20 i) 5 8 (.inl x) = some (jy_w K (jy_up f 20 i 8 x) g) := jy_sFi ho h rfl rfl
theorem jv_g20_9 (h : jy_lv K 20 i) : jx_gF (jy_w K f g) (K.2.1 20 i) 5 9 = some (.inr (g 20 i 9)) := jy_gFr h rfl rfl
theorem jv_s20_9 (ho : jy_ok K) (h : jy_lv K 20 i) : jx_sF (jy_w K f g) (K.2.1 20 i) 5 9 (.inr r) = some (jy_w K f (jy_up g 20 i 9 r)) := jy_sFr ho h rfl rfl
theorem jv_g20_10 (h : jy_lv K 20 i) : jx_gF (jy_w K f g) (K.2.1 20 i) 5 10 = some (.inr (g 20 i 10)) := jy_gFr h rfl rfl
theorem jv_s20_10 (ho : jy_ok K) (h : jy_lv K 20 i) : jx_sF (jy_w K f g) (K.2.1 20 i) 5 10 (.inr r) = some (jy_w K f (jy_up g 20 i 10 r)) := jy_sFr ho h rfl rfl
theorem jv_g20_11 (h : jy_lv K 20 i) : jx_gF (jy_w K f g) (K.2.1 20 i) 5 11 = some (.inr (g 20 i 11)) := jy_gFr h rfl rfl
theorem jv_s20_11 (ho : jy_ok K) (h : jy_lv K 20 i) : jx_sF (jy_w K f g) (K.2.1 20 i) 5 11 (.inr r) = some (jy_w K f (jy_up g 20 i 11 r)) := jy_sFr ho h rfl rfl
theorem jv_g20_12 (h : jy_lv K 20 i) : jx_gF (jy_w K f g) (K.2.1 20 i) 5 12 = some (.inr (g 20 i 12)) := jy_gFr h rfl rfl
theorem jv_s20_12 (ho : jy_ok K) (h : jy_lv K 20 i) : jx_sF (jy_w K f g) (K.2.1 20 i) 5 12 (.inr r) = some (jy_w K f (jy_up g 20 i 12 r)) := jy_sFr ho h rfl rfl
theorem jv_g20_13 (h : jy_lv K 20 i) : jx_gF (jy_w K f g) (K.2.1 20 i) 5 13 = some (.inr (g 20 i 13)) := jy_gFr h rfl rfl
theorem jv_s20_13 (ho : jy_ok K) (h : jy_lv K 20 i) : jx_sF (jy_w K f g) (K.2.1 20 i) 5 13 (.inr r) = some (jy_w K f (jy_up g 20 i 13 r)) := jy_sFr ho h rfl rfl
theorem jv_g20_14 (h : jy_lv K 20 i) : jx_gF (jy_w K f g) (K.2.1 20 i) 5 14 = some (.inr (g 20 i 14)) := jy_gFr h rfl rfl
theorem jv_s20_14 (ho : jy_ok K) (h : jy_lv K 20 i) : jx_sF (jy_w K f g) (K.2.1 20 i) 5 14 (.inr r) = some (jy_w K f (jy_up g 20 i 14 r)) := jy_sFr ho h rfl rfl
theorem jv_g20_15 (h : jy_lv K 20 i) : jx_gF (jy_w K f g) (K.2.1 20 i) 5 15 = some (.inr (g 20 i 15)) := jy_gFr h rfl rfl
theorem jv_s20_15 (ho : jy_ok K) (h : jy_lv K 20 i) : jx_sF (jy_w K f g) (K.2.1 20 i) 5 15 (.inr r) = some (jy_w K f (jy_up g 20 i 15 r)) := jy_sFr ho h rfl rfl
theorem jv_g20_16 (h : jy_lv K 20 i) : jx_gF (jy_w K f g) (K.2.1 20 i) 5 16 = some (.inr (g 20 i 16)) := jy_gFr h rfl rfl
theorem jv_s20_16 (ho : jy_ok K) (h : jy_lv K 20 i) : jx_sF (jy_w K f g) (K.2.1 20 i) 5 16 (.inr r) = some (jy_w K f (jy_up g 20 i 16 r)) := jy_sFr ho h rfl rfl
theorem jv_g20_17 (h : jy_lv K 20 i) : jx_gF (jy_w K f g) (K.2.1 20 i) 5 17 = some (.inr (g 20 i 17)) := jy_gFr h rfl rfl
theorem jv_s20_17 (ho : jy_ok K) (h : jy_lv K 20 i) : jx_sF (jy_w K f g) (K.2.1 20 i) 5 17 (.inr r) = some (jy_w K f (jy_up g 20 i 17 r)) := jy_sFr ho h rfl rfl
theorem jv_g20_18 (h : jy_lv K 20 i) : jx_gF (jy_w K f g) (K.2.1 20 i) 5 18 = some (.inr (g 20 i 18)) := jy_gFr h rfl rfl
theorem jv_s20_18 (ho : jy_ok K) (h : jy_lv K 20 i) : jx_sF (jy_w K f g) (K.2.1 20 i) 5 18 (.inr r) = some (jy_w K f (jy_up g 20 i 18 r)) := jy_sFr ho h rfl rfl
theorem jv_g20_19 (h : jy_lv K 20 i) : jx_gF (jy_w K f g) (K.2.1 20 i) 5 19 = some (.inr (g 20 i 19)) := jy_gFr h rfl rfl
theorem jv_s20_19 (ho : jy_ok K) (h : jy_lv K 20 i) : jx_sF (jy_w K f g) (K.2.1 20 i) 5 19 (.inr r) = some (jy_w K f (jy_up g 20 i 19 r)) := jy_sFr ho h rfl rfl
theorem jv_g20_20 (h : jy_lv K 20 i) : jx_gF (jy_w K f g) (K.2.1 20 i) 5 20 = some (.inr (g 20 i 20)) := jy_gFr h rfl rfl
theorem jv_s20_20 (ho : jy_ok K) (h : jy_lv K 20 i) : jx_sF (jy_w K f g) (K.2.1 20 i) 5 20 (.inr r) = some (jy_w K f (jy_up g 20 i 20 r)) := jy_sFr ho h rfl rfl
theorem jv_g20_21 (h : jy_lv K 20 i) : jx_gF (jy_w K f g) (K.2.1 20 i) 5 21 = some (.inr (g 20 i 21)) := jy_gFr h rfl rfl
theorem jv_s20_21 (ho : jy_ok K) (h : jy_lv K 20 i) : jx_sF (jy_w K f g) (K.2.1 20 i) 5 21 (.inr r) = some (jy_w K f (jy_up g 20 i 21 r)) := jy_sFr ho h rfl rfl
theorem jv_g20_22 (h : jy_lv K 20 i) : jx_gF (jy_w K f g) (K.2.1 20 i) 5 22 = some (.inr (g 20 i 22)) := jy_gFr h rfl rfl
theorem jv_s20_22 (ho : jy_ok K) (h : jy_lv K 20 i) : jx_sF (jy_w K f g) (K.2.1 20 i) 5 22 (.inr r) = some (jy_w K f (jy_up g 20 i 22 r)) := jy_sFr ho h rfl rfl
theorem jv_g20_23 (h : jy_lv K 20 i) : jx_gF (jy_w K f g) (K.2.1 20 i) 5 23 = some (.inr (g 20 i 23)) := jy_gFr h rfl rfl
theorem jv_s20_23 (ho : jy_ok K) (h : jy_lv K 20 i) : jx_sF (jy_w K f g) (K.2.1 20 i) 5 23 (.inr r) = some (jy_w K f (jy_up g 20 i 23 r)) := jy_sFr ho h rfl rfl
theorem jv_g20_24 (h : jy_lv K 20 i) : jx_gF (jy_w K f g) (K.2.1 20 i) 5 24 = some (.inr (g 20 i 24)) := jy_gFr h rfl rfl
theorem jv_s20_24 (ho : jy_ok K) (h : jy_lv K 20 i) : jx_sF (jy_w K f g) (K.2.1 20 i) 5 24 (.inr r) = some (jy_w K f (jy_up g 20 i 24 r)) := jy_sFr ho h rfl rfl
theorem jv_g20_25 (h : jy_lv K 20 i) : jx_gF (jy_w K f g) (K.2.1 20 i) 5 25 = some (.inr (g 20 i 25)) := jy_gFr h rfl rfl
theorem jv_s20_25 (ho : jy_ok K) (h : jy_lv K 20 i) : jx_sF (jy_w K f g) (K.2.1 20 i) 5 25 (.inr r) = some (jy_w K f (jy_up g 20 i 25 r)) := jy_sFr ho h rfl rfl
theorem jv_g20_26 (h : jy_lv K 20 i) : jx_gF (jy_w K f g) (K.2.1 20 i) 5 26 = some (.inr (g 20 i 26)) := jy_gFr h rfl rfl
theorem jv_s20_26 (ho : jy_ok K) (h : jy_lv K 20 i) : jx_sF (jy_w K f g) (K.2.1 20 i) 5 26 (.inr r) = some (jy_w K f (jy_up g 20 i 26 r)) := jy_sFr ho h rfl rfl
theorem jv_g20_27 (h : jy_lv K 20 i) : jx_gF (jy_w K f g) (K.2.1 20 i) 5 27 = some (.inr (g 20 i 27)) := jy_gFr h rfl rfl
theorem jv_s20_27 (ho : jy_ok K) (h : jy_lv K 20 i) : jx_sF (jy_w K f g) (K.2.1 20 i) 5 27 (.inr r) = some (jy_w K f (jy_up g 20 i 27 r)) := jy_sFr ho h rfl rfl
theorem jv_g20_28 (h : jy_lv K 20 i) : jx_gF (jy_w K f g) (K.2.1 20 i) 5 28 = some (.inr (g 20 i 28)) := jy_gFr h rfl rfl
theorem jv_s20_28 (ho : jy_ok K) (h : jy_lv K 20 i) : jx_sF (jy_w K f g) (K.2.1 20 i) 5 28 (.inr r) = some (jy_w K f (jy_up g 20 i 28 r)) := jy_sFr ho h rfl rfl
theorem jv_g20_29 (h : jy_lv K 20 i) : jx_gF (jy_w K f g) (K.2.1 20 i) 5 29 = some (.inr (g 20 i 29)) := jy_gFr h rfl rfl
theorem jv_s20_29 (ho : jy_ok K) (h : jy_lv K 20 i) : jx_sF (jy_w K f g) (K.2.1 20 i) 5 29 (.inr r) = some (jy_w K f (jy_up g 20 i 29 r)) := jy_sFr ho h rfl rfl
theorem jv_is20 (h : jy_lv K 20 i) : jx_is (jy_w K f g) (K.2.1 20 i) 5 = true := jy_is h rfl
theorem jv_g23 (h : jy_lv K 23 i) : jx_gI Z 0 (jy_w K f g) (K.2.1 23 i) j = if j < 0 ∨ 4 ≤ j.toNatClampNeg then none else some (f 23 i j.toNatClampNeg) := jy_gI h rfl
theorem jv_s23 (ho : jy_ok K) (h : jy_lv K 23 i) : jx_sI 0 (jy_w K f g) (K.2.1 23 i) j x = if j < 0 ∨ 4 ≤ j.toNatClampNeg then none else some (jy_w K (jy_up f 23 i j.toNatClampNeg x) g) := jy_sI ho h rfl
theorem jv_l23 (h : jy_lv K 23 i) : jx_gL Z (jy_w K f g) (K.2.1 23 i) = some 4 := jy_gL h rfl (by decide)
theorem jv_g25 (h : jy_lv K 25 i) : jx_gI Z 0 (jy_w K f g) (K.2.1 25 i) j = if j < 0 ∨ 8 ≤ j.toNatClampNeg then none else some (f 25 i j.toNatClampNeg) := jy_gI h rfl
theorem jv_s25 (ho : jy_ok K) (h : jy_lv K 25 i) : jx_sI 0 (jy_w K f g) (K.2.1 25 i) j x = if j < 0 ∨ 8 ≤ j.toNatClampNeg then none else some (jy_w K (jy_up f 25 i j.toNatClampNeg x) g) := jy_sI ho h rfl
theorem jv_l25 (h : jy_lv K 25 i) : jx_gL Z (jy_w K f g) (K.2.1 25 i) = some 8 := jy_gL h rfl (by decide)
theorem jv_g26 (h : jy_lv K 26 i) : jx_gI Z 1 (jy_w K f g) (K.2.1 26 i) j = if j < 0 ∨ 8 ≤ j.toNatClampNeg then none else some (f 26 i j.toNatClampNeg) := jy_gI h rfl
theorem jv_s26 (ho : jy_ok K) (h : jy_lv K 26 i) : jx_sI 1 (jy_w K f g) (K.2.1 26 i) j x = if j < 0 ∨ 8 ≤ j.toNatClampNeg then none else some (jy_w K (jy_up f 26 i j.toNatClampNeg x) g) := jy_sI ho h rfl
theorem jv_l26 (h : jy_lv K 26 i) : jx_gL Z (jy_w K f g) (K.2.1 26 i) = some 8 := jy_gL h rfl (by decide)
theorem jv_g27 (h : jy_lv K 27 i) : jx_gI Z 0 (jy_w K f g) (K.2.1 27 i) j = if j < 0 ∨ 32 ≤ j.toNatClampNeg then none else some (f 27 i j.toNatClampNeg) := jy_gI h rfl
theorem jv_s27 (ho : jy_ok K) (h : jy_lv K 27 i) : jx_sI 0 (jy_w K f g) (K.2.1 27 i) j x = if j < 0 ∨ 32 ≤ j.toNatClampNeg then none else some (jy_w K (jy_up f 27 i j.toNatClampNeg x) g) := jy_sI ho h rfl
theorem jv_l27 (h : jy_lv K 27 i) : jx_gL Z (jy_w K f g) (K.2.1 27 i) = some 32 := jy_gL h rfl (by decide)
theorem jv_g29 (h : jy_lv K 29 i) : jx_gI Z 1 (jy_w K f g) (K.2.1 29 i) j = if j < 0 ∨ 25 ≤ j.toNatClampNeg then none else some (f 29 i j.toNatClampNeg) := jy_gI h rfl
theorem jv_s29 (ho : jy_ok K) (h : jy_lv K 29 i) : jx_sI 1 (jy_w K f g) (K.2.1 29 i) j x = if j < 0 ∨ 25 ≤ j.toNatClampNeg then none else some (jy_w K (jy_up f 29 i j.toNatClampNeg x) g) := jy_sI ho h rfl
theorem jv_l29 (h : jy_lv K 29 i) : jx_gL Z (jy_w K f g) (K.2.1 29 i) = some 25 := jy_gL h rfl (by decide)
theorem jv_g30 (h : jy_lv K 30 i) : jx_gI Z 1 (jy_w K f g) (K.2.1 30 i) j = if j < 0 ∨ 200 ≤ j.toNatClampNeg then none else some (f 30 i j.toNatClampNeg) := jy_gI h rfl
theorem jv_s30 (ho : jy_ok K) (h : jy_lv K 30 i) : jx_sI 1 (jy_w K f g) (K.2.1 30 i) j x = if j < 0 ∨ 200 ≤ j.toNatClampNeg then none else some (jy_w K (jy_up f 30 i j.toNatClampNeg x) g) := jy_sI ho h rfl
theorem jv_l30 (h : jy_lv K 30 i) : jx_gL Z (jy_w K f g) (K.2.1 30 i) = some 200 := jy_gL h rfl (by decide)
theorem jv_g31 (h : jy_lv K 31 i) : jx_gI Z 1 (jy_w K f g) (K.2.1 31 i) j = if j < 0 ∨ 200 ≤ j.toNatClampNeg then none else some (f 31 i j.toNatClampNeg) := jy_gI h rfl
theorem jv_s31 (ho : jy_ok K) (h : jy_lv K 31 i) : jx_sI 1 (jy_w K f g) (K.2.1 31 i) j x = if j < 0 ∨ 200 ≤ j.toNatClampNeg then none else some (jy_w K (jy_up f 31 i j.toNatClampNeg x) g) := jy_sI ho h rfl
theorem jv_l31 (h : jy_lv K 31 i) : jx_gL Z (jy_w K f g) (K.2.1 31 i) = some 200 := jy_gL h rfl (by decide)
theorem jv_g32 (h : jy_lv K 32 i) : jx_gI Z 0 (jy_w K f g) (K.2.1 32 i) j = if j < 0 ∨ 200 ≤ j.toNatClampNeg then none else some (f 32 i j.toNatClampNeg) := jy_gI h rfl
theorem jv_s32 (ho : jy_ok K) (h : jy_lv K 32 i) : jx_sI 0 (jy_w K f g) (K.2.1 32 i) j x = if j < 0 ∨ 200 ≤ j.toNatClampNeg then none else some (jy_w K (jy_up f 32 i j.toNatClampNeg x) g) := jy_sI ho h rfl
theorem jv_l32 (h : jy_lv K 32 i) : jx_gL Z (jy_w K f g) (K.2.1 32 i) = some 200 := jy_gL h rfl (by decide)
theorem jv_g33 (h : jy_lv K 33 i) : jx_gI Z 0 (jy_w K f g) (K.2.1 33 i) j = if j < 0 ∨ 200 ≤ j.toNatClampNeg then none else some (f 33 i j.toNatClampNeg) := jy_gI h rfl
theorem jv_s33 (ho : jy_ok K) (h : jy_lv K 33 i) : jx_sI 0 (jy_w K f g) (K.2.1 33 i) j x = if j < 0 ∨ 200 ≤ j.toNatClampNeg then none else some (jy_w K (jy_up f 33 i j.toNatClampNeg x) g) := jy_sI ho h rfl
theorem jv_l33 (h : jy_lv K 33 i) : jx_gL Z (jy_w K f g) (K.2.1 33 i) = some 200 := jy_gL h rfl (by decide)
theorem jv_g34 (h : jy_lv K 34 i) : jx_gI Z 0 (jy_w K f g) (K.2.1 34 i) j = if j < 0 ∨ 200 ≤ j.toNatClampNeg then none else some (f 34 i j.toNatClampNeg) := jy_gI h rfl
theorem jv_s34 (ho : jy_ok K) (h : jy_lv K 34 i) : jx_sI 0 (jy_w K f g) (K.2.1 34 i) j x = if j < 0 ∨ 200 ≤ j.toNatClampNeg then none else some (jy_w K (jy_up f 34 i j.toNatClampNeg x) g) := jy_sI ho h rfl
theorem jv_l34 (h : jy_lv K 34 i) : jx_gL Z (jy_w K f g) (K.2.1 34 i) = some 200 := jy_gL h rfl (by decide)
theorem jv_g35 (h : jy_lv K 35 i) : jx_gI Z 0 (jy_w K f g) (K.2.1 35 i) j = if j < 0 ∨ 200 ≤ j.toNatClampNeg then none else some (f 35 i j.toNatClampNeg) := jy_gI h rfl
theorem jv_s35 (ho : jy_ok K) (h : jy_lv K 35 i) : jx_sI 0 (jy_w K f g) (K.2.1 35 i) j x = if j < 0 ∨ 200 ≤ j.toNatClampNeg then none else some (jy_w K (jy_up f 35 i j.toNatClampNeg x) g) := jy_sI ho h rfl
theorem jv_l35 (h : jy_lv K 35 i) : jx_gL Z (jy_w K f g) (K.2.1 35 i) = some 200 := jy_gL h rfl (by decide)
theorem jv_g36 (h : jy_lv K 36 i) : jx_gI Z 1 (jy_w K f g) (K.2.1 36 i) j = if j < 0 ∨ 16 ≤ j.toNatClampNeg then none else some (f 36 i j.toNatClampNeg) := jy_gI h rfl
theorem jv_s36 (ho : jy_ok K) (h : jy_lv K 36 i) : jx_sI 1 (jy_w K f g) (K.2.1 36 i) j x = if j < 0 ∨ 16 ≤ j.toNatClampNeg then none else some (jy_w K (jy_up f 36 i j.toNatClampNeg x) g) := jy_sI ho h rfl
theorem jv_l36 (h : jy_lv K 36 i) : jx_gL Z (jy_w K f g) (K.2.1 36 i) = some 16 := jy_gL h rfl (by decide)
theorem jv_g37 (h : jy_lv K 37 i) : jx_gI Z 0 (jy_w K f g) (K.2.1 37 i) j = if j < 0 ∨ 16 ≤ j.toNatClampNeg then none else some (f 37 i j.toNatClampNeg) := jy_gI h rfl
theorem jv_s37 (ho : jy_ok K) (h : jy_lv K 37 i) : jx_sI 0 (jy_w K f g) (K.2.1 37 i) j x = if j < 0 ∨ 16 ≤ j.toNatClampNeg then none else some (jy_w K (jy_up f 37 i j.toNatClampNeg x) g) := jy_sI ho h rfl
theorem jv_l37 (h : jy_lv K 37 i) : jx_gL Z (jy_w K f g) (K.2.1 37 i) = some 16 := jy_gL h rfl (by decide)
theorem jv_g38 (h : jy_lv K 38 i) : jx_gI Z 0 (jy_w K f g) (K.2.1 38 i) j = if j < 0 ∨ 16 ≤ j.toNatClampNeg then none else some (f 38 i j.toNatClampNeg) := jy_gI h rfl
theorem jv_s38 (ho : jy_ok K) (h : jy_lv K 38 i) : jx_sI 0 (jy_w K f g) (K.2.1 38 i) j x = if j < 0 ∨ 16 ≤ j.toNatClampNeg then none else some (jy_w K (jy_up f 38 i j.toNatClampNeg x) g) := jy_sI ho h rfl
theorem jv_l38 (h : jy_lv K 38 i) : jx_gL Z (jy_w K f g) (K.2.1 38 i) = some 16 := jy_gL h rfl (by decide)
theorem jv_g39 (h : jy_lv K 39 i) : jx_gI Z 0 (jy_w K f g) (K.2.1 39 i) j = if j < 0 ∨ 16 ≤ j.toNatClampNeg then none else some (f 39 i j.toNatClampNeg) := jy_gI h rfl
theorem jv_s39 (ho : jy_ok K) (h : jy_lv K 39 i) : jx_sI 0 (jy_w K f g) (K.2.1 39 i) j x = if j < 0 ∨ 16 ≤ j.toNatClampNeg then none else some (jy_w K (jy_up f 39 i j.toNatClampNeg x) g) := jy_sI ho h rfl
theorem jv_l39 (h : jy_lv K 39 i) : jx_gL Z (jy_w K f g) (K.2.1 39 i) = some 16 := jy_gL h rfl (by decide)
theorem jv_g40 (h : jy_lv K 40 i) : jx_gI Z 0 (jy_w K f g) (K.2.1 40 i) j = if j < 0 ∨ 16 ≤ j.toNatClampNeg then none else some (f 40 i j.toNatClampNeg) := jy_gI h rfl
theorem jv_s40 (ho : jy_ok K) (h : jy_lv K 40 i) : jx_sI 0 (jy_w K f g) (K.2.1 40 i) j x = if j < 0 ∨ 16 ≤ j.toNatClampNeg then none else some (jy_w K (jy_up f 40 i j.toNatClampNeg x) g) := jy_sI ho h rfl
theorem jv_l40 (h : jy_lv K 40 i) : jx_gL Z (jy_w K f g) (K.2.1 40 i) = some 16 := jy_gL h rfl (by decide)
theorem jv_g41 (h : jy_lv K 41 i) : jx_gI Z 1 (jy_w K f g) (K.2.1 41 i) j = if j < 0 ∨ 8 ≤ j.toNatClampNeg then none else some (f 41 i j.toNatClampNeg) := jy_gI h rfl
theorem jv_s41 (ho : jy_ok K) (h : jy_lv K 41 i) : jx_sI 1 (jy_w K f g) (K.2.1 41 i) j x = if j < 0 ∨ 8 ≤ j.toNatClampNeg then none else some (jy_w K (jy_up f 41 i j.toNatClampNeg x) g) := jy_sI ho h rfl
theorem jv_l41 (h : jy_lv K 41 i) : jx_gL Z (jy_w K f g) (K.2.1 41 i) = some 8 := jy_gL h rfl (by decide)
theorem jv_g42 (h : jy_lv K 42 i) : jx_gI Z 0 (jy_w K f g) (K.2.1 42 i) j = if j < 0 ∨ 8 ≤ j.toNatClampNeg then none else some (f 42 i j.toNatClampNeg) := jy_gI h rfl
theorem jv_s42 (ho : jy_ok K) (h : jy_lv K 42 i) : jx_sI 0 (jy_w K f g) (K.2.1 42 i) j x = if j < 0 ∨ 8 ≤ j.toNatClampNeg then none else some (jy_w K (jy_up f 42 i j.toNatClampNeg x) g) := jy_sI ho h rfl
theorem jv_l42 (h : jy_lv K 42 i) : jx_gL Z (jy_w K f g) (K.2.1 42 i) = some 8 := jy_gL h rfl (by decide)
theorem jv_g43 (h : jy_lv K 43 i) : jx_gI Z 0 (jy_w K f g) (K.2.1 43 i) j = if j < 0 ∨ 8 ≤ j.toNatClampNeg then none else some (f 43 i j.toNatClampNeg) := jy_gI h rfl
theorem jv_s43 (ho : jy_ok K) (h : jy_lv K 43 i) : jx_sI 0 (jy_w K f g) (K.2.1 43 i) j x = if j < 0 ∨ 8 ≤ j.toNatClampNeg then none else some (jy_w K (jy_up f 43 i j.toNatClampNeg x) g) := jy_sI ho h rfl
theorem jv_l43 (h : jy_lv K 43 i) : jx_gL Z (jy_w K f g) (K.2.1 43 i) = some 8 := jy_gL h rfl (by decide)
theorem jv_g44 (h : jy_lv K 44 i) : jx_gI Z 0 (jy_w K f g) (K.2.1 44 i) j = if j < 0 ∨ 8 ≤ j.toNatClampNeg then none else some (f 44 i j.toNatClampNeg) := jy_gI h rfl
theorem jv_s44 (ho : jy_ok K) (h : jy_lv K 44 i) : jx_sI 0 (jy_w K f g) (K.2.1 44 i) j x = if j < 0 ∨ 8 ≤ j.toNatClampNeg then none else some (jy_w K (jy_up f 44 i j.toNatClampNeg x) g) := jy_sI ho h rfl
theorem jv_l44 (h : jy_lv K 44 i) : jx_gL Z (jy_w K f g) (K.2.1 44 i) = some 8 := jy_gL h rfl (by decide)
theorem jv_g45 (h : jy_lv K 45 i) : jx_gI Z 0 (jy_w K f g) (K.2.1 45 i) j = if j < 0 ∨ 8 ≤ j.toNatClampNeg then none else some (f 45 i j.toNatClampNeg) := jy_gI h rfl
theorem jv_s45 (ho : jy_ok K) (h : jy_lv K 45 i) : jx_sI 0 (jy_w K f g) (K.2.1 45 i) j x = if j < 0 ∨ 8 ≤ j.toNatClampNeg then none else some (jy_w K (jy_up f 45 i j.toNatClampNeg x) g) := jy_sI ho h rfl
theorem jv_l45 (h : jy_lv K 45 i) : jx_gL Z (jy_w K f g) (K.2.1 45 i) = some 8 := jy_gL h rfl (by decide)
theorem jv_g46 (h : jy_lv K 46 i) : jx_gI Z 1 (jy_w K f g) (K.2.1 46 i) j = if j < 0 ∨ 200 ≤ j.toNatClampNeg then none else some (f 46 i j.toNatClampNeg) := jy_gI h rfl
theorem jv_s46 (ho : jy_ok K) (h : jy_lv K 46 i) : jx_sI 1 (jy_w K f g) (K.2.1 46 i) j x = if j < 0 ∨ 200 ≤ j.toNatClampNeg then none else some (jy_w K (jy_up f 46 i j.toNatClampNeg x) g) := jy_sI ho h rfl
theorem jv_l46 (h : jy_lv K 46 i) : jx_gL Z (jy_w K f g) (K.2.1 46 i) = some 200 := jy_gL h rfl (by decide)
theorem jv_g47 (h : jy_lv K 47 i) : jx_gI Z 1 (jy_w K f g) (K.2.1 47 i) j = if j < 0 ∨ 200 ≤ j.toNatClampNeg then none else some (f 47 i j.toNatClampNeg) := jy_gI h rfl
theorem jv_s47 (ho : jy_ok K) (h : jy_lv K 47 i) : jx_sI 1 (jy_w K f g) (K.2.1 47 i) j x = if j < 0 ∨ 200 ≤ j.toNatClampNeg then none else some (jy_w K (jy_up f 47 i j.toNatClampNeg x) g) := jy_sI ho h rfl
theorem jv_l47 (h : jy_lv K 47 i) : jx_gL Z (jy_w K f g) (K.2.1 47 i) = some 200 := jy_gL h rfl (by decide)
theorem jv_g48 (h : jy_lv K 48 i) : jx_gI Z 0 (jy_w K f g) (K.2.1 48 i) j = if j < 0 ∨ 200 ≤ j.toNatClampNeg then none else some (f 48 i j.toNatClampNeg) := jy_gI h rfl
theorem jv_s48 (ho : jy_ok K) (h : jy_lv K 48 i) : jx_sI 0 (jy_w K f g) (K.2.1 48 i) j x = if j < 0 ∨ 200 ≤ j.toNatClampNeg then none else some (jy_w K (jy_up f 48 i j.toNatClampNeg x) g) := jy_sI ho h rfl
theorem jv_l48 (h : jy_lv K 48 i) : jx_gL Z (jy_w K f g) (K.2.1 48 i) = some 200 := jy_gL h rfl (by decide)
theorem jv_g49 (h : jy_lv K 49 i) : jx_gI Z 0 (jy_w K f g) (K.2.1 49 i) j = if j < 0 ∨ 8 ≤ j.toNatClampNeg then none else some (f 49 i j.toNatClampNeg) := jy_gI h rfl
theorem jv_s49 (ho : jy_ok K) (h : jy_lv K 49 i) : jx_sI 0 (jy_w K f g) (K.2.1 49 i) j x = if j < 0 ∨ 8 ≤ j.toNatClampNeg then none else some (jy_w K (jy_up f 49 i j.toNatClampNeg x) g) := jy_sI ho h rfl
theorem jv_l49 (h : jy_lv K 49 i) : jx_gL Z (jy_w K f g) (K.2.1 49 i) = some 8 := jy_gL h rfl (by decide)
end JV
