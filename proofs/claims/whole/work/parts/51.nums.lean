/-! numbers: Int32 by their integers -/
theorem jz_cl (x : Int32) : x.toNatClampNeg = x.toInt.toNat := rfl
theorem jz_0 : (0 : Int32).toInt = 0 := by decide
theorem jz_1 : (1 : Int32).toInt = 1 := by decide
theorem jz_2 : (2 : Int32).toInt = 2 := by decide
theorem jz_3 : (3 : Int32).toInt = 3 := by decide
theorem jz_4 : (4 : Int32).toInt = 4 := by decide
theorem jz_5 : (5 : Int32).toInt = 5 := by decide
theorem jz_6 : (6 : Int32).toInt = 6 := by decide
theorem jz_7 : (7 : Int32).toInt = 7 := by decide
theorem jz_8 : (8 : Int32).toInt = 8 := by decide
theorem jz_9 : (9 : Int32).toInt = 9 := by decide
theorem jz_10 : (10 : Int32).toInt = 10 := by decide
theorem jz_11 : (11 : Int32).toInt = 11 := by decide
theorem jz_12 : (12 : Int32).toInt = 12 := by decide
theorem jz_13 : (13 : Int32).toInt = 13 := by decide
theorem jz_14 : (14 : Int32).toInt = 14 := by decide
theorem jz_15 : (15 : Int32).toInt = 15 := by decide
theorem jz_16 : (16 : Int32).toInt = 16 := by decide
theorem jz_17 : (17 : Int32).toInt = 17 := by decide
theorem jz_18 : (18 : Int32).toInt = 18 := by decide
theorem jz_19 : (19 : Int32).toInt = 19 := by decide
theorem jz_20 : (20 : Int32).toInt = 20 := by decide
theorem jz_21 : (21 : Int32).toInt = 21 := by decide
theorem jz_22 : (22 : Int32).toInt = 22 := by decide
theorem jz_23 : (23 : Int32).toInt = 23 := by decide
theorem jz_24 : (24 : Int32).toInt = 24 := by decide
theorem jz_25 : (25 : Int32).toInt = 25 := by decide
theorem jz_26 : (26 : Int32).toInt = 26 := by decide
theorem jz_27 : (27 : Int32).toInt = 27 := by decide
theorem jz_28 : (28 : Int32).toInt = 28 := by decide
theorem jz_29 : (29 : Int32).toInt = 29 := by decide
theorem jz_30 : (30 : Int32).toInt = 30 := by decide
theorem jz_31 : (31 : Int32).toInt = 31 := by decide
theorem jz_32 : (32 : Int32).toInt = 32 := by decide
theorem jz_33 : (33 : Int32).toInt = 33 := by decide
theorem jz_50 : (50 : Int32).toInt = 50 := by decide
theorem jz_64 : (64 : Int32).toInt = 64 := by decide
theorem jz_100 : (100 : Int32).toInt = 100 := by decide
theorem jz_511 : (511 : Int32).toInt = 511 := by decide
theorem jz_512 : (512 : Int32).toInt = 512 := by decide
theorem jz_3586 : (3586 : Int32).toInt = 3586 := by decide
theorem jz_m1 : (-1 : Int32).toInt = -1 := by decide
theorem jz_m2 : (-2 : Int32).toInt = -2 := by decide
theorem jz_m3 : (-3 : Int32).toInt = -3 := by decide
theorem jz_m4 : (-4 : Int32).toInt = -4 := by decide
theorem jz_m5 : (-5 : Int32).toInt = -5 := by decide
theorem jz_eq {x y : Int32} : x = y ↔ x.toInt = y.toInt := ⟨fun h => by rw [h], fun h => Int32.toInt_inj.mp h⟩
theorem jz_nI {x : Int32} (h : 0 ≤ x.toInt) : nI x.toNatClampNeg = x := by
  rw [jz_eq, jz_cl]
  have hlt : x.toInt < 2 ^ 31 := Int32.toInt_lt x
  rw [nI_toInt (by omega)]
  omega
theorem jz_of {x : Int32} {n : Nat} (h : x = nI n) (hn : n < 2 ^ 31) : x.toNatClampNeg = n := by rw [h, nI_clamp hn]
theorem jz_in {x : Int32} {n : Nat} (h0 : 0 ≤ x.toInt) (h1 : x.toInt < n) : ¬ (x < 0 ∨ n ≤ x.toNatClampNeg) := by
  rw [Int32.lt_iff_toInt_lt, jz_cl, jz_0]
  omega
