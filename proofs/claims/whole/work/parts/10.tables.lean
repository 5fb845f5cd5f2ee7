/-! by program (gen.py) out of the claim's tables_1: classes, fields, methods, calls, and what the tables say of them -/
def jt_cn (k : Nat) : String := match k with
  | 0 => "CoinChild"
  | 1 => "CoinChild$Coin"
  | 2 => "CoinChild$Exit"
  | 3 => "CoinChild$Block"
  | 4 => "CoinChild$Entry"
  | 5 => "CoinChildModel"
  | _ => "CoinChildLaw"
def jt_G : List Cond := lw_tbl.filter goodWord
theorem jt_in {w : Cond} (i : Nat) (h : tables_1[i]? = some w) : w ∈ lw_tbl := List.mem_append_right _ (List.mem_of_getElem? h)
theorem jt_g {w : Cond} (i : Nat) (h : tables_1[i]? = some w) (hg : goodWord w = true) : w ∈ jt_G := List.mem_filter.mpr ⟨jt_in i h, hg⟩
theorem jt_s {w : Cond} (i : Nat) (h : (k2_sels lw_privs)[i]? = some w) (hg : goodWord w = true) : w ∈ jt_G := List.mem_filter.mpr ⟨List.mem_append_left _ (List.mem_of_getElem? h), hg⟩
theorem jt_good : ∀ w ∈ jt_G, goodWord w = true := fun _ h => (List.mem_filter.mp h).2
theorem jt_look {β : Type} {k : Nat × Nat} {v : β} : ∀ {l : List ((Nat × Nat) × β)}, l.lookup k = some v → (k, v) ∈ l
  | [], h => by simp at h
  | (a, b) :: l, h => by
    rw [List.lookup_cons] at h
    split at h
    · rename_i e
      have e : k = a := by simpa using e
      cases h
      rw [e]
      exact List.mem_cons_self
    · exact List.mem_cons_of_mem _ (jt_look h)
def jt_T0 : u_T := fun k => match k with
  | 0 => ("CoinChild", "seed", "I", true)
  | 1 => ("CoinChild", "period", "I", true)
  | 2 => ("CoinChild", "money", "[I", true)
  | 3 => ("CoinChild", "since", "[I", true)
  | 4 => ("CoinChild", "coins", "[LCoinChild$Coin;", true)
  | 5 => ("CoinChild", "coinCount", "I", false)
  | 6 => ("CoinChild", "blocks", "[LCoinChild$Block;", true)
  | 7 => ("CoinChild", "blockCount", "I", false)
  | 8 => ("CoinChild", "waiting", "[LCoinChild$Entry;", true)
  | 9 => ("CoinChild", "draft", "[LCoinChild$Entry;", true)
  | _ => ("CoinChild", "time", "I", false)
def jt_t0 : Nat → FieldType := fun k => match k with
  | 0 => .int
  | 1 => .int
  | 2 => .array .int
  | 3 => .array .int
  | 4 => .array (.object "CoinChild$Coin")
  | 5 => .int
  | 6 => .array (.object "CoinChild$Block")
  | 7 => .int
  | 8 => .array (.object "CoinChild$Entry")
  | 9 => .array (.object "CoinChild$Entry")
  | _ => .int
def jt_T1 : u_T := fun k => match k with
  | 0 => ("CoinChild$Coin", "value", "I", true)
  | 1 => ("CoinChild$Coin", "gone", "Z", false)
  | _ => ("CoinChild$Coin", "exit", "LCoinChild$Exit;", true)
def jt_t1 : Nat → FieldType := fun k => match k with
  | 0 => .int
  | 1 => .boolean
  | _ => .object "CoinChild$Exit"
def jt_T2 : u_T := fun k => match k with
  | 0 => ("CoinChild$Exit", "open", "Z", false)
  | 1 => ("CoinChild$Exit", "user", "I", false)
  | 2 => ("CoinChild$Exit", "target", "I", false)
  | 3 => ("CoinChild$Exit", "source", "I", false)
  | 4 => ("CoinChild$Exit", "start", "I", false)
  | _ => ("CoinChild$Exit", "challenges", "[I", true)
def jt_t2 : Nat → FieldType := fun k => match k with
  | 0 => .boolean
  | 1 => .int
  | 2 => .int
  | 3 => .int
  | 4 => .int
  | _ => .array .int
def jt_T3 : u_T := fun k => match k with
  | 0 => ("CoinChild$Block", "entries", "[LCoinChild$Entry;", true)
  | 1 => ("CoinChild$Block", "tree", "[I", true)
  | _ => ("CoinChild$Block", "shown", "Z", false)
def jt_t3 : Nat → FieldType := fun k => match k with
  | 0 => .array (.object "CoinChild$Entry")
  | 1 => .array .int
  | _ => .boolean
def jt_T4 : u_T := fun k => match k with
  | 0 => ("CoinChild$Entry", "deposit", "Z", true)
  | 1 => ("CoinChild$Entry", "prev", "I", true)
  | 2 => ("CoinChild$Entry", "from", "I", true)
  | 3 => ("CoinChild$Entry", "to", "I", true)
  | 4 => ("CoinChild$Entry", "good", "Z", true)
  | _ => ("CoinChild$Entry", "leaf", "I", true)
def jt_t4 : Nat → FieldType := fun k => match k with
  | 0 => .boolean
  | 1 => .int
  | 2 => .int
  | 3 => .int
  | 4 => .boolean
  | _ => .int
def jt_T5 : u_T := fun k => match k with
  | 0 => ("CoinChildModel", "seed", "I", true)
  | 1 => ("CoinChildModel", "period", "I", true)
  | 2 => ("CoinChildModel", "time", "I", false)
  | 3 => ("CoinChildModel", "money", "[I", false)
  | 4 => ("CoinChildModel", "coins", "I", false)
  | 5 => ("CoinChildModel", "valueOf", "[I", false)
  | 6 => ("CoinChildModel", "gone", "[Z", false)
  | 7 => ("CoinChildModel", "since", "[I", false)
  | 8 => ("CoinChildModel", "blocks", "I", false)
  | 9 => ("CoinChildModel", "hidden", "[Z", false)
  | 10 => ("CoinChildModel", "entry", "[Z", false)
  | 11 => ("CoinChildModel", "deposits", "[Z", false)
  | 12 => ("CoinChildModel", "prevOf", "[I", false)
  | 13 => ("CoinChildModel", "fromOf", "[I", false)
  | 14 => ("CoinChildModel", "toOf", "[I", false)
  | 15 => ("CoinChildModel", "signed", "[I", false)
  | 16 => ("CoinChildModel", "waits", "[Z", false)
  | 17 => ("CoinChildModel", "waitPrev", "[I", false)
  | 18 => ("CoinChildModel", "waitFrom", "[I", false)
  | 19 => ("CoinChildModel", "waitTo", "[I", false)
  | 20 => ("CoinChildModel", "waitSigned", "[I", false)
  | 21 => ("CoinChildModel", "open", "[Z", false)
  | 22 => ("CoinChildModel", "exiter", "[I", false)
  | 23 => ("CoinChildModel", "exitBlock", "[I", false)
  | 24 => ("CoinChildModel", "exitPrev", "[I", false)
  | 25 => ("CoinChildModel", "startOf", "[I", false)
  | 26 => ("CoinChildModel", "asked", "[Z", false)
  | 27 => ("CoinChildModel", "stands", "[Z", false)
  | 28 => ("CoinChildModel", "challenger", "[I", false)
  | _ => ("CoinChildModel", "row", "[I", false)
def jt_t5 : Nat → FieldType := fun k => match k with
  | 0 => .int
  | 1 => .int
  | 2 => .int
  | 3 => .array .int
  | 4 => .int
  | 5 => .array .int
  | 6 => .array .boolean
  | 7 => .array .int
  | 8 => .int
  | 9 => .array .boolean
  | 10 => .array .boolean
  | 11 => .array .boolean
  | 12 => .array .int
  | 13 => .array .int
  | 14 => .array .int
  | 15 => .array .int
  | 16 => .array .boolean
  | 17 => .array .int
  | 18 => .array .int
  | 19 => .array .int
  | 20 => .array .int
  | 21 => .array .boolean
  | 22 => .array .int
  | 23 => .array .int
  | 24 => .array .int
  | 25 => .array .int
  | 26 => .array .boolean
  | 27 => .array .boolean
  | 28 => .array .int
  | _ => .array .int
abbrev jt_Cl : List vw_C := [("CoinChild", jt_T0, 11), ("CoinChild$Coin", jt_T1, 3), ("CoinChild$Exit", jt_T2, 6), ("CoinChild$Block", jt_T3, 3), ("CoinChild$Entry", jt_T4, 6), ("CoinChildModel", jt_T5, 30)]
/-- what the tables say of a class and its fields -/
def jt_CP (C : String) (T : u_T) (N : Nat) (ty : Nat → FieldType) : Prop := (∀ w ∈ u_ws C T N, w ∈ jt_G) ∧ (∀ k, k < N → parseFieldDescriptor (T k).2.2.1 = some (ty k)) ∧ ∀ a, a < N → ∀ b, b < N → a ≠ b → (T a).2.1 ≠ (T b).2.1
theorem jt_c0 : jt_CP "CoinChild" jt_T0 11 jt_t0 := by
  refine ⟨fun w h => ?_, by decide +kernel, by decide +kernel⟩
  obtain ⟨k, hk, rfl⟩ := List.mem_map.mp h
  have hk := List.mem_range.mp hk
  match k, hk with
  | 0, _ => exact jt_g 39 (by decide +kernel) rfl
  | 1, _ => exact jt_g 41 (by decide +kernel) rfl
  | 2, _ => exact jt_g 43 (by decide +kernel) rfl
  | 3, _ => exact jt_g 45 (by decide +kernel) rfl
  | 4, _ => exact jt_g 47 (by decide +kernel) rfl
  | 5, _ => exact jt_g 49 (by decide +kernel) rfl
  | 6, _ => exact jt_g 51 (by decide +kernel) rfl
  | 7, _ => exact jt_g 53 (by decide +kernel) rfl
  | 8, _ => exact jt_g 55 (by decide +kernel) rfl
  | 9, _ => exact jt_g 57 (by decide +kernel) rfl
  | 10, _ => exact jt_g 59 (by decide +kernel) rfl
  | n + 11, h => exact absurd h (by omega)
theorem jt_c1 : jt_CP "CoinChild$Coin" jt_T1 3 jt_t1 := by
  refine ⟨fun w h => ?_, by decide +kernel, by decide +kernel⟩
  obtain ⟨k, hk, rfl⟩ := List.mem_map.mp h
  have hk := List.mem_range.mp hk
  match k, hk with
  | 0, _ => exact jt_g 110 (by decide +kernel) rfl
  | 1, _ => exact jt_g 112 (by decide +kernel) rfl
  | 2, _ => exact jt_g 114 (by decide +kernel) rfl
  | n + 3, h => exact absurd h (by omega)
theorem jt_c2 : jt_CP "CoinChild$Exit" jt_T2 6 jt_t2 := by
  refine ⟨fun w h => ?_, by decide +kernel, by decide +kernel⟩
  obtain ⟨k, hk, rfl⟩ := List.mem_map.mp h
  have hk := List.mem_range.mp hk
  match k, hk with
  | 0, _ => exact jt_g 92 (by decide +kernel) rfl
  | 1, _ => exact jt_g 94 (by decide +kernel) rfl
  | 2, _ => exact jt_g 96 (by decide +kernel) rfl
  | 3, _ => exact jt_g 98 (by decide +kernel) rfl
  | 4, _ => exact jt_g 100 (by decide +kernel) rfl
  | 5, _ => exact jt_g 102 (by decide +kernel) rfl
  | n + 6, h => exact absurd h (by omega)
theorem jt_c3 : jt_CP "CoinChild$Block" jt_T3 3 jt_t3 := by
  refine ⟨fun w h => ?_, by decide +kernel, by decide +kernel⟩
  obtain ⟨k, hk, rfl⟩ := List.mem_map.mp h
  have hk := List.mem_range.mp hk
  match k, hk with
  | 0, _ => exact jt_g 132 (by decide +kernel) rfl
  | 1, _ => exact jt_g 134 (by decide +kernel) rfl
  | 2, _ => exact jt_g 136 (by decide +kernel) rfl
  | n + 3, h => exact absurd h (by omega)
theorem jt_c4 : jt_CP "CoinChild$Entry" jt_T4 6 jt_t4 := by
  refine ⟨fun w h => ?_, by decide +kernel, by decide +kernel⟩
  obtain ⟨k, hk, rfl⟩ := List.mem_map.mp h
  have hk := List.mem_range.mp hk
  match k, hk with
  | 0, _ => exact jt_g 160 (by decide +kernel) rfl
  | 1, _ => exact jt_g 162 (by decide +kernel) rfl
  | 2, _ => exact jt_g 164 (by decide +kernel) rfl
  | 3, _ => exact jt_g 166 (by decide +kernel) rfl
  | 4, _ => exact jt_g 168 (by decide +kernel) rfl
  | 5, _ => exact jt_g 170 (by decide +kernel) rfl
  | n + 6, h => exact absurd h (by omega)
theorem jt_c5 : jt_CP "CoinChildModel" jt_T5 30 jt_t5 := by
  refine ⟨fun w h => ?_, by decide +kernel, by decide +kernel⟩
  obtain ⟨k, hk, rfl⟩ := List.mem_map.mp h
  have hk := List.mem_range.mp hk
  match k, hk with
  | 0, _ => exact jt_g 440 (by decide +kernel) rfl
  | 1, _ => exact jt_g 442 (by decide +kernel) rfl
  | 2, _ => exact jt_g 444 (by decide +kernel) rfl
  | 3, _ => exact jt_g 446 (by decide +kernel) rfl
  | 4, _ => exact jt_g 448 (by decide +kernel) rfl
  | 5, _ => exact jt_g 450 (by decide +kernel) rfl
  | 6, _ => exact jt_g 452 (by decide +kernel) rfl
  | 7, _ => exact jt_g 454 (by decide +kernel) rfl
  | 8, _ => exact jt_g 456 (by decide +kernel) rfl
  | 9, _ => exact jt_g 458 (by decide +kernel) rfl
  | 10, _ => exact jt_g 460 (by decide +kernel) rfl
  | 11, _ => exact jt_g 462 (by decide +kernel) rfl
  | 12, _ => exact jt_g 464 (by decide +kernel) rfl
  | 13, _ => exact jt_g 466 (by decide +kernel) rfl
  | 14, _ => exact jt_g 468 (by decide +kernel) rfl
  | 15, _ => exact jt_g 470 (by decide +kernel) rfl
  | 16, _ => exact jt_g 472 (by decide +kernel) rfl
  | 17, _ => exact jt_g 474 (by decide +kernel) rfl
  | 18, _ => exact jt_g 476 (by decide +kernel) rfl
  | 19, _ => exact jt_g 478 (by decide +kernel) rfl
  | 20, _ => exact jt_g 480 (by decide +kernel) rfl
  | 21, _ => exact jt_g 482 (by decide +kernel) rfl
  | 22, _ => exact jt_g 484 (by decide +kernel) rfl
  | 23, _ => exact jt_g 486 (by decide +kernel) rfl
  | 24, _ => exact jt_g 488 (by decide +kernel) rfl
  | 25, _ => exact jt_g 490 (by decide +kernel) rfl
  | 26, _ => exact jt_g 492 (by decide +kernel) rfl
  | 27, _ => exact jt_g 494 (by decide +kernel) rfl
  | 28, _ => exact jt_g 496 (by decide +kernel) rfl
  | 29, _ => exact jt_g 498 (by decide +kernel) rfl
  | n + 30, h => exact absurd h (by omega)
def jt_tk : FieldType → Nat
  | .int => 0
  | .boolean => 1
  | .object _ => 2
  | .array _ => 2
  | _ => 3
def jt_F : List ((Nat × Nat) × (Nat × Nat × Nat × Nat)) := [((0, 37), (0, 0, 0, 1)), ((0, 50), (0, 1, 0, 1)), ((0, 9), (0, 2, 2, 1)), ((0, 13), (0, 3, 2, 1)), ((0, 18), (0, 4, 2, 1)), ((0, 57), (0, 5, 0, 0)), ((0, 24), (0, 6, 2, 1)), ((0, 60), (0, 7, 0, 0)), ((0, 30), (0, 8, 2, 1)), ((0, 34), (0, 9, 2, 1)), ((0, 146), (0, 10, 0, 0)), ((2, 15), (2, 0, 1, 0)), ((0, 117), (2, 0, 1, 0)), ((2, 19), (2, 1, 0, 0)), ((0, 193), (2, 1, 0, 0)), ((2, 23), (2, 2, 0, 0)), ((0, 160), (2, 2, 0, 0)), ((2, 26), (2, 3, 0, 0)), ((0, 171), (2, 3, 0, 0)), ((2, 29), (2, 4, 0, 0)), ((0, 174), (2, 4, 0, 0)), ((2, 9), (2, 5, 2, 1)), ((1, 16), (1, 0, 0, 1)), ((0, 203), (1, 0, 0, 2)), ((0, 110), (1, 1, 1, 0)), ((1, 10), (1, 2, 2, 1)), ((0, 113), (1, 2, 2, 2)), ((3, 11), (3, 0, 2, 1)), ((0, 73), (3, 0, 2, 2)), ((3, 17), (3, 1, 2, 1)), ((3, 21), (3, 2, 1, 0)), ((0, 106), (3, 2, 1, 0)), ((4, 7), (4, 0, 1, 1)), ((0, 236), (4, 0, 1, 2)), ((4, 13), (4, 1, 0, 1)), ((0, 143), (4, 1, 0, 2)), ((4, 17), (4, 2, 0, 1)), ((0, 239), (4, 2, 0, 2)), ((4, 20), (4, 3, 0, 1)), ((0, 136), (4, 3, 0, 2)), ((4, 23), (4, 4, 1, 1)), ((0, 233), (4, 4, 1, 2)), ((4, 26), (4, 5, 0, 1)), ((3, 25), (4, 5, 0, 2)), ((5, 86), (5, 0, 0, 1)), ((5, 90), (5, 1, 0, 1)), ((5, 144), (5, 2, 0, 0)), ((5, 7), (5, 3, 2, 0)), ((5, 98), (5, 4, 0, 0)), ((5, 13), (5, 5, 2, 0)), ((5, 16), (5, 6, 2, 0)), ((5, 20), (5, 7, 2, 0)), ((5, 101), (5, 8, 0, 0)), ((5, 23), (5, 9, 2, 0)), ((5, 26), (5, 10, 2, 0)), ((5, 29), (5, 11, 2, 0)), ((5, 32), (5, 12, 2, 0)), ((5, 35), (5, 13, 2, 0)), ((5, 38), (5, 14, 2, 0)), ((5, 41), (5, 15, 2, 0)), ((5, 44), (5, 16, 2, 0)), ((5, 47), (5, 17, 2, 0)), ((5, 50), (5, 18, 2, 0)), ((5, 53), (5, 19, 2, 0)), ((5, 56), (5, 20, 2, 0)), ((5, 59), (5, 21, 2, 0)), ((5, 62), (5, 22, 2, 0)), ((5, 65), (5, 23, 2, 0)), ((5, 68), (5, 24, 2, 0)), ((5, 71), (5, 25, 2, 0)), ((5, 74), (5, 26, 2, 0)), ((5, 77), (5, 27, 2, 0)), ((5, 80), (5, 28, 2, 0)), ((5, 83), (5, 29, 2, 0))]
def jt_fld (c k : Nat) : Option (Nat × Nat × Nat × Nat) := jt_F.lookup (c, k)
def jt_FP (e : (Nat × Nat) × (Nat × Nat × Nat × Nat)) : Prop := ∃ (C : String) (T : u_T) (N : Nat) (ty : Nat → FieldType), jt_Cl[e.2.1]? = some (C, T, N) ∧ e.2.2.1 < N ∧ jt_CP C T N ty ∧ Cond.fieldLink (jt_cn e.1.1) e.1.2 (T e.2.2.1).1 (T e.2.2.1).2.1 (T e.2.2.1).2.2.1 ∈ jt_G ∧ jt_tk (ty e.2.2.1) = e.2.2.2.1 ∧ (e.2.2.2.2 = 0 → (T e.2.2.1).2.2.2 = false) ∧ (e.2.2.2.2 = 1 → (T e.2.2.1).2.2.2 = true ∧ (T e.2.2.1).1 = jt_cn e.1.1)
theorem jt_F_ok_0 : jt_FP ((0, 37), (0, 0, 0, 1)) := ⟨_, _, _, _, rfl, by decide, jt_c0, jt_g 28 (by decide +kernel) rfl, rfl, by decide +kernel, by decide +kernel⟩
theorem jt_F_ok_1 : jt_FP ((0, 50), (0, 1, 0, 1)) := ⟨_, _, _, _, rfl, by decide, jt_c0, jt_g 29 (by decide +kernel) rfl, rfl, by decide +kernel, by decide +kernel⟩
theorem jt_F_ok_2 : jt_FP ((0, 9), (0, 2, 2, 1)) := ⟨_, _, _, _, rfl, by decide, jt_c0, jt_g 30 (by decide +kernel) rfl, rfl, by decide +kernel, by decide +kernel⟩
theorem jt_F_ok_3 : jt_FP ((0, 13), (0, 3, 2, 1)) := ⟨_, _, _, _, rfl, by decide, jt_c0, jt_g 31 (by decide +kernel) rfl, rfl, by decide +kernel, by decide +kernel⟩
theorem jt_F_ok_4 : jt_FP ((0, 18), (0, 4, 2, 1)) := ⟨_, _, _, _, rfl, by decide, jt_c0, jt_g 32 (by decide +kernel) rfl, rfl, by decide +kernel, by decide +kernel⟩
theorem jt_F_ok_5 : jt_FP ((0, 57), (0, 5, 0, 0)) := ⟨_, _, _, _, rfl, by decide, jt_c0, jt_g 33 (by decide +kernel) rfl, rfl, by decide +kernel, by decide +kernel⟩
theorem jt_F_ok_6 : jt_FP ((0, 24), (0, 6, 2, 1)) := ⟨_, _, _, _, rfl, by decide, jt_c0, jt_g 34 (by decide +kernel) rfl, rfl, by decide +kernel, by decide +kernel⟩
theorem jt_F_ok_7 : jt_FP ((0, 60), (0, 7, 0, 0)) := ⟨_, _, _, _, rfl, by decide, jt_c0, jt_g 35 (by decide +kernel) rfl, rfl, by decide +kernel, by decide +kernel⟩
theorem jt_F_ok_8 : jt_FP ((0, 30), (0, 8, 2, 1)) := ⟨_, _, _, _, rfl, by decide, jt_c0, jt_g 36 (by decide +kernel) rfl, rfl, by decide +kernel, by decide +kernel⟩
theorem jt_F_ok_9 : jt_FP ((0, 34), (0, 9, 2, 1)) := ⟨_, _, _, _, rfl, by decide, jt_c0, jt_g 37 (by decide +kernel) rfl, rfl, by decide +kernel, by decide +kernel⟩
theorem jt_F_ok_10 : jt_FP ((0, 146), (0, 10, 0, 0)) := ⟨_, _, _, _, rfl, by decide, jt_c0, jt_g 38 (by decide +kernel) rfl, rfl, by decide +kernel, by decide +kernel⟩
theorem jt_F_ok_11 : jt_FP ((2, 15), (2, 0, 1, 0)) := ⟨_, _, _, _, rfl, by decide, jt_c2, jt_g 81 (by decide +kernel) rfl, rfl, by decide +kernel, by decide +kernel⟩
theorem jt_F_ok_12 : jt_FP ((0, 117), (2, 0, 1, 0)) := ⟨_, _, _, _, rfl, by decide, jt_c2, jt_g 82 (by decide +kernel) rfl, rfl, by decide +kernel, by decide +kernel⟩
theorem jt_F_ok_13 : jt_FP ((2, 19), (2, 1, 0, 0)) := ⟨_, _, _, _, rfl, by decide, jt_c2, jt_g 83 (by decide +kernel) rfl, rfl, by decide +kernel, by decide +kernel⟩
theorem jt_F_ok_14 : jt_FP ((0, 193), (2, 1, 0, 0)) := ⟨_, _, _, _, rfl, by decide, jt_c2, jt_g 84 (by decide +kernel) rfl, rfl, by decide +kernel, by decide +kernel⟩
theorem jt_F_ok_15 : jt_FP ((2, 23), (2, 2, 0, 0)) := ⟨_, _, _, _, rfl, by decide, jt_c2, jt_g 85 (by decide +kernel) rfl, rfl, by decide +kernel, by decide +kernel⟩
theorem jt_F_ok_16 : jt_FP ((0, 160), (2, 2, 0, 0)) := ⟨_, _, _, _, rfl, by decide, jt_c2, jt_g 86 (by decide +kernel) rfl, rfl, by decide +kernel, by decide +kernel⟩
theorem jt_F_ok_17 : jt_FP ((2, 26), (2, 3, 0, 0)) := ⟨_, _, _, _, rfl, by decide, jt_c2, jt_g 87 (by decide +kernel) rfl, rfl, by decide +kernel, by decide +kernel⟩
theorem jt_F_ok_18 : jt_FP ((0, 171), (2, 3, 0, 0)) := ⟨_, _, _, _, rfl, by decide, jt_c2, jt_g 88 (by decide +kernel) rfl, rfl, by decide +kernel, by decide +kernel⟩
theorem jt_F_ok_19 : jt_FP ((2, 29), (2, 4, 0, 0)) := ⟨_, _, _, _, rfl, by decide, jt_c2, jt_g 89 (by decide +kernel) rfl, rfl, by decide +kernel, by decide +kernel⟩
theorem jt_F_ok_20 : jt_FP ((0, 174), (2, 4, 0, 0)) := ⟨_, _, _, _, rfl, by decide, jt_c2, jt_g 90 (by decide +kernel) rfl, rfl, by decide +kernel, by decide +kernel⟩
theorem jt_F_ok_21 : jt_FP ((2, 9), (2, 5, 2, 1)) := ⟨_, _, _, _, rfl, by decide, jt_c2, jt_g 91 (by decide +kernel) rfl, rfl, by decide +kernel, by decide +kernel⟩
theorem jt_F_ok_22 : jt_FP ((1, 16), (1, 0, 0, 1)) := ⟨_, _, _, _, rfl, by decide, jt_c1, jt_g 105 (by decide +kernel) rfl, rfl, by decide +kernel, by decide +kernel⟩
theorem jt_F_ok_23 : jt_FP ((0, 203), (1, 0, 0, 2)) := ⟨_, _, _, _, rfl, by decide, jt_c1, jt_g 106 (by decide +kernel) rfl, rfl, by decide +kernel, by decide +kernel⟩
theorem jt_F_ok_24 : jt_FP ((0, 110), (1, 1, 1, 0)) := ⟨_, _, _, _, rfl, by decide, jt_c1, jt_g 107 (by decide +kernel) rfl, rfl, by decide +kernel, by decide +kernel⟩
theorem jt_F_ok_25 : jt_FP ((1, 10), (1, 2, 2, 1)) := ⟨_, _, _, _, rfl, by decide, jt_c1, jt_g 108 (by decide +kernel) rfl, rfl, by decide +kernel, by decide +kernel⟩
theorem jt_F_ok_26 : jt_FP ((0, 113), (1, 2, 2, 2)) := ⟨_, _, _, _, rfl, by decide, jt_c1, jt_g 109 (by decide +kernel) rfl, rfl, by decide +kernel, by decide +kernel⟩
theorem jt_F_ok_27 : jt_FP ((3, 11), (3, 0, 2, 1)) := ⟨_, _, _, _, rfl, by decide, jt_c3, jt_g 127 (by decide +kernel) rfl, rfl, by decide +kernel, by decide +kernel⟩
theorem jt_F_ok_28 : jt_FP ((0, 73), (3, 0, 2, 2)) := ⟨_, _, _, _, rfl, by decide, jt_c3, jt_g 128 (by decide +kernel) rfl, rfl, by decide +kernel, by decide +kernel⟩
theorem jt_F_ok_29 : jt_FP ((3, 17), (3, 1, 2, 1)) := ⟨_, _, _, _, rfl, by decide, jt_c3, jt_g 129 (by decide +kernel) rfl, rfl, by decide +kernel, by decide +kernel⟩
theorem jt_F_ok_30 : jt_FP ((3, 21), (3, 2, 1, 0)) := ⟨_, _, _, _, rfl, by decide, jt_c3, jt_g 130 (by decide +kernel) rfl, rfl, by decide +kernel, by decide +kernel⟩
theorem jt_F_ok_31 : jt_FP ((0, 106), (3, 2, 1, 0)) := ⟨_, _, _, _, rfl, by decide, jt_c3, jt_g 131 (by decide +kernel) rfl, rfl, by decide +kernel, by decide +kernel⟩
theorem jt_F_ok_32 : jt_FP ((4, 7), (4, 0, 1, 1)) := ⟨_, _, _, _, rfl, by decide, jt_c4, jt_g 148 (by decide +kernel) rfl, rfl, by decide +kernel, by decide +kernel⟩
theorem jt_F_ok_33 : jt_FP ((0, 236), (4, 0, 1, 2)) := ⟨_, _, _, _, rfl, by decide, jt_c4, jt_g 149 (by decide +kernel) rfl, rfl, by decide +kernel, by decide +kernel⟩
theorem jt_F_ok_34 : jt_FP ((4, 13), (4, 1, 0, 1)) := ⟨_, _, _, _, rfl, by decide, jt_c4, jt_g 150 (by decide +kernel) rfl, rfl, by decide +kernel, by decide +kernel⟩
theorem jt_F_ok_35 : jt_FP ((0, 143), (4, 1, 0, 2)) := ⟨_, _, _, _, rfl, by decide, jt_c4, jt_g 151 (by decide +kernel) rfl, rfl, by decide +kernel, by decide +kernel⟩
theorem jt_F_ok_36 : jt_FP ((4, 17), (4, 2, 0, 1)) := ⟨_, _, _, _, rfl, by decide, jt_c4, jt_g 152 (by decide +kernel) rfl, rfl, by decide +kernel, by decide +kernel⟩
theorem jt_F_ok_37 : jt_FP ((0, 239), (4, 2, 0, 2)) := ⟨_, _, _, _, rfl, by decide, jt_c4, jt_g 153 (by decide +kernel) rfl, rfl, by decide +kernel, by decide +kernel⟩
theorem jt_F_ok_38 : jt_FP ((4, 20), (4, 3, 0, 1)) := ⟨_, _, _, _, rfl, by decide, jt_c4, jt_g 154 (by decide +kernel) rfl, rfl, by decide +kernel, by decide +kernel⟩
theorem jt_F_ok_39 : jt_FP ((0, 136), (4, 3, 0, 2)) := ⟨_, _, _, _, rfl, by decide, jt_c4, jt_g 155 (by decide +kernel) rfl, rfl, by decide +kernel, by decide +kernel⟩
theorem jt_F_ok_40 : jt_FP ((4, 23), (4, 4, 1, 1)) := ⟨_, _, _, _, rfl, by decide, jt_c4, jt_g 156 (by decide +kernel) rfl, rfl, by decide +kernel, by decide +kernel⟩
theorem jt_F_ok_41 : jt_FP ((0, 233), (4, 4, 1, 2)) := ⟨_, _, _, _, rfl, by decide, jt_c4, jt_g 157 (by decide +kernel) rfl, rfl, by decide +kernel, by decide +kernel⟩
theorem jt_F_ok_42 : jt_FP ((4, 26), (4, 5, 0, 1)) := ⟨_, _, _, _, rfl, by decide, jt_c4, jt_g 158 (by decide +kernel) rfl, rfl, by decide +kernel, by decide +kernel⟩
theorem jt_F_ok_43 : jt_FP ((3, 25), (4, 5, 0, 2)) := ⟨_, _, _, _, rfl, by decide, jt_c4, jt_g 159 (by decide +kernel) rfl, rfl, by decide +kernel, by decide +kernel⟩
theorem jt_F_ok_44 : jt_FP ((5, 86), (5, 0, 0, 1)) := ⟨_, _, _, _, rfl, by decide, jt_c5, jt_g 410 (by decide +kernel) rfl, rfl, by decide +kernel, by decide +kernel⟩
theorem jt_F_ok_45 : jt_FP ((5, 90), (5, 1, 0, 1)) := ⟨_, _, _, _, rfl, by decide, jt_c5, jt_g 411 (by decide +kernel) rfl, rfl, by decide +kernel, by decide +kernel⟩
theorem jt_F_ok_46 : jt_FP ((5, 144), (5, 2, 0, 0)) := ⟨_, _, _, _, rfl, by decide, jt_c5, jt_g 412 (by decide +kernel) rfl, rfl, by decide +kernel, by decide +kernel⟩
theorem jt_F_ok_47 : jt_FP ((5, 7), (5, 3, 2, 0)) := ⟨_, _, _, _, rfl, by decide, jt_c5, jt_g 413 (by decide +kernel) rfl, rfl, by decide +kernel, by decide +kernel⟩
theorem jt_F_ok_48 : jt_FP ((5, 98), (5, 4, 0, 0)) := ⟨_, _, _, _, rfl, by decide, jt_c5, jt_g 414 (by decide +kernel) rfl, rfl, by decide +kernel, by decide +kernel⟩
theorem jt_F_ok_49 : jt_FP ((5, 13), (5, 5, 2, 0)) := ⟨_, _, _, _, rfl, by decide, jt_c5, jt_g 415 (by decide +kernel) rfl, rfl, by decide +kernel, by decide +kernel⟩
theorem jt_F_ok_50 : jt_FP ((5, 16), (5, 6, 2, 0)) := ⟨_, _, _, _, rfl, by decide, jt_c5, jt_g 416 (by decide +kernel) rfl, rfl, by decide +kernel, by decide +kernel⟩
theorem jt_F_ok_51 : jt_FP ((5, 20), (5, 7, 2, 0)) := ⟨_, _, _, _, rfl, by decide, jt_c5, jt_g 417 (by decide +kernel) rfl, rfl, by decide +kernel, by decide +kernel⟩
theorem jt_F_ok_52 : jt_FP ((5, 101), (5, 8, 0, 0)) := ⟨_, _, _, _, rfl, by decide, jt_c5, jt_g 418 (by decide +kernel) rfl, rfl, by decide +kernel, by decide +kernel⟩
theorem jt_F_ok_53 : jt_FP ((5, 23), (5, 9, 2, 0)) := ⟨_, _, _, _, rfl, by decide, jt_c5, jt_g 419 (by decide +kernel) rfl, rfl, by decide +kernel, by decide +kernel⟩
theorem jt_F_ok_54 : jt_FP ((5, 26), (5, 10, 2, 0)) := ⟨_, _, _, _, rfl, by decide, jt_c5, jt_g 420 (by decide +kernel) rfl, rfl, by decide +kernel, by decide +kernel⟩
theorem jt_F_ok_55 : jt_FP ((5, 29), (5, 11, 2, 0)) := ⟨_, _, _, _, rfl, by decide, jt_c5, jt_g 421 (by decide +kernel) rfl, rfl, by decide +kernel, by decide +kernel⟩
theorem jt_F_ok_56 : jt_FP ((5, 32), (5, 12, 2, 0)) := ⟨_, _, _, _, rfl, by decide, jt_c5, jt_g 422 (by decide +kernel) rfl, rfl, by decide +kernel, by decide +kernel⟩
theorem jt_F_ok_57 : jt_FP ((5, 35), (5, 13, 2, 0)) := ⟨_, _, _, _, rfl, by decide, jt_c5, jt_g 423 (by decide +kernel) rfl, rfl, by decide +kernel, by decide +kernel⟩
theorem jt_F_ok_58 : jt_FP ((5, 38), (5, 14, 2, 0)) := ⟨_, _, _, _, rfl, by decide, jt_c5, jt_g 424 (by decide +kernel) rfl, rfl, by decide +kernel, by decide +kernel⟩
theorem jt_F_ok_59 : jt_FP ((5, 41), (5, 15, 2, 0)) := ⟨_, _, _, _, rfl, by decide, jt_c5, jt_g 425 (by decide +kernel) rfl, rfl, by decide +kernel, by decide +kernel⟩
theorem jt_F_ok_60 : jt_FP ((5, 44), (5, 16, 2, 0)) := ⟨_, _, _, _, rfl, by decide, jt_c5, jt_g 426 (by decide +kernel) rfl, rfl, by decide +kernel, by decide +kernel⟩
theorem jt_F_ok_61 : jt_FP ((5, 47), (5, 17, 2, 0)) := ⟨_, _, _, _, rfl, by decide, jt_c5, jt_g 427 (by decide +kernel) rfl, rfl, by decide +kernel, by decide +kernel⟩
theorem jt_F_ok_62 : jt_FP ((5, 50), (5, 18, 2, 0)) := ⟨_, _, _, _, rfl, by decide, jt_c5, jt_g 428 (by decide +kernel) rfl, rfl, by decide +kernel, by decide +kernel⟩
theorem jt_F_ok_63 : jt_FP ((5, 53), (5, 19, 2, 0)) := ⟨_, _, _, _, rfl, by decide, jt_c5, jt_g 429 (by decide +kernel) rfl, rfl, by decide +kernel, by decide +kernel⟩
theorem jt_F_ok_64 : jt_FP ((5, 56), (5, 20, 2, 0)) := ⟨_, _, _, _, rfl, by decide, jt_c5, jt_g 430 (by decide +kernel) rfl, rfl, by decide +kernel, by decide +kernel⟩
theorem jt_F_ok_65 : jt_FP ((5, 59), (5, 21, 2, 0)) := ⟨_, _, _, _, rfl, by decide, jt_c5, jt_g 431 (by decide +kernel) rfl, rfl, by decide +kernel, by decide +kernel⟩
theorem jt_F_ok_66 : jt_FP ((5, 62), (5, 22, 2, 0)) := ⟨_, _, _, _, rfl, by decide, jt_c5, jt_g 432 (by decide +kernel) rfl, rfl, by decide +kernel, by decide +kernel⟩
theorem jt_F_ok_67 : jt_FP ((5, 65), (5, 23, 2, 0)) := ⟨_, _, _, _, rfl, by decide, jt_c5, jt_g 433 (by decide +kernel) rfl, rfl, by decide +kernel, by decide +kernel⟩
theorem jt_F_ok_68 : jt_FP ((5, 68), (5, 24, 2, 0)) := ⟨_, _, _, _, rfl, by decide, jt_c5, jt_g 434 (by decide +kernel) rfl, rfl, by decide +kernel, by decide +kernel⟩
theorem jt_F_ok_69 : jt_FP ((5, 71), (5, 25, 2, 0)) := ⟨_, _, _, _, rfl, by decide, jt_c5, jt_g 435 (by decide +kernel) rfl, rfl, by decide +kernel, by decide +kernel⟩
theorem jt_F_ok_70 : jt_FP ((5, 74), (5, 26, 2, 0)) := ⟨_, _, _, _, rfl, by decide, jt_c5, jt_g 436 (by decide +kernel) rfl, rfl, by decide +kernel, by decide +kernel⟩
theorem jt_F_ok_71 : jt_FP ((5, 77), (5, 27, 2, 0)) := ⟨_, _, _, _, rfl, by decide, jt_c5, jt_g 437 (by decide +kernel) rfl, rfl, by decide +kernel, by decide +kernel⟩
theorem jt_F_ok_72 : jt_FP ((5, 80), (5, 28, 2, 0)) := ⟨_, _, _, _, rfl, by decide, jt_c5, jt_g 438 (by decide +kernel) rfl, rfl, by decide +kernel, by decide +kernel⟩
theorem jt_F_ok_73 : jt_FP ((5, 83), (5, 29, 2, 0)) := ⟨_, _, _, _, rfl, by decide, jt_c5, jt_g 439 (by decide +kernel) rfl, rfl, by decide +kernel, by decide +kernel⟩
theorem jt_F_ok : ∀ e ∈ jt_F, jt_FP e := List.forall_mem_cons.mpr ⟨jt_F_ok_0, List.forall_mem_cons.mpr ⟨jt_F_ok_1, List.forall_mem_cons.mpr ⟨jt_F_ok_2, List.forall_mem_cons.mpr ⟨jt_F_ok_3, List.forall_mem_cons.mpr ⟨jt_F_ok_4, List.forall_mem_cons.mpr ⟨jt_F_ok_5, List.forall_mem_cons.mpr ⟨jt_F_ok_6, List.forall_mem_cons.mpr ⟨jt_F_ok_7, List.forall_mem_cons.mpr ⟨jt_F_ok_8, List.forall_mem_cons.mpr ⟨jt_F_ok_9, List.forall_mem_cons.mpr ⟨jt_F_ok_10, List.forall_mem_cons.mpr ⟨jt_F_ok_11, List.forall_mem_cons.mpr ⟨jt_F_ok_12, List.forall_mem_cons.mpr ⟨jt_F_ok_13, List.forall_mem_cons.mpr ⟨jt_F_ok_14, List.forall_mem_cons.mpr ⟨jt_F_ok_15, List.forall_mem_cons.mpr ⟨jt_F_ok_16, List.forall_mem_cons.mpr ⟨jt_F_ok_17, List.forall_mem_cons.mpr ⟨jt_F_ok_18, List.forall_mem_cons.mpr ⟨jt_F_ok_19, List.forall_mem_cons.mpr ⟨jt_F_ok_20, List.forall_mem_cons.mpr ⟨jt_F_ok_21, List.forall_mem_cons.mpr ⟨jt_F_ok_22, List.forall_mem_cons.mpr ⟨jt_F_ok_23, List.forall_mem_cons.mpr ⟨jt_F_ok_24, List.forall_mem_cons.mpr ⟨jt_F_ok_25, List.forall_mem_cons.mpr ⟨jt_F_ok_26, List.forall_mem_cons.mpr ⟨jt_F_ok_27, List.forall_mem_cons.mpr ⟨jt_F_ok_28, List.forall_mem_cons.mpr ⟨jt_F_ok_29, List.forall_mem_cons.mpr ⟨jt_F_ok_30, List.forall_mem_cons.mpr ⟨jt_F_ok_31, List.forall_mem_cons.mpr ⟨jt_F_ok_32, List.forall_mem_cons.mpr ⟨jt_F_ok_33, List.forall_mem_cons.mpr ⟨jt_F_ok_34, List.forall_mem_cons.mpr ⟨jt_F_ok_35, List.forall_mem_cons.mpr ⟨jt_F_ok_36, List.forall_mem_cons.mpr ⟨jt_F_ok_37, List.forall_mem_cons.mpr ⟨jt_F_ok_38, List.forall_mem_cons.mpr ⟨jt_F_ok_39, List.forall_mem_cons.mpr ⟨jt_F_ok_40, List.forall_mem_cons.mpr ⟨jt_F_ok_41, List.forall_mem_cons.mpr ⟨jt_F_ok_42, List.forall_mem_cons.mpr ⟨jt_F_ok_43, List.forall_mem_cons.mpr ⟨jt_F_ok_44, List.forall_mem_cons.mpr ⟨jt_F_ok_45, List.forall_mem_cons.mpr ⟨jt_F_ok_46, List.forall_mem_cons.mpr ⟨jt_F_ok_47, List.forall_mem_cons.mpr ⟨jt_F_ok_48, List.forall_mem_cons.mpr ⟨jt_F_ok_49, List.forall_mem_cons.mpr ⟨jt_F_ok_50, List.forall_mem_cons.mpr ⟨jt_F_ok_51, List.forall_mem_cons.mpr ⟨jt_F_ok_52, List.forall_mem_cons.mpr ⟨jt_F_ok_53, List.forall_mem_cons.mpr ⟨jt_F_ok_54, List.forall_mem_cons.mpr ⟨jt_F_ok_55, List.forall_mem_cons.mpr ⟨jt_F_ok_56, List.forall_mem_cons.mpr ⟨jt_F_ok_57, List.forall_mem_cons.mpr ⟨jt_F_ok_58, List.forall_mem_cons.mpr ⟨jt_F_ok_59, List.forall_mem_cons.mpr ⟨jt_F_ok_60, List.forall_mem_cons.mpr ⟨jt_F_ok_61, List.forall_mem_cons.mpr ⟨jt_F_ok_62, List.forall_mem_cons.mpr ⟨jt_F_ok_63, List.forall_mem_cons.mpr ⟨jt_F_ok_64, List.forall_mem_cons.mpr ⟨jt_F_ok_65, List.forall_mem_cons.mpr ⟨jt_F_ok_66, List.forall_mem_cons.mpr ⟨jt_F_ok_67, List.forall_mem_cons.mpr ⟨jt_F_ok_68, List.forall_mem_cons.mpr ⟨jt_F_ok_69, List.forall_mem_cons.mpr ⟨jt_F_ok_70, List.forall_mem_cons.mpr ⟨jt_F_ok_71, List.forall_mem_cons.mpr ⟨jt_F_ok_72, List.forall_mem_cons.mpr ⟨jt_F_ok_73, fun _ h => absurd h List.not_mem_nil⟩⟩⟩⟩⟩⟩⟩⟩⟩⟩⟩⟩⟩⟩⟩⟩⟩⟩⟩⟩⟩⟩⟩⟩⟩⟩⟩⟩⟩⟩⟩⟩⟩⟩⟩⟩⟩⟩⟩⟩⟩⟩⟩⟩⟩⟩⟩⟩⟩⟩⟩⟩⟩⟩⟩⟩⟩⟩⟩⟩⟩⟩⟩⟩⟩⟩⟩⟩⟩⟩⟩⟩⟩⟩
theorem jt_fld_ok {c k : Nat} {q : Nat × Nat × Nat × Nat} (h : jt_fld c k = some q) : jt_FP ((c, k), q) := jt_F_ok _ (jt_look h)
def jX_CC_init : jx_X := (0, prog_1_method_1_code, 4, none, true)
def jX_CC_deposit : jx_X := (0, prog_1_method_2_code, 5, (some .int), false)
def jX_CC_isUser : jx_X := (0, prog_1_method_24_code, 1, (some .boolean), false)
def jX_Co_init : jx_X := (1, prog_3_method_1_code, 2, none, true)
def jX_Ex_init : jx_X := (2, prog_5_method_1_code, 1, none, true)
def jX_CC_pay : jx_X := (0, prog_1_method_25_code, 3, none, false)
def jX_Bl_init : jx_X := (3, prog_2_method_1_code, 2, none, true)
def jX_CC_mix : jx_X := (0, prog_1_method_21_code, 4, (some .int), false)
def jX_En_init : jx_X := (4, prog_4_method_1_code, 7, none, true)
def jX_CC_append : jx_X := (0, prog_1_method_31_code, 2, (some .int), false)
def jX_Bl_growTree : jx_X := (3, prog_2_method_2_code, 4, none, false)
def jX_CC_join : jx_X := (0, prog_1_method_22_code, 3, (some .int), false)
def jX_CC_send : jx_X := (0, prog_1_method_3_code, 5, (some .boolean), false)
def jX_CC_heldSince : jx_X := (0, prog_1_method_30_code, 3, (some .int), false)
def jX_CC_transfer : jx_X := (0, prog_1_method_33_code, 8, (some (.object "CoinChild$Entry")), false)
def jX_CC_signature : jx_X := (0, prog_1_method_32_code, 5, (some .int), false)
def jX_CC_forge : jx_X := (0, prog_1_method_4_code, 6, (some .boolean), false)
def jX_CC_coinAt : jx_X := (0, prog_1_method_26_code, 2, (some (.object "CoinChild$Coin")), false)
def jX_CC_build : jx_X := (0, prog_1_method_5_code, 6, (some .int), false)
def jX_CC_isFitToFollow : jx_X := (0, prog_1_method_41_code, 6, (some .boolean), false)
def jX_CC_lastWith : jx_X := (0, prog_1_method_38_code, 3, (some .int), false)
def jX_CC_entryIn : jx_X := (0, prog_1_method_29_code, 4, (some (.object "CoinChild$Entry")), false)
def jX_CC_blockAt : jx_X := (0, prog_1_method_28_code, 2, (some (.object "CoinChild$Block")), false)
def jX_CC_show : jx_X := (0, prog_1_method_6_code, 3, (some .boolean), false)
def jX_CC_accept : jx_X := (0, prog_1_method_7_code, 6, (some .int), false)
def jX_CC_isWithheldAfter : jx_X := (0, prog_1_method_39_code, 4, (some .boolean), false)
def jX_CC_isSoundChain : jx_X := (0, prog_1_method_40_code, 5, (some .boolean), false)
def jX_CC_nextOf : jx_X := (0, prog_1_method_37_code, 4, (some .int), false)
def jX_CC_spends : jx_X := (0, prog_1_method_35_code, 6, (some .boolean), false)
def jX_CC_exit : jx_X := (0, prog_1_method_8_code, 6, (some .int), false)
def jX_CC_isFounded : jx_X := (0, prog_1_method_36_code, 4, (some .boolean), false)
def jX_Ex_begin : jx_X := (2, prog_5_method_2_code, 6, none, false)
def jX_CC_after : jx_X := (0, prog_1_method_9_code, 6, (some .int), false)
def jX_CC_refusalToChallenge : jx_X := (0, prog_1_method_42_code, 5, (some .int), false)
def jX_CC_exitOf : jx_X := (0, prog_1_method_27_code, 3, (some (.object "CoinChild$Exit")), false)
def jX_CC_cancel : jx_X := (0, prog_1_method_43_code, 4, none, false)
def jX_Ex_isChallengedBy : jx_X := (2, prog_5_method_5_code, 2, (some .boolean), false)
def jX_Ex_stateOf : jx_X := (2, prog_5_method_3_code, 2, (some .int), false)
def jX_Ex_challengerBy : jx_X := (2, prog_5_method_6_code, 2, (some .int), false)
def jX_CC_between : jx_X := (0, prog_1_method_10_code, 6, (some .int), false)
def jX_CC_before : jx_X := (0, prog_1_method_11_code, 6, (some .int), false)
def jX_Ex_wasChallengedBy : jx_X := (2, prog_5_method_4_code, 2, (some .boolean), false)
def jX_CC_hasGoodEntry : jx_X := (0, prog_1_method_34_code, 4, (some .boolean), false)
def jX_Ex_openChallenge : jx_X := (2, prog_5_method_7_code, 3, none, false)
def jX_CC_answer : jx_X := (0, prog_1_method_12_code, 5, (some .int), false)
def jX_Ex_closeChallenge : jx_X := (2, prog_5_method_8_code, 2, none, false)
def jX_CC_finalise : jx_X := (0, prog_1_method_13_code, 5, (some .int), false)
def jX_Ex_leastChallenge : jx_X := (2, prog_5_method_9_code, 2, (some .int), false)
def jX_CC_watch : jx_X := (0, prog_1_method_14_code, 4, (some .int), false)
def jX_CC_guardCoin : jx_X := (0, prog_1_method_44_code, 6, (some .int), false)
def jX_CC_countIfDone : jx_X := (0, prog_1_method_47_code, 1, (some .int), false)
def jX_CC_answerAll : jx_X := (0, prog_1_method_46_code, 5, (some .int), false)
def jX_CC_contest : jx_X := (0, prog_1_method_45_code, 5, (some .int), false)
def jX_CC_tick : jx_X := (0, prog_1_method_15_code, 2, (some .int), false)
def jX_CC_user : jx_X := (0, prog_1_method_16_code, 3, (some .int), false)
def jX_CC_coin : jx_X := (0, prog_1_method_17_code, 4, (some .int), false)
def jX_Ex_look : jx_X := (2, prog_5_method_12_code, 2, (some .int), false)
def jX_Ex_countChallenges : jx_X := (2, prog_5_method_10_code, 3, (some .int), false)
def jX_CC_block : jx_X := (0, prog_1_method_18_code, 4, (some .int), false)
def jX_Bl_root : jx_X := (3, prog_2_method_3_code, 1, (some .int), false)
def jX_Bl_look : jx_X := (3, prog_2_method_4_code, 4, (some .int), false)
def jX_CC_proves : jx_X := (0, prog_1_method_19_code, 9, (some .boolean), false)
def jX_CC_climb : jx_X := (0, prog_1_method_23_code, 4, (some .int), false)
def jX_CC_locked : jx_X := (0, prog_1_method_20_code, 4, (some .int), false)
def jX_Ex_bonds : jx_X := (2, prog_5_method_11_code, 1, (some .int), false)
def jX_Lw_cell : jx_X := (6, method_2_code, 2, (some .int), false)
def jX_RM_init : jx_X := (5, prog_7_method_1_code, 4, none, true)
def jX_RM_deposit : jx_X := (5, prog_7_method_13_code, 4, (some .int), false)
def jX_RM_isUser : jx_X := (5, prog_7_method_4_code, 1, (some .boolean), false)
def jX_RM_newBlock : jx_X := (5, prog_7_method_12_code, 2, none, false)
def jX_RM_send : jx_X := (5, prog_7_method_15_code, 6, (some .boolean), false)
def jX_RM_isCoin : jx_X := (5, prog_7_method_5_code, 2, (some .boolean), false)
def jX_RM_signature : jx_X := (5, prog_7_method_3_code, 6, (some .int), false)
def jX_RM_mix : jx_X := (5, prog_7_method_2_code, 4, (some .int), false)
def jX_RM_note : jx_X := (5, prog_7_method_14_code, 6, none, false)
def jX_RM_forge : jx_X := (5, prog_7_method_16_code, 7, (some .boolean), false)
def jX_RM_build : jx_X := (5, prog_7_method_18_code, 6, (some .int), false)
def jX_RM_fits : jx_X := (5, prog_7_method_17_code, 4, (some .boolean), false)
def jX_RM_latest : jx_X := (5, prog_7_method_10_code, 4, (some .int), false)
def jX_RM_show : jx_X := (5, prog_7_method_19_code, 2, (some .boolean), false)
def jX_RM_isBlock : jx_X := (5, prog_7_method_6_code, 2, (some .boolean), false)
def jX_RM_accept : jx_X := (5, prog_7_method_20_code, 4, (some .int), false)
def jX_RM_sound : jx_X := (5, prog_7_method_11_code, 5, (some .boolean), false)
def jX_RM_spends : jx_X := (5, prog_7_method_8_code, 6, (some .boolean), false)
def jX_RM_good : jx_X := (5, prog_7_method_7_code, 4, (some .boolean), false)
def jX_RM_exit : jx_X := (5, prog_7_method_21_code, 6, (some .int), false)
def jX_RM_after : jx_X := (5, prog_7_method_24_code, 5, (some .int), false)
def jX_RM_refused : jx_X := (5, prog_7_method_23_code, 4, (some .int), false)
def jX_RM_cancel : jx_X := (5, prog_7_method_22_code, 4, none, false)
def jX_RM_between : jx_X := (5, prog_7_method_25_code, 5, (some .int), false)
def jX_RM_before : jx_X := (5, prog_7_method_26_code, 5, (some .int), false)
def jX_RM_answer : jx_X := (5, prog_7_method_27_code, 4, (some .int), false)
def jX_RM_finalise : jx_X := (5, prog_7_method_28_code, 4, (some .int), false)
def jX_RM_watch : jx_X := (5, prog_7_method_31_code, 5, (some .int), false)
def jX_RM_guard : jx_X := (5, prog_7_method_30_code, 9, (some .int), false)
def jX_RM_hiddenAfter : jx_X := (5, prog_7_method_29_code, 4, (some .boolean), false)
def jX_RM_next : jx_X := (5, prog_7_method_9_code, 5, (some .int), false)
def jX_RM_tick : jx_X := (5, prog_7_method_32_code, 2, (some .int), false)
def jX_RM_user : jx_X := (5, prog_7_method_33_code, 3, (some .int), false)
def jX_RM_coin : jx_X := (5, prog_7_method_35_code, 3, (some .int), false)
def jX_RM_standing : jx_X := (5, prog_7_method_34_code, 4, (some .int), false)
def jX_RM_block : jx_X := (5, prog_7_method_39_code, 5, (some .int), false)
def jX_RM_level : jx_X := (5, prog_7_method_38_code, 5, none, false)
def jX_RM_leaf : jx_X := (5, prog_7_method_36_code, 4, (some .int), false)
def jX_RM_over : jx_X := (5, prog_7_method_37_code, 3, (some .int), false)
def jX_RM_proves : jx_X := (5, prog_7_method_40_code, 8, (some .boolean), false)
def jX_RM_locked : jx_X := (5, prog_7_method_41_code, 3, (some .int), false)
def jt_Ms : List (MethodName × jx_X × Nat) := [(⟨"CoinChild", "<init>", "(II)V"⟩, jX_CC_init, 3), (⟨"CoinChild", "deposit", "(II)I"⟩, jX_CC_deposit, 3), (⟨"CoinChild", "isUser", "(I)Z"⟩, jX_CC_isUser, 1), (⟨"CoinChild$Coin", "<init>", "(I)V"⟩, jX_Co_init, 2), (⟨"CoinChild$Exit", "<init>", "()V"⟩, jX_Ex_init, 1), (⟨"CoinChild", "pay", "(II)V"⟩, jX_CC_pay, 3), (⟨"CoinChild$Block", "<init>", "(Z)V"⟩, jX_Bl_init, 2), (⟨"CoinChild", "mix", "(III)I"⟩, jX_CC_mix, 3), (⟨"CoinChild$Entry", "<init>", "(ZIIIZI)V"⟩, jX_En_init, 7), (⟨"CoinChild", "append", "(LCoinChild$Block;)I"⟩, jX_CC_append, 2), (⟨"CoinChild$Block", "growTree", "()V"⟩, jX_Bl_growTree, 1), (⟨"CoinChild", "join", "(III)I"⟩, jX_CC_join, 3), (⟨"CoinChild", "send", "(III)Z"⟩, jX_CC_send, 4), (⟨"CoinChild", "heldSince", "(II)I"⟩, jX_CC_heldSince, 3), (⟨"CoinChild", "transfer", "(IIIII)LCoinChild$Entry;"⟩, jX_CC_transfer, 6), (⟨"CoinChild", "signature", "(IIII)I"⟩, jX_CC_signature, 5), (⟨"CoinChild", "forge", "(IIIII)Z"⟩, jX_CC_forge, 6), (⟨"CoinChild", "coinAt", "(I)LCoinChild$Coin;"⟩, jX_CC_coinAt, 2), (⟨"CoinChild", "build", "(ZZ)I"⟩, jX_CC_build, 3), (⟨"CoinChild", "isFitToFollow", "(ILCoinChild$Entry;)Z"⟩, jX_CC_isFitToFollow, 3), (⟨"CoinChild", "lastWith", "(I)I"⟩, jX_CC_lastWith, 2), (⟨"CoinChild", "entryIn", "(II)LCoinChild$Entry;"⟩, jX_CC_entryIn, 3), (⟨"CoinChild", "blockAt", "(I)LCoinChild$Block;"⟩, jX_CC_blockAt, 2), (⟨"CoinChild", "show", "(I)Z"⟩, jX_CC_show, 2), (⟨"CoinChild", "accept", "(II)I"⟩, jX_CC_accept, 3), (⟨"CoinChild", "isWithheldAfter", "(I)Z"⟩, jX_CC_isWithheldAfter, 2), (⟨"CoinChild", "isSoundChain", "(I)Z"⟩, jX_CC_isSoundChain, 2), (⟨"CoinChild", "nextOf", "(II)I"⟩, jX_CC_nextOf, 3), (⟨"CoinChild", "spends", "(III)Z"⟩, jX_CC_spends, 4), (⟨"CoinChild", "exit", "(III)I"⟩, jX_CC_exit, 4), (⟨"CoinChild", "isFounded", "(IILCoinChild$Entry;)Z"⟩, jX_CC_isFounded, 4), (⟨"CoinChild$Exit", "begin", "(IIII)V"⟩, jX_Ex_begin, 5), (⟨"CoinChild", "after", "(III)I"⟩, jX_CC_after, 4), (⟨"CoinChild", "refusalToChallenge", "(III)I"⟩, jX_CC_refusalToChallenge, 4), (⟨"CoinChild", "exitOf", "(I)LCoinChild$Exit;"⟩, jX_CC_exitOf, 2), (⟨"CoinChild", "cancel", "(LCoinChild$Exit;I)V"⟩, jX_CC_cancel, 3), (⟨"CoinChild$Exit", "isChallengedBy", "(I)Z"⟩, jX_Ex_isChallengedBy, 2), (⟨"CoinChild$Exit", "stateOf", "(I)I"⟩, jX_Ex_stateOf, 2), (⟨"CoinChild$Exit", "challengerBy", "(I)I"⟩, jX_Ex_challengerBy, 2), (⟨"CoinChild", "between", "(III)I"⟩, jX_CC_between, 4), (⟨"CoinChild", "before", "(III)I"⟩, jX_CC_before, 4), (⟨"CoinChild$Exit", "wasChallengedBy", "(I)Z"⟩, jX_Ex_wasChallengedBy, 2), (⟨"CoinChild", "hasGoodEntry", "(II)Z"⟩, jX_CC_hasGoodEntry, 3), (⟨"CoinChild$Exit", "openChallenge", "(II)V"⟩, jX_Ex_openChallenge, 3), (⟨"CoinChild", "answer", "(III)I"⟩, jX_CC_answer, 4), (⟨"CoinChild$Exit", "closeChallenge", "(I)V"⟩, jX_Ex_closeChallenge, 2), (⟨"CoinChild", "finalise", "(I)I"⟩, jX_CC_finalise, 2), (⟨"CoinChild$Exit", "leastChallenge", "()I"⟩, jX_Ex_leastChallenge, 1), (⟨"CoinChild", "watch", "(I)I"⟩, jX_CC_watch, 2), (⟨"CoinChild", "guardCoin", "(II)I"⟩, jX_CC_guardCoin, 3), (⟨"CoinChild", "countIfDone", "(I)I"⟩, jX_CC_countIfDone, 1), (⟨"CoinChild", "answerAll", "(ILCoinChild$Exit;)I"⟩, jX_CC_answerAll, 3), (⟨"CoinChild", "contest", "(IIILCoinChild$Exit;)I"⟩, jX_CC_contest, 5), (⟨"CoinChild", "tick", "(I)I"⟩, jX_CC_tick, 2), (⟨"CoinChild", "user", "(II)I"⟩, jX_CC_user, 3), (⟨"CoinChild", "coin", "(II)I"⟩, jX_CC_coin, 3), (⟨"CoinChild$Exit", "look", "(I)I"⟩, jX_Ex_look, 2), (⟨"CoinChild$Exit", "countChallenges", "()I"⟩, jX_Ex_countChallenges, 1), (⟨"CoinChild", "block", "(II)I"⟩, jX_CC_block, 3), (⟨"CoinChild$Block", "root", "()I"⟩, jX_Bl_root, 1), (⟨"CoinChild$Block", "look", "(I)I"⟩, jX_Bl_look, 2), (⟨"CoinChild", "proves", "(IIIIII)Z"⟩, jX_CC_proves, 7), (⟨"CoinChild", "climb", "(IIII)I"⟩, jX_CC_climb, 4), (⟨"CoinChild", "locked", "()I"⟩, jX_CC_locked, 1), (⟨"CoinChild$Exit", "bonds", "()I"⟩, jX_Ex_bonds, 1), (⟨"CoinChildLaw", "cell", "([II)I"⟩, jX_Lw_cell, 2), (⟨"CoinChildModel", "<init>", "(II)V"⟩, jX_RM_init, 3), (⟨"CoinChildModel", "deposit", "(II)I"⟩, jX_RM_deposit, 3), (⟨"CoinChildModel", "isUser", "(I)Z"⟩, jX_RM_isUser, 1), (⟨"CoinChildModel", "newBlock", "(Z)V"⟩, jX_RM_newBlock, 2), (⟨"CoinChildModel", "send", "(III)Z"⟩, jX_RM_send, 4), (⟨"CoinChildModel", "isCoin", "(I)Z"⟩, jX_RM_isCoin, 2), (⟨"CoinChildModel", "signature", "(IIII)I"⟩, jX_RM_signature, 5), (⟨"CoinChildModel", "mix", "(III)I"⟩, jX_RM_mix, 3), (⟨"CoinChildModel", "note", "(IIIII)V"⟩, jX_RM_note, 6), (⟨"CoinChildModel", "forge", "(IIIII)Z"⟩, jX_RM_forge, 6), (⟨"CoinChildModel", "build", "(ZZ)I"⟩, jX_RM_build, 3), (⟨"CoinChildModel", "fits", "(I)Z"⟩, jX_RM_fits, 2), (⟨"CoinChildModel", "latest", "(I)I"⟩, jX_RM_latest, 2), (⟨"CoinChildModel", "show", "(I)Z"⟩, jX_RM_show, 2), (⟨"CoinChildModel", "isBlock", "(I)Z"⟩, jX_RM_isBlock, 2), (⟨"CoinChildModel", "accept", "(II)I"⟩, jX_RM_accept, 3), (⟨"CoinChildModel", "sound", "(I)Z"⟩, jX_RM_sound, 2), (⟨"CoinChildModel", "spends", "(III)Z"⟩, jX_RM_spends, 4), (⟨"CoinChildModel", "good", "(II)Z"⟩, jX_RM_good, 3), (⟨"CoinChildModel", "exit", "(III)I"⟩, jX_RM_exit, 4), (⟨"CoinChildModel", "after", "(III)I"⟩, jX_RM_after, 4), (⟨"CoinChildModel", "refused", "(III)I"⟩, jX_RM_refused, 4), (⟨"CoinChildModel", "cancel", "(II)V"⟩, jX_RM_cancel, 3), (⟨"CoinChildModel", "between", "(III)I"⟩, jX_RM_between, 4), (⟨"CoinChildModel", "before", "(III)I"⟩, jX_RM_before, 4), (⟨"CoinChildModel", "answer", "(III)I"⟩, jX_RM_answer, 4), (⟨"CoinChildModel", "finalise", "(I)I"⟩, jX_RM_finalise, 2), (⟨"CoinChildModel", "watch", "(I)I"⟩, jX_RM_watch, 2), (⟨"CoinChildModel", "guard", "(III)I"⟩, jX_RM_guard, 4), (⟨"CoinChildModel", "hiddenAfter", "(I)Z"⟩, jX_RM_hiddenAfter, 2), (⟨"CoinChildModel", "next", "(II)I"⟩, jX_RM_next, 3), (⟨"CoinChildModel", "tick", "(I)I"⟩, jX_RM_tick, 2), (⟨"CoinChildModel", "user", "(II)I"⟩, jX_RM_user, 3), (⟨"CoinChildModel", "coin", "(II)I"⟩, jX_RM_coin, 3), (⟨"CoinChildModel", "standing", "(I)I"⟩, jX_RM_standing, 2), (⟨"CoinChildModel", "block", "(II)I"⟩, jX_RM_block, 3), (⟨"CoinChildModel", "level", "(II)V"⟩, jX_RM_level, 3), (⟨"CoinChildModel", "leaf", "(II)I"⟩, jX_RM_leaf, 3), (⟨"CoinChildModel", "over", "(III)I"⟩, jX_RM_over, 3), (⟨"CoinChildModel", "proves", "(IIIIII)Z"⟩, jX_RM_proves, 7), (⟨"CoinChildModel", "locked", "()I"⟩, jX_RM_locked, 1)]
def jt_M (k : Nat) : Option (MethodName × jx_X × Nat) := jt_Ms[k]?
def jt_MP (e : MethodName × jx_X × Nat) : Prop := plainName e.1.cls = true ∧ e.1.cls = jt_cn e.2.1.1 ∧ (e.2.1.2.2.2.2 = true → e.1.name = "<init>") ∧ Cond.code e.1 e.2.1.2.1 e.2.1.2.2.1 e.2.1.2.2.2.1 ∈ jt_G ∧ Cond.initialized e.1.cls ∈ jt_G ∧ (e.1.cls ≠ "java/lang/invoke/MethodHandle" ∧ e.1.cls ≠ "java/lang/invoke/VarHandle") ∧ e.2.1.2.2.1 ≤ 19 ∧ e.2.2 ≤ e.2.1.2.2.1
theorem jt_M_ok_0 : jt_MP (⟨"CoinChild", "<init>", "(II)V"⟩, jX_CC_init, 3) := ⟨by decide +kernel, rfl, by decide +kernel, jt_g 12 (by decide +kernel) rfl, jt_g 1 (by decide +kernel) rfl, by decide +kernel, by decide, by decide⟩
theorem jt_M_ok_1 : jt_MP (⟨"CoinChild", "deposit", "(II)I"⟩, jX_CC_deposit, 3) := ⟨by decide +kernel, rfl, by decide +kernel, jt_g 66 (by decide +kernel) rfl, jt_g 1 (by decide +kernel) rfl, by decide +kernel, by decide, by decide⟩
theorem jt_M_ok_2 : jt_MP (⟨"CoinChild", "isUser", "(I)Z"⟩, jX_CC_isUser, 1) := ⟨by decide +kernel, rfl, by decide +kernel, jt_g 69 (by decide +kernel) rfl, jt_g 1 (by decide +kernel) rfl, by decide +kernel, by decide, by decide⟩
theorem jt_M_ok_3 : jt_MP (⟨"CoinChild$Coin", "<init>", "(I)V"⟩, jX_Co_init, 2) := ⟨by decide +kernel, rfl, by decide +kernel, jt_g 73 (by decide +kernel) rfl, jt_g 4 (by decide +kernel) rfl, by decide +kernel, by decide, by decide⟩
theorem jt_M_ok_4 : jt_MP (⟨"CoinChild$Exit", "<init>", "()V"⟩, jX_Ex_init, 1) := ⟨by decide +kernel, rfl, by decide +kernel, jt_g 79 (by decide +kernel) rfl, jt_g 5 (by decide +kernel) rfl, by decide +kernel, by decide, by decide⟩
theorem jt_M_ok_5 : jt_MP (⟨"CoinChild", "pay", "(II)V"⟩, jX_CC_pay, 3) := ⟨by decide +kernel, rfl, by decide +kernel, jt_g 120 (by decide +kernel) rfl, jt_g 1 (by decide +kernel) rfl, by decide +kernel, by decide, by decide⟩
theorem jt_M_ok_6 : jt_MP (⟨"CoinChild$Block", "<init>", "(Z)V"⟩, jX_Bl_init, 2) := ⟨by decide +kernel, rfl, by decide +kernel, jt_g 124 (by decide +kernel) rfl, jt_g 6 (by decide +kernel) rfl, by decide +kernel, by decide, by decide⟩
theorem jt_M_ok_7 : jt_MP (⟨"CoinChild", "mix", "(III)I"⟩, jX_CC_mix, 3) := ⟨by decide +kernel, rfl, by decide +kernel, jt_g 142 (by decide +kernel) rfl, jt_g 1 (by decide +kernel) rfl, by decide +kernel, by decide, by decide⟩
theorem jt_M_ok_8 : jt_MP (⟨"CoinChild$Entry", "<init>", "(ZIIIZI)V"⟩, jX_En_init, 7) := ⟨by decide +kernel, rfl, by decide +kernel, jt_g 146 (by decide +kernel) rfl, jt_g 7 (by decide +kernel) rfl, by decide +kernel, by decide, by decide⟩
theorem jt_M_ok_9 : jt_MP (⟨"CoinChild", "append", "(LCoinChild$Block;)I"⟩, jX_CC_append, 2) := ⟨by decide +kernel, rfl, by decide +kernel, jt_g 176 (by decide +kernel) rfl, jt_g 1 (by decide +kernel) rfl, by decide +kernel, by decide, by decide⟩
theorem jt_M_ok_10 : jt_MP (⟨"CoinChild$Block", "growTree", "()V"⟩, jX_Bl_growTree, 1) := ⟨by decide +kernel, rfl, by decide +kernel, jt_g 180 (by decide +kernel) rfl, jt_g 6 (by decide +kernel) rfl, by decide +kernel, by decide, by decide⟩
theorem jt_M_ok_11 : jt_MP (⟨"CoinChild", "join", "(III)I"⟩, jX_CC_join, 3) := ⟨by decide +kernel, rfl, by decide +kernel, jt_g 183 (by decide +kernel) rfl, jt_g 1 (by decide +kernel) rfl, by decide +kernel, by decide, by decide⟩
theorem jt_M_ok_12 : jt_MP (⟨"CoinChild", "send", "(III)Z"⟩, jX_CC_send, 4) := ⟨by decide +kernel, rfl, by decide +kernel, jt_g 187 (by decide +kernel) rfl, jt_g 1 (by decide +kernel) rfl, by decide +kernel, by decide, by decide⟩
theorem jt_M_ok_13 : jt_MP (⟨"CoinChild", "heldSince", "(II)I"⟩, jX_CC_heldSince, 3) := ⟨by decide +kernel, rfl, by decide +kernel, jt_g 191 (by decide +kernel) rfl, jt_g 1 (by decide +kernel) rfl, by decide +kernel, by decide, by decide⟩
theorem jt_M_ok_14 : jt_MP (⟨"CoinChild", "transfer", "(IIIII)LCoinChild$Entry;"⟩, jX_CC_transfer, 6) := ⟨by decide +kernel, rfl, by decide +kernel, jt_g 195 (by decide +kernel) rfl, jt_g 1 (by decide +kernel) rfl, by decide +kernel, by decide, by decide⟩
theorem jt_M_ok_15 : jt_MP (⟨"CoinChild", "signature", "(IIII)I"⟩, jX_CC_signature, 5) := ⟨by decide +kernel, rfl, by decide +kernel, jt_g 199 (by decide +kernel) rfl, jt_g 1 (by decide +kernel) rfl, by decide +kernel, by decide, by decide⟩
theorem jt_M_ok_16 : jt_MP (⟨"CoinChild", "forge", "(IIIII)Z"⟩, jX_CC_forge, 6) := ⟨by decide +kernel, rfl, by decide +kernel, jt_g 203 (by decide +kernel) rfl, jt_g 1 (by decide +kernel) rfl, by decide +kernel, by decide, by decide⟩
theorem jt_M_ok_17 : jt_MP (⟨"CoinChild", "coinAt", "(I)LCoinChild$Coin;"⟩, jX_CC_coinAt, 2) := ⟨by decide +kernel, rfl, by decide +kernel, jt_g 207 (by decide +kernel) rfl, jt_g 1 (by decide +kernel) rfl, by decide +kernel, by decide, by decide⟩
theorem jt_M_ok_18 : jt_MP (⟨"CoinChild", "build", "(ZZ)I"⟩, jX_CC_build, 3) := ⟨by decide +kernel, rfl, by decide +kernel, jt_g 211 (by decide +kernel) rfl, jt_g 1 (by decide +kernel) rfl, by decide +kernel, by decide, by decide⟩
theorem jt_M_ok_19 : jt_MP (⟨"CoinChild", "isFitToFollow", "(ILCoinChild$Entry;)Z"⟩, jX_CC_isFitToFollow, 3) := ⟨by decide +kernel, rfl, by decide +kernel, jt_g 215 (by decide +kernel) rfl, jt_g 1 (by decide +kernel) rfl, by decide +kernel, by decide, by decide⟩
theorem jt_M_ok_20 : jt_MP (⟨"CoinChild", "lastWith", "(I)I"⟩, jX_CC_lastWith, 2) := ⟨by decide +kernel, rfl, by decide +kernel, jt_g 219 (by decide +kernel) rfl, jt_g 1 (by decide +kernel) rfl, by decide +kernel, by decide, by decide⟩
theorem jt_M_ok_21 : jt_MP (⟨"CoinChild", "entryIn", "(II)LCoinChild$Entry;"⟩, jX_CC_entryIn, 3) := ⟨by decide +kernel, rfl, by decide +kernel, jt_g 223 (by decide +kernel) rfl, jt_g 1 (by decide +kernel) rfl, by decide +kernel, by decide, by decide⟩
theorem jt_M_ok_22 : jt_MP (⟨"CoinChild", "blockAt", "(I)LCoinChild$Block;"⟩, jX_CC_blockAt, 2) := ⟨by decide +kernel, rfl, by decide +kernel, jt_g 227 (by decide +kernel) rfl, jt_g 1 (by decide +kernel) rfl, by decide +kernel, by decide, by decide⟩
theorem jt_M_ok_23 : jt_MP (⟨"CoinChild", "show", "(I)Z"⟩, jX_CC_show, 2) := ⟨by decide +kernel, rfl, by decide +kernel, jt_g 231 (by decide +kernel) rfl, jt_g 1 (by decide +kernel) rfl, by decide +kernel, by decide, by decide⟩
theorem jt_M_ok_24 : jt_MP (⟨"CoinChild", "accept", "(II)I"⟩, jX_CC_accept, 3) := ⟨by decide +kernel, rfl, by decide +kernel, jt_g 235 (by decide +kernel) rfl, jt_g 1 (by decide +kernel) rfl, by decide +kernel, by decide, by decide⟩
theorem jt_M_ok_25 : jt_MP (⟨"CoinChild", "isWithheldAfter", "(I)Z"⟩, jX_CC_isWithheldAfter, 2) := ⟨by decide +kernel, rfl, by decide +kernel, jt_g 239 (by decide +kernel) rfl, jt_g 1 (by decide +kernel) rfl, by decide +kernel, by decide, by decide⟩
theorem jt_M_ok_26 : jt_MP (⟨"CoinChild", "isSoundChain", "(I)Z"⟩, jX_CC_isSoundChain, 2) := ⟨by decide +kernel, rfl, by decide +kernel, jt_g 243 (by decide +kernel) rfl, jt_g 1 (by decide +kernel) rfl, by decide +kernel, by decide, by decide⟩
theorem jt_M_ok_27 : jt_MP (⟨"CoinChild", "nextOf", "(II)I"⟩, jX_CC_nextOf, 3) := ⟨by decide +kernel, rfl, by decide +kernel, jt_g 247 (by decide +kernel) rfl, jt_g 1 (by decide +kernel) rfl, by decide +kernel, by decide, by decide⟩
theorem jt_M_ok_28 : jt_MP (⟨"CoinChild", "spends", "(III)Z"⟩, jX_CC_spends, 4) := ⟨by decide +kernel, rfl, by decide +kernel, jt_g 251 (by decide +kernel) rfl, jt_g 1 (by decide +kernel) rfl, by decide +kernel, by decide, by decide⟩
theorem jt_M_ok_29 : jt_MP (⟨"CoinChild", "exit", "(III)I"⟩, jX_CC_exit, 4) := ⟨by decide +kernel, rfl, by decide +kernel, jt_g 255 (by decide +kernel) rfl, jt_g 1 (by decide +kernel) rfl, by decide +kernel, by decide, by decide⟩
theorem jt_M_ok_30 : jt_MP (⟨"CoinChild", "isFounded", "(IILCoinChild$Entry;)Z"⟩, jX_CC_isFounded, 4) := ⟨by decide +kernel, rfl, by decide +kernel, jt_g 259 (by decide +kernel) rfl, jt_g 1 (by decide +kernel) rfl, by decide +kernel, by decide, by decide⟩
theorem jt_M_ok_31 : jt_MP (⟨"CoinChild$Exit", "begin", "(IIII)V"⟩, jX_Ex_begin, 5) := ⟨by decide +kernel, rfl, by decide +kernel, jt_g 263 (by decide +kernel) rfl, jt_g 5 (by decide +kernel) rfl, by decide +kernel, by decide, by decide⟩
theorem jt_M_ok_32 : jt_MP (⟨"CoinChild", "after", "(III)I"⟩, jX_CC_after, 4) := ⟨by decide +kernel, rfl, by decide +kernel, jt_g 267 (by decide +kernel) rfl, jt_g 1 (by decide +kernel) rfl, by decide +kernel, by decide, by decide⟩
theorem jt_M_ok_33 : jt_MP (⟨"CoinChild", "refusalToChallenge", "(III)I"⟩, jX_CC_refusalToChallenge, 4) := ⟨by decide +kernel, rfl, by decide +kernel, jt_g 271 (by decide +kernel) rfl, jt_g 1 (by decide +kernel) rfl, by decide +kernel, by decide, by decide⟩
theorem jt_M_ok_34 : jt_MP (⟨"CoinChild", "exitOf", "(I)LCoinChild$Exit;"⟩, jX_CC_exitOf, 2) := ⟨by decide +kernel, rfl, by decide +kernel, jt_g 275 (by decide +kernel) rfl, jt_g 1 (by decide +kernel) rfl, by decide +kernel, by decide, by decide⟩
theorem jt_M_ok_35 : jt_MP (⟨"CoinChild", "cancel", "(LCoinChild$Exit;I)V"⟩, jX_CC_cancel, 3) := ⟨by decide +kernel, rfl, by decide +kernel, jt_g 279 (by decide +kernel) rfl, jt_g 1 (by decide +kernel) rfl, by decide +kernel, by decide, by decide⟩
theorem jt_M_ok_36 : jt_MP (⟨"CoinChild$Exit", "isChallengedBy", "(I)Z"⟩, jX_Ex_isChallengedBy, 2) := ⟨by decide +kernel, rfl, by decide +kernel, jt_g 283 (by decide +kernel) rfl, jt_g 5 (by decide +kernel) rfl, by decide +kernel, by decide, by decide⟩
theorem jt_M_ok_37 : jt_MP (⟨"CoinChild$Exit", "stateOf", "(I)I"⟩, jX_Ex_stateOf, 2) := ⟨by decide +kernel, rfl, by decide +kernel, jt_g 287 (by decide +kernel) rfl, jt_g 5 (by decide +kernel) rfl, by decide +kernel, by decide, by decide⟩
theorem jt_M_ok_38 : jt_MP (⟨"CoinChild$Exit", "challengerBy", "(I)I"⟩, jX_Ex_challengerBy, 2) := ⟨by decide +kernel, rfl, by decide +kernel, jt_g 291 (by decide +kernel) rfl, jt_g 5 (by decide +kernel) rfl, by decide +kernel, by decide, by decide⟩
theorem jt_M_ok_39 : jt_MP (⟨"CoinChild", "between", "(III)I"⟩, jX_CC_between, 4) := ⟨by decide +kernel, rfl, by decide +kernel, jt_g 295 (by decide +kernel) rfl, jt_g 1 (by decide +kernel) rfl, by decide +kernel, by decide, by decide⟩
theorem jt_M_ok_40 : jt_MP (⟨"CoinChild", "before", "(III)I"⟩, jX_CC_before, 4) := ⟨by decide +kernel, rfl, by decide +kernel, jt_g 299 (by decide +kernel) rfl, jt_g 1 (by decide +kernel) rfl, by decide +kernel, by decide, by decide⟩
theorem jt_M_ok_41 : jt_MP (⟨"CoinChild$Exit", "wasChallengedBy", "(I)Z"⟩, jX_Ex_wasChallengedBy, 2) := ⟨by decide +kernel, rfl, by decide +kernel, jt_g 303 (by decide +kernel) rfl, jt_g 5 (by decide +kernel) rfl, by decide +kernel, by decide, by decide⟩
theorem jt_M_ok_42 : jt_MP (⟨"CoinChild", "hasGoodEntry", "(II)Z"⟩, jX_CC_hasGoodEntry, 3) := ⟨by decide +kernel, rfl, by decide +kernel, jt_g 307 (by decide +kernel) rfl, jt_g 1 (by decide +kernel) rfl, by decide +kernel, by decide, by decide⟩
theorem jt_M_ok_43 : jt_MP (⟨"CoinChild$Exit", "openChallenge", "(II)V"⟩, jX_Ex_openChallenge, 3) := ⟨by decide +kernel, rfl, by decide +kernel, jt_g 311 (by decide +kernel) rfl, jt_g 5 (by decide +kernel) rfl, by decide +kernel, by decide, by decide⟩
theorem jt_M_ok_44 : jt_MP (⟨"CoinChild", "answer", "(III)I"⟩, jX_CC_answer, 4) := ⟨by decide +kernel, rfl, by decide +kernel, jt_g 315 (by decide +kernel) rfl, jt_g 1 (by decide +kernel) rfl, by decide +kernel, by decide, by decide⟩
theorem jt_M_ok_45 : jt_MP (⟨"CoinChild$Exit", "closeChallenge", "(I)V"⟩, jX_Ex_closeChallenge, 2) := ⟨by decide +kernel, rfl, by decide +kernel, jt_g 319 (by decide +kernel) rfl, jt_g 5 (by decide +kernel) rfl, by decide +kernel, by decide, by decide⟩
theorem jt_M_ok_46 : jt_MP (⟨"CoinChild", "finalise", "(I)I"⟩, jX_CC_finalise, 2) := ⟨by decide +kernel, rfl, by decide +kernel, jt_g 323 (by decide +kernel) rfl, jt_g 1 (by decide +kernel) rfl, by decide +kernel, by decide, by decide⟩
theorem jt_M_ok_47 : jt_MP (⟨"CoinChild$Exit", "leastChallenge", "()I"⟩, jX_Ex_leastChallenge, 1) := ⟨by decide +kernel, rfl, by decide +kernel, jt_g 327 (by decide +kernel) rfl, jt_g 5 (by decide +kernel) rfl, by decide +kernel, by decide, by decide⟩
theorem jt_M_ok_48 : jt_MP (⟨"CoinChild", "watch", "(I)I"⟩, jX_CC_watch, 2) := ⟨by decide +kernel, rfl, by decide +kernel, jt_g 332 (by decide +kernel) rfl, jt_g 1 (by decide +kernel) rfl, by decide +kernel, by decide, by decide⟩
theorem jt_M_ok_49 : jt_MP (⟨"CoinChild", "guardCoin", "(II)I"⟩, jX_CC_guardCoin, 3) := ⟨by decide +kernel, rfl, by decide +kernel, jt_g 336 (by decide +kernel) rfl, jt_g 1 (by decide +kernel) rfl, by decide +kernel, by decide, by decide⟩
theorem jt_M_ok_50 : jt_MP (⟨"CoinChild", "countIfDone", "(I)I"⟩, jX_CC_countIfDone, 1) := ⟨by decide +kernel, rfl, by decide +kernel, jt_g 340 (by decide +kernel) rfl, jt_g 1 (by decide +kernel) rfl, by decide +kernel, by decide, by decide⟩
theorem jt_M_ok_51 : jt_MP (⟨"CoinChild", "answerAll", "(ILCoinChild$Exit;)I"⟩, jX_CC_answerAll, 3) := ⟨by decide +kernel, rfl, by decide +kernel, jt_g 344 (by decide +kernel) rfl, jt_g 1 (by decide +kernel) rfl, by decide +kernel, by decide, by decide⟩
theorem jt_M_ok_52 : jt_MP (⟨"CoinChild", "contest", "(IIILCoinChild$Exit;)I"⟩, jX_CC_contest, 5) := ⟨by decide +kernel, rfl, by decide +kernel, jt_g 349 (by decide +kernel) rfl, jt_g 1 (by decide +kernel) rfl, by decide +kernel, by decide, by decide⟩
theorem jt_M_ok_53 : jt_MP (⟨"CoinChild", "tick", "(I)I"⟩, jX_CC_tick, 2) := ⟨by decide +kernel, rfl, by decide +kernel, jt_g 356 (by decide +kernel) rfl, jt_g 1 (by decide +kernel) rfl, by decide +kernel, by decide, by decide⟩
theorem jt_M_ok_54 : jt_MP (⟨"CoinChild", "user", "(II)I"⟩, jX_CC_user, 3) := ⟨by decide +kernel, rfl, by decide +kernel, jt_g 360 (by decide +kernel) rfl, jt_g 1 (by decide +kernel) rfl, by decide +kernel, by decide, by decide⟩
theorem jt_M_ok_55 : jt_MP (⟨"CoinChild", "coin", "(II)I"⟩, jX_CC_coin, 3) := ⟨by decide +kernel, rfl, by decide +kernel, jt_g 364 (by decide +kernel) rfl, jt_g 1 (by decide +kernel) rfl, by decide +kernel, by decide, by decide⟩
theorem jt_M_ok_56 : jt_MP (⟨"CoinChild$Exit", "look", "(I)I"⟩, jX_Ex_look, 2) := ⟨by decide +kernel, rfl, by decide +kernel, jt_g 368 (by decide +kernel) rfl, jt_g 5 (by decide +kernel) rfl, by decide +kernel, by decide, by decide⟩
theorem jt_M_ok_57 : jt_MP (⟨"CoinChild$Exit", "countChallenges", "()I"⟩, jX_Ex_countChallenges, 1) := ⟨by decide +kernel, rfl, by decide +kernel, jt_g 372 (by decide +kernel) rfl, jt_g 5 (by decide +kernel) rfl, by decide +kernel, by decide, by decide⟩
theorem jt_M_ok_58 : jt_MP (⟨"CoinChild", "block", "(II)I"⟩, jX_CC_block, 3) := ⟨by decide +kernel, rfl, by decide +kernel, jt_g 376 (by decide +kernel) rfl, jt_g 1 (by decide +kernel) rfl, by decide +kernel, by decide, by decide⟩
theorem jt_M_ok_59 : jt_MP (⟨"CoinChild$Block", "root", "()I"⟩, jX_Bl_root, 1) := ⟨by decide +kernel, rfl, by decide +kernel, jt_g 380 (by decide +kernel) rfl, jt_g 6 (by decide +kernel) rfl, by decide +kernel, by decide, by decide⟩
theorem jt_M_ok_60 : jt_MP (⟨"CoinChild$Block", "look", "(I)I"⟩, jX_Bl_look, 2) := ⟨by decide +kernel, rfl, by decide +kernel, jt_g 384 (by decide +kernel) rfl, jt_g 6 (by decide +kernel) rfl, by decide +kernel, by decide, by decide⟩
theorem jt_M_ok_61 : jt_MP (⟨"CoinChild", "proves", "(IIIIII)Z"⟩, jX_CC_proves, 7) := ⟨by decide +kernel, rfl, by decide +kernel, jt_g 388 (by decide +kernel) rfl, jt_g 1 (by decide +kernel) rfl, by decide +kernel, by decide, by decide⟩
theorem jt_M_ok_62 : jt_MP (⟨"CoinChild", "climb", "(IIII)I"⟩, jX_CC_climb, 4) := ⟨by decide +kernel, rfl, by decide +kernel, jt_g 391 (by decide +kernel) rfl, jt_g 1 (by decide +kernel) rfl, by decide +kernel, by decide, by decide⟩
theorem jt_M_ok_63 : jt_MP (⟨"CoinChild", "locked", "()I"⟩, jX_CC_locked, 1) := ⟨by decide +kernel, rfl, by decide +kernel, jt_g 396 (by decide +kernel) rfl, jt_g 1 (by decide +kernel) rfl, by decide +kernel, by decide, by decide⟩
theorem jt_M_ok_64 : jt_MP (⟨"CoinChild$Exit", "bonds", "()I"⟩, jX_Ex_bonds, 1) := ⟨by decide +kernel, rfl, by decide +kernel, jt_g 400 (by decide +kernel) rfl, jt_g 5 (by decide +kernel) rfl, by decide +kernel, by decide, by decide⟩
theorem jt_M_ok_65 : jt_MP (⟨"CoinChildLaw", "cell", "([II)I"⟩, jX_Lw_cell, 2) := ⟨by decide +kernel, rfl, by decide +kernel, jt_g 403 (by decide +kernel) rfl, jt_g 0 (by decide +kernel) rfl, by decide +kernel, by decide, by decide⟩
theorem jt_M_ok_66 : jt_MP (⟨"CoinChildModel", "<init>", "(II)V"⟩, jX_RM_init, 3) := ⟨by decide +kernel, rfl, by decide +kernel, jt_g 408 (by decide +kernel) rfl, jt_g 3 (by decide +kernel) rfl, by decide +kernel, by decide, by decide⟩
theorem jt_M_ok_67 : jt_MP (⟨"CoinChildModel", "deposit", "(II)I"⟩, jX_RM_deposit, 3) := ⟨by decide +kernel, rfl, by decide +kernel, jt_g 505 (by decide +kernel) rfl, jt_g 3 (by decide +kernel) rfl, by decide +kernel, by decide, by decide⟩
theorem jt_M_ok_68 : jt_MP (⟨"CoinChildModel", "isUser", "(I)Z"⟩, jX_RM_isUser, 1) := ⟨by decide +kernel, rfl, by decide +kernel, jt_g 508 (by decide +kernel) rfl, jt_g 3 (by decide +kernel) rfl, by decide +kernel, by decide, by decide⟩
theorem jt_M_ok_69 : jt_MP (⟨"CoinChildModel", "newBlock", "(Z)V"⟩, jX_RM_newBlock, 2) := ⟨by decide +kernel, rfl, by decide +kernel, jt_g 512 (by decide +kernel) rfl, jt_g 3 (by decide +kernel) rfl, by decide +kernel, by decide, by decide⟩
theorem jt_M_ok_70 : jt_MP (⟨"CoinChildModel", "send", "(III)Z"⟩, jX_RM_send, 4) := ⟨by decide +kernel, rfl, by decide +kernel, jt_g 516 (by decide +kernel) rfl, jt_g 3 (by decide +kernel) rfl, by decide +kernel, by decide, by decide⟩
theorem jt_M_ok_71 : jt_MP (⟨"CoinChildModel", "isCoin", "(I)Z"⟩, jX_RM_isCoin, 2) := ⟨by decide +kernel, rfl, by decide +kernel, jt_g 520 (by decide +kernel) rfl, jt_g 3 (by decide +kernel) rfl, by decide +kernel, by decide, by decide⟩
theorem jt_M_ok_72 : jt_MP (⟨"CoinChildModel", "signature", "(IIII)I"⟩, jX_RM_signature, 5) := ⟨by decide +kernel, rfl, by decide +kernel, jt_g 524 (by decide +kernel) rfl, jt_g 3 (by decide +kernel) rfl, by decide +kernel, by decide, by decide⟩
theorem jt_M_ok_73 : jt_MP (⟨"CoinChildModel", "mix", "(III)I"⟩, jX_RM_mix, 3) := ⟨by decide +kernel, rfl, by decide +kernel, jt_g 527 (by decide +kernel) rfl, jt_g 3 (by decide +kernel) rfl, by decide +kernel, by decide, by decide⟩
theorem jt_M_ok_74 : jt_MP (⟨"CoinChildModel", "note", "(IIIII)V"⟩, jX_RM_note, 6) := ⟨by decide +kernel, rfl, by decide +kernel, jt_g 532 (by decide +kernel) rfl, jt_g 3 (by decide +kernel) rfl, by decide +kernel, by decide, by decide⟩
theorem jt_M_ok_75 : jt_MP (⟨"CoinChildModel", "forge", "(IIIII)Z"⟩, jX_RM_forge, 6) := ⟨by decide +kernel, rfl, by decide +kernel, jt_g 536 (by decide +kernel) rfl, jt_g 3 (by decide +kernel) rfl, by decide +kernel, by decide, by decide⟩
theorem jt_M_ok_76 : jt_MP (⟨"CoinChildModel", "build", "(ZZ)I"⟩, jX_RM_build, 3) := ⟨by decide +kernel, rfl, by decide +kernel, jt_g 540 (by decide +kernel) rfl, jt_g 3 (by decide +kernel) rfl, by decide +kernel, by decide, by decide⟩
theorem jt_M_ok_77 : jt_MP (⟨"CoinChildModel", "fits", "(I)Z"⟩, jX_RM_fits, 2) := ⟨by decide +kernel, rfl, by decide +kernel, jt_g 544 (by decide +kernel) rfl, jt_g 3 (by decide +kernel) rfl, by decide +kernel, by decide, by decide⟩
theorem jt_M_ok_78 : jt_MP (⟨"CoinChildModel", "latest", "(I)I"⟩, jX_RM_latest, 2) := ⟨by decide +kernel, rfl, by decide +kernel, jt_g 548 (by decide +kernel) rfl, jt_g 3 (by decide +kernel) rfl, by decide +kernel, by decide, by decide⟩
theorem jt_M_ok_79 : jt_MP (⟨"CoinChildModel", "show", "(I)Z"⟩, jX_RM_show, 2) := ⟨by decide +kernel, rfl, by decide +kernel, jt_g 552 (by decide +kernel) rfl, jt_g 3 (by decide +kernel) rfl, by decide +kernel, by decide, by decide⟩
theorem jt_M_ok_80 : jt_MP (⟨"CoinChildModel", "isBlock", "(I)Z"⟩, jX_RM_isBlock, 2) := ⟨by decide +kernel, rfl, by decide +kernel, jt_g 556 (by decide +kernel) rfl, jt_g 3 (by decide +kernel) rfl, by decide +kernel, by decide, by decide⟩
theorem jt_M_ok_81 : jt_MP (⟨"CoinChildModel", "accept", "(II)I"⟩, jX_RM_accept, 3) := ⟨by decide +kernel, rfl, by decide +kernel, jt_g 560 (by decide +kernel) rfl, jt_g 3 (by decide +kernel) rfl, by decide +kernel, by decide, by decide⟩
theorem jt_M_ok_82 : jt_MP (⟨"CoinChildModel", "sound", "(I)Z"⟩, jX_RM_sound, 2) := ⟨by decide +kernel, rfl, by decide +kernel, jt_g 564 (by decide +kernel) rfl, jt_g 3 (by decide +kernel) rfl, by decide +kernel, by decide, by decide⟩
theorem jt_M_ok_83 : jt_MP (⟨"CoinChildModel", "spends", "(III)Z"⟩, jX_RM_spends, 4) := ⟨by decide +kernel, rfl, by decide +kernel, jt_g 568 (by decide +kernel) rfl, jt_g 3 (by decide +kernel) rfl, by decide +kernel, by decide, by decide⟩
theorem jt_M_ok_84 : jt_MP (⟨"CoinChildModel", "good", "(II)Z"⟩, jX_RM_good, 3) := ⟨by decide +kernel, rfl, by decide +kernel, jt_g 572 (by decide +kernel) rfl, jt_g 3 (by decide +kernel) rfl, by decide +kernel, by decide, by decide⟩
theorem jt_M_ok_85 : jt_MP (⟨"CoinChildModel", "exit", "(III)I"⟩, jX_RM_exit, 4) := ⟨by decide +kernel, rfl, by decide +kernel, jt_g 576 (by decide +kernel) rfl, jt_g 3 (by decide +kernel) rfl, by decide +kernel, by decide, by decide⟩
theorem jt_M_ok_86 : jt_MP (⟨"CoinChildModel", "after", "(III)I"⟩, jX_RM_after, 4) := ⟨by decide +kernel, rfl, by decide +kernel, jt_g 580 (by decide +kernel) rfl, jt_g 3 (by decide +kernel) rfl, by decide +kernel, by decide, by decide⟩
theorem jt_M_ok_87 : jt_MP (⟨"CoinChildModel", "refused", "(III)I"⟩, jX_RM_refused, 4) := ⟨by decide +kernel, rfl, by decide +kernel, jt_g 584 (by decide +kernel) rfl, jt_g 3 (by decide +kernel) rfl, by decide +kernel, by decide, by decide⟩
theorem jt_M_ok_88 : jt_MP (⟨"CoinChildModel", "cancel", "(II)V"⟩, jX_RM_cancel, 3) := ⟨by decide +kernel, rfl, by decide +kernel, jt_g 588 (by decide +kernel) rfl, jt_g 3 (by decide +kernel) rfl, by decide +kernel, by decide, by decide⟩
theorem jt_M_ok_89 : jt_MP (⟨"CoinChildModel", "between", "(III)I"⟩, jX_RM_between, 4) := ⟨by decide +kernel, rfl, by decide +kernel, jt_g 592 (by decide +kernel) rfl, jt_g 3 (by decide +kernel) rfl, by decide +kernel, by decide, by decide⟩
theorem jt_M_ok_90 : jt_MP (⟨"CoinChildModel", "before", "(III)I"⟩, jX_RM_before, 4) := ⟨by decide +kernel, rfl, by decide +kernel, jt_g 596 (by decide +kernel) rfl, jt_g 3 (by decide +kernel) rfl, by decide +kernel, by decide, by decide⟩
theorem jt_M_ok_91 : jt_MP (⟨"CoinChildModel", "answer", "(III)I"⟩, jX_RM_answer, 4) := ⟨by decide +kernel, rfl, by decide +kernel, jt_g 600 (by decide +kernel) rfl, jt_g 3 (by decide +kernel) rfl, by decide +kernel, by decide, by decide⟩
theorem jt_M_ok_92 : jt_MP (⟨"CoinChildModel", "finalise", "(I)I"⟩, jX_RM_finalise, 2) := ⟨by decide +kernel, rfl, by decide +kernel, jt_g 604 (by decide +kernel) rfl, jt_g 3 (by decide +kernel) rfl, by decide +kernel, by decide, by decide⟩
theorem jt_M_ok_93 : jt_MP (⟨"CoinChildModel", "watch", "(I)I"⟩, jX_RM_watch, 2) := ⟨by decide +kernel, rfl, by decide +kernel, jt_g 608 (by decide +kernel) rfl, jt_g 3 (by decide +kernel) rfl, by decide +kernel, by decide, by decide⟩
theorem jt_M_ok_94 : jt_MP (⟨"CoinChildModel", "guard", "(III)I"⟩, jX_RM_guard, 4) := ⟨by decide +kernel, rfl, by decide +kernel, jt_g 612 (by decide +kernel) rfl, jt_g 3 (by decide +kernel) rfl, by decide +kernel, by decide, by decide⟩
theorem jt_M_ok_95 : jt_MP (⟨"CoinChildModel", "hiddenAfter", "(I)Z"⟩, jX_RM_hiddenAfter, 2) := ⟨by decide +kernel, rfl, by decide +kernel, jt_g 616 (by decide +kernel) rfl, jt_g 3 (by decide +kernel) rfl, by decide +kernel, by decide, by decide⟩
theorem jt_M_ok_96 : jt_MP (⟨"CoinChildModel", "next", "(II)I"⟩, jX_RM_next, 3) := ⟨by decide +kernel, rfl, by decide +kernel, jt_g 621 (by decide +kernel) rfl, jt_g 3 (by decide +kernel) rfl, by decide +kernel, by decide, by decide⟩
theorem jt_M_ok_97 : jt_MP (⟨"CoinChildModel", "tick", "(I)I"⟩, jX_RM_tick, 2) := ⟨by decide +kernel, rfl, by decide +kernel, jt_g 629 (by decide +kernel) rfl, jt_g 3 (by decide +kernel) rfl, by decide +kernel, by decide, by decide⟩
theorem jt_M_ok_98 : jt_MP (⟨"CoinChildModel", "user", "(II)I"⟩, jX_RM_user, 3) := ⟨by decide +kernel, rfl, by decide +kernel, jt_g 633 (by decide +kernel) rfl, jt_g 3 (by decide +kernel) rfl, by decide +kernel, by decide, by decide⟩
theorem jt_M_ok_99 : jt_MP (⟨"CoinChildModel", "coin", "(II)I"⟩, jX_RM_coin, 3) := ⟨by decide +kernel, rfl, by decide +kernel, jt_g 637 (by decide +kernel) rfl, jt_g 3 (by decide +kernel) rfl, by decide +kernel, by decide, by decide⟩
theorem jt_M_ok_100 : jt_MP (⟨"CoinChildModel", "standing", "(I)I"⟩, jX_RM_standing, 2) := ⟨by decide +kernel, rfl, by decide +kernel, jt_g 641 (by decide +kernel) rfl, jt_g 3 (by decide +kernel) rfl, by decide +kernel, by decide, by decide⟩
theorem jt_M_ok_101 : jt_MP (⟨"CoinChildModel", "block", "(II)I"⟩, jX_RM_block, 3) := ⟨by decide +kernel, rfl, by decide +kernel, jt_g 645 (by decide +kernel) rfl, jt_g 3 (by decide +kernel) rfl, by decide +kernel, by decide, by decide⟩
theorem jt_M_ok_102 : jt_MP (⟨"CoinChildModel", "level", "(II)V"⟩, jX_RM_level, 3) := ⟨by decide +kernel, rfl, by decide +kernel, jt_g 649 (by decide +kernel) rfl, jt_g 3 (by decide +kernel) rfl, by decide +kernel, by decide, by decide⟩
theorem jt_M_ok_103 : jt_MP (⟨"CoinChildModel", "leaf", "(II)I"⟩, jX_RM_leaf, 3) := ⟨by decide +kernel, rfl, by decide +kernel, jt_g 653 (by decide +kernel) rfl, jt_g 3 (by decide +kernel) rfl, by decide +kernel, by decide, by decide⟩
theorem jt_M_ok_104 : jt_MP (⟨"CoinChildModel", "over", "(III)I"⟩, jX_RM_over, 3) := ⟨by decide +kernel, rfl, by decide +kernel, jt_g 656 (by decide +kernel) rfl, jt_g 3 (by decide +kernel) rfl, by decide +kernel, by decide, by decide⟩
theorem jt_M_ok_105 : jt_MP (⟨"CoinChildModel", "proves", "(IIIIII)Z"⟩, jX_RM_proves, 7) := ⟨by decide +kernel, rfl, by decide +kernel, jt_g 660 (by decide +kernel) rfl, jt_g 3 (by decide +kernel) rfl, by decide +kernel, by decide, by decide⟩
theorem jt_M_ok_106 : jt_MP (⟨"CoinChildModel", "locked", "()I"⟩, jX_RM_locked, 1) := ⟨by decide +kernel, rfl, by decide +kernel, jt_g 664 (by decide +kernel) rfl, jt_g 3 (by decide +kernel) rfl, by decide +kernel, by decide, by decide⟩
theorem jt_M_ok : ∀ e ∈ jt_Ms, jt_MP e := List.forall_mem_cons.mpr ⟨jt_M_ok_0, List.forall_mem_cons.mpr ⟨jt_M_ok_1, List.forall_mem_cons.mpr ⟨jt_M_ok_2, List.forall_mem_cons.mpr ⟨jt_M_ok_3, List.forall_mem_cons.mpr ⟨jt_M_ok_4, List.forall_mem_cons.mpr ⟨jt_M_ok_5, List.forall_mem_cons.mpr ⟨jt_M_ok_6, List.forall_mem_cons.mpr ⟨jt_M_ok_7, List.forall_mem_cons.mpr ⟨jt_M_ok_8, List.forall_mem_cons.mpr ⟨jt_M_ok_9, List.forall_mem_cons.mpr ⟨jt_M_ok_10, List.forall_mem_cons.mpr ⟨jt_M_ok_11, List.forall_mem_cons.mpr ⟨jt_M_ok_12, List.forall_mem_cons.mpr ⟨jt_M_ok_13, List.forall_mem_cons.mpr ⟨jt_M_ok_14, List.forall_mem_cons.mpr ⟨jt_M_ok_15, List.forall_mem_cons.mpr ⟨jt_M_ok_16, List.forall_mem_cons.mpr ⟨jt_M_ok_17, List.forall_mem_cons.mpr ⟨jt_M_ok_18, List.forall_mem_cons.mpr ⟨jt_M_ok_19, List.forall_mem_cons.mpr ⟨jt_M_ok_20, List.forall_mem_cons.mpr ⟨jt_M_ok_21, List.forall_mem_cons.mpr ⟨jt_M_ok_22, List.forall_mem_cons.mpr ⟨jt_M_ok_23, List.forall_mem_cons.mpr ⟨jt_M_ok_24, List.forall_mem_cons.mpr ⟨jt_M_ok_25, List.forall_mem_cons.mpr ⟨jt_M_ok_26, List.forall_mem_cons.mpr ⟨jt_M_ok_27, List.forall_mem_cons.mpr ⟨jt_M_ok_28, List.forall_mem_cons.mpr ⟨jt_M_ok_29, List.forall_mem_cons.mpr ⟨jt_M_ok_30, List.forall_mem_cons.mpr ⟨jt_M_ok_31, List.forall_mem_cons.mpr ⟨jt_M_ok_32, List.forall_mem_cons.mpr ⟨jt_M_ok_33, List.forall_mem_cons.mpr ⟨jt_M_ok_34, List.forall_mem_cons.mpr ⟨jt_M_ok_35, List.forall_mem_cons.mpr ⟨jt_M_ok_36, List.forall_mem_cons.mpr ⟨jt_M_ok_37, List.forall_mem_cons.mpr ⟨jt_M_ok_38, List.forall_mem_cons.mpr ⟨jt_M_ok_39, List.forall_mem_cons.mpr ⟨jt_M_ok_40, List.forall_mem_cons.mpr ⟨jt_M_ok_41, List.forall_mem_cons.mpr ⟨jt_M_ok_42, List.forall_mem_cons.mpr ⟨jt_M_ok_43, List.forall_mem_cons.mpr ⟨jt_M_ok_44, List.forall_mem_cons.mpr ⟨jt_M_ok_45, List.forall_mem_cons.mpr ⟨jt_M_ok_46, List.forall_mem_cons.mpr ⟨jt_M_ok_47, List.forall_mem_cons.mpr ⟨jt_M_ok_48, List.forall_mem_cons.mpr ⟨jt_M_ok_49, List.forall_mem_cons.mpr ⟨jt_M_ok_50, List.forall_mem_cons.mpr ⟨jt_M_ok_51, List.forall_mem_cons.mpr ⟨jt_M_ok_52, List.forall_mem_cons.mpr ⟨jt_M_ok_53, List.forall_mem_cons.mpr ⟨jt_M_ok_54, List.forall_mem_cons.mpr ⟨jt_M_ok_55, List.forall_mem_cons.mpr ⟨jt_M_ok_56, List.forall_mem_cons.mpr ⟨jt_M_ok_57, List.forall_mem_cons.mpr ⟨jt_M_ok_58, List.forall_mem_cons.mpr ⟨jt_M_ok_59, List.forall_mem_cons.mpr ⟨jt_M_ok_60, List.forall_mem_cons.mpr ⟨jt_M_ok_61, List.forall_mem_cons.mpr ⟨jt_M_ok_62, List.forall_mem_cons.mpr ⟨jt_M_ok_63, List.forall_mem_cons.mpr ⟨jt_M_ok_64, List.forall_mem_cons.mpr ⟨jt_M_ok_65, List.forall_mem_cons.mpr ⟨jt_M_ok_66, List.forall_mem_cons.mpr ⟨jt_M_ok_67, List.forall_mem_cons.mpr ⟨jt_M_ok_68, List.forall_mem_cons.mpr ⟨jt_M_ok_69, List.forall_mem_cons.mpr ⟨jt_M_ok_70, List.forall_mem_cons.mpr ⟨jt_M_ok_71, List.forall_mem_cons.mpr ⟨jt_M_ok_72, List.forall_mem_cons.mpr ⟨jt_M_ok_73, List.forall_mem_cons.mpr ⟨jt_M_ok_74, List.forall_mem_cons.mpr ⟨jt_M_ok_75, List.forall_mem_cons.mpr ⟨jt_M_ok_76, List.forall_mem_cons.mpr ⟨jt_M_ok_77, List.forall_mem_cons.mpr ⟨jt_M_ok_78, List.forall_mem_cons.mpr ⟨jt_M_ok_79, List.forall_mem_cons.mpr ⟨jt_M_ok_80, List.forall_mem_cons.mpr ⟨jt_M_ok_81, List.forall_mem_cons.mpr ⟨jt_M_ok_82, List.forall_mem_cons.mpr ⟨jt_M_ok_83, List.forall_mem_cons.mpr ⟨jt_M_ok_84, List.forall_mem_cons.mpr ⟨jt_M_ok_85, List.forall_mem_cons.mpr ⟨jt_M_ok_86, List.forall_mem_cons.mpr ⟨jt_M_ok_87, List.forall_mem_cons.mpr ⟨jt_M_ok_88, List.forall_mem_cons.mpr ⟨jt_M_ok_89, List.forall_mem_cons.mpr ⟨jt_M_ok_90, List.forall_mem_cons.mpr ⟨jt_M_ok_91, List.forall_mem_cons.mpr ⟨jt_M_ok_92, List.forall_mem_cons.mpr ⟨jt_M_ok_93, List.forall_mem_cons.mpr ⟨jt_M_ok_94, List.forall_mem_cons.mpr ⟨jt_M_ok_95, List.forall_mem_cons.mpr ⟨jt_M_ok_96, List.forall_mem_cons.mpr ⟨jt_M_ok_97, List.forall_mem_cons.mpr ⟨jt_M_ok_98, List.forall_mem_cons.mpr ⟨jt_M_ok_99, List.forall_mem_cons.mpr ⟨jt_M_ok_100, List.forall_mem_cons.mpr ⟨jt_M_ok_101, List.forall_mem_cons.mpr ⟨jt_M_ok_102, List.forall_mem_cons.mpr ⟨jt_M_ok_103, List.forall_mem_cons.mpr ⟨jt_M_ok_104, List.forall_mem_cons.mpr ⟨jt_M_ok_105, List.forall_mem_cons.mpr ⟨jt_M_ok_106, fun _ h => absurd h List.not_mem_nil⟩⟩⟩⟩⟩⟩⟩⟩⟩⟩⟩⟩⟩⟩⟩⟩⟩⟩⟩⟩⟩⟩⟩⟩⟩⟩⟩⟩⟩⟩⟩⟩⟩⟩⟩⟩⟩⟩⟩⟩⟩⟩⟩⟩⟩⟩⟩⟩⟩⟩⟩⟩⟩⟩⟩⟩⟩⟩⟩⟩⟩⟩⟩⟩⟩⟩⟩⟩⟩⟩⟩⟩⟩⟩⟩⟩⟩⟩⟩⟩⟩⟩⟩⟩⟩⟩⟩⟩⟩⟩⟩⟩⟩⟩⟩⟩⟩⟩⟩⟩⟩⟩⟩⟩⟩⟩⟩
def jt_nw : List Cond := [.methodLinkNest "CoinChild$Coin" 9 ⟨"CoinChild$Exit", "<init>", "()V"⟩ "CoinChild", .methodLinkNest "CoinChild$Block" 29 ⟨"CoinChild", "join", "(III)I"⟩ "CoinChild"]
theorem jt_nw_in : ∀ w ∈ jt_nw, w ∈ lw_tbl := List.forall_mem_cons.mpr ⟨jt_in 77 (by decide +kernel), List.forall_mem_cons.mpr ⟨jt_in 181 (by decide +kernel), fun _ h => absurd h List.not_mem_nil⟩⟩
theorem jt_nw_sh : ∀ w ∈ jt_nw, ∃ (a : String) (i : Nat) (x : MethodName) (h : String), w = .methodLinkNest a i x h := List.forall_mem_cons.mpr ⟨⟨_, _, _, _, rfl⟩, List.forall_mem_cons.mpr ⟨⟨_, _, _, _, rfl⟩, fun _ h => absurd h List.not_mem_nil⟩⟩
theorem jt_nw_on (w : Cond) (hw : w ∈ jt_nw) : w.onTables = true := by
  obtain ⟨a, i, x, h, rfl⟩ := jt_nw_sh w hw
  rfl
def jt_S : List ((Nat × Nat) × (Nat × Nat × Nat)) := [((0, 53), (0, 2, 1)), ((0, 76), (0, 7, 3)), ((0, 247), (0, 50, 1)), ((0, 216), (0, 62, 4)), ((0, 224), (0, 11, 3)), ((6, 9), (0, 65, 2)), ((5, 120), (0, 68, 1)), ((5, 94), (0, 73, 3)), ((5, 185), (0, 104, 3)), ((3, 29), (1, 11, 3))]
def jt_SX : List ((Nat × Nat) × Bool) := [((0, 41), false), ((0, 47), true)]
def jt_V : List ((Nat × Nat) × ((Nat × Nat × Nat) × Nat)) := [((6, 21), ((2, 1, 3), 0)), ((0, 66), ((2, 5, 3), 0)), ((0, 83), ((2, 9, 2), 0)), ((0, 227), ((2, 10, 1), 3)), ((6, 26), ((2, 12, 4), 0)), ((0, 87), ((2, 13, 3), 0)), ((0, 90), ((2, 14, 6), 0)), ((0, 230), ((2, 15, 5), 0)), ((6, 31), ((2, 16, 6), 0)), ((0, 94), ((2, 17, 2), 0)), ((6, 36), ((2, 18, 3), 0)), ((0, 98), ((2, 19, 3), 0)), ((0, 128), ((2, 20, 2), 0)), ((0, 132), ((2, 21, 3), 0)), ((0, 102), ((2, 22, 2), 0)), ((6, 41), ((2, 23, 2), 0)), ((6, 46), ((2, 24, 3), 0)), ((0, 122), ((2, 25, 2), 0)), ((0, 125), ((2, 26, 2), 0)), ((0, 242), ((2, 27, 3), 0)), ((0, 163), ((2, 28, 4), 0)), ((6, 50), ((2, 29, 4), 0)), ((0, 139), ((2, 30, 4), 0)), ((0, 149), ((2, 31, 5), 2)), ((6, 55), ((2, 32, 4), 0)), ((0, 153), ((2, 33, 4), 0)), ((0, 156), ((2, 34, 2), 0)), ((0, 167), ((2, 35, 3), 0)), ((0, 187), ((2, 36, 2), 2)), ((2, 32), ((2, 37, 2), 2)), ((0, 200), ((2, 38, 2), 2)), ((6, 59), ((2, 39, 4), 0)), ((6, 63), ((2, 40, 4), 0)), ((0, 177), ((2, 41, 2), 2)), ((0, 180), ((2, 42, 3), 0)), ((0, 184), ((2, 43, 3), 2)), ((6, 67), ((2, 44, 4), 0)), ((0, 190), ((2, 45, 2), 2)), ((6, 71), ((2, 46, 2), 0)), ((0, 196), ((2, 47, 1), 2)), ((2, 36), ((2, 36, 2), 2)), ((6, 76), ((2, 48, 2), 0)), ((0, 206), ((2, 49, 3), 0)), ((0, 245), ((2, 29, 4), 0)), ((0, 250), ((2, 51, 3), 0)), ((0, 267), ((2, 44, 4), 0)), ((0, 254), ((2, 52, 5), 0)), ((0, 258), ((2, 32, 4), 0)), ((0, 261), ((2, 39, 4), 0)), ((0, 264), ((2, 40, 4), 0)), ((6, 80), ((2, 53, 2), 0)), ((6, 84), ((2, 54, 3), 0)), ((6, 88), ((2, 55, 3), 0)), ((0, 209), ((2, 56, 2), 2)), ((2, 40), ((2, 57, 1), 2)), ((6, 92), ((2, 58, 3), 0)), ((0, 212), ((2, 59, 1), 3)), ((0, 215), ((2, 60, 2), 3)), ((6, 96), ((2, 61, 7), 0)), ((6, 101), ((2, 63, 1), 0)), ((0, 220), ((2, 64, 1), 2)), ((6, 25), ((2, 67, 3), 5)), ((5, 123), ((2, 69, 2), 5)), ((6, 30), ((2, 70, 4), 5)), ((5, 127), ((2, 71, 2), 5)), ((5, 108), ((2, 72, 5), 5)), ((5, 130), ((2, 74, 6), 5)), ((6, 35), ((2, 75, 6), 5)), ((6, 40), ((2, 76, 3), 5)), ((5, 138), ((2, 77, 2), 5)), ((5, 134), ((2, 78, 2), 5)), ((6, 45), ((2, 79, 2), 5)), ((5, 104), ((2, 80, 2), 5)), ((6, 49), ((2, 81, 3), 5)), ((5, 141), ((2, 82, 2), 5)), ((5, 116), ((2, 83, 4), 5)), ((5, 112), ((2, 84, 3), 5)), ((6, 54), ((2, 85, 4), 5)), ((6, 58), ((2, 86, 4), 5)), ((5, 147), ((2, 87, 4), 5)), ((5, 150), ((2, 88, 3), 5)), ((6, 62), ((2, 89, 4), 5)), ((6, 66), ((2, 90, 4), 5)), ((6, 70), ((2, 91, 4), 5)), ((6, 75), ((2, 92, 2), 5)), ((6, 79), ((2, 93, 2), 5)), ((5, 176), ((2, 94, 4), 5)), ((5, 154), ((2, 95, 2), 5)), ((5, 157), ((2, 85, 4), 5)), ((5, 160), ((2, 96, 3), 5)), ((5, 164), ((2, 91, 4), 5)), ((5, 167), ((2, 86, 4), 5)), ((5, 170), ((2, 89, 4), 5)), ((5, 173), ((2, 90, 4), 5)), ((6, 83), ((2, 97, 2), 5)), ((6, 87), ((2, 98, 3), 5)), ((6, 91), ((2, 99, 3), 5)), ((5, 179), ((2, 100, 2), 5)), ((6, 95), ((2, 101, 3), 5)), ((5, 188), ((2, 102, 3), 5)), ((5, 182), ((2, 103, 3), 5)), ((6, 100), ((2, 105, 7), 5)), ((6, 105), ((2, 106, 1), 5))]
def jt_N : List ((Nat × Nat) × Option (Nat × Nat × Nat)) := [((6, 15), some (3, 0, 3)), ((0, 1), none), ((0, 63), some (3, 3, 2)), ((1, 1), none), ((2, 3), none), ((0, 70), some (3, 6, 2)), ((3, 3), none), ((0, 80), some (3, 8, 7)), ((4, 1), none), ((6, 20), some (3, 66, 3)), ((5, 1), none), ((1, 9), some (4, 4, 1))]
def jt_ms (c k : Nat) : Option ((Nat × Nat × Nat) ⊕ Bool) := match jt_S.lookup (c, k) with
  | some q => some (.inl q)
  | none => (jt_SX.lookup (c, k)).map .inr
def jt_mv (c k : Nat) : Option ((Nat × Nat × Nat) × Nat) := jt_V.lookup (c, k)
def jt_mi (c k : Nat) : Option (Option (Nat × Nat × Nat)) := jt_N.lookup (c, k)
def jt_SP (e : (Nat × Nat) × (Nat × Nat × Nat)) : Prop := ∃ (y : MethodName) (X : jx_X), jt_M e.2.2.1 = some (y, X, e.2.2.2) ∧ Cond.static y ∈ jt_G ∧ X.2.2.1 ≤ 15 ∧ (parseMethodDescriptor y.desc).map (fun d => d.parameters.length) = some e.2.2.2 ∧ ((e.2.1 = 0 ∧ y.cls = jt_cn e.1.1 ∧ Cond.methodLink (jt_cn e.1.1) e.1.2 y ∈ jt_G) ∨ (e.2.1 = 1 ∧ ∃ h, Cond.methodLinkNest (jt_cn e.1.1) e.1.2 y h ∈ jt_nw))
theorem jt_S_ok_0 : jt_SP ((0, 53), (0, 2, 1)) := ⟨_, _, rfl, jt_g 68 (by decide +kernel) rfl, by decide, by decide +kernel, Or.inl ⟨rfl, rfl, jt_g 67 (by decide +kernel) rfl⟩⟩
theorem jt_S_ok_1 : jt_SP ((0, 76), (0, 7, 3)) := ⟨_, _, rfl, jt_g 141 (by decide +kernel) rfl, by decide, by decide +kernel, Or.inl ⟨rfl, rfl, jt_g 140 (by decide +kernel) rfl⟩⟩
theorem jt_S_ok_2 : jt_SP ((0, 247), (0, 50, 1)) := ⟨_, _, rfl, jt_g 339 (by decide +kernel) rfl, by decide, by decide +kernel, Or.inl ⟨rfl, rfl, jt_g 338 (by decide +kernel) rfl⟩⟩
theorem jt_S_ok_3 : jt_SP ((0, 216), (0, 62, 4)) := ⟨_, _, rfl, jt_g 390 (by decide +kernel) rfl, by decide, by decide +kernel, Or.inl ⟨rfl, rfl, jt_g 389 (by decide +kernel) rfl⟩⟩
theorem jt_S_ok_4 : jt_SP ((0, 224), (0, 11, 3)) := ⟨_, _, rfl, jt_g 182 (by decide +kernel) rfl, by decide, by decide +kernel, Or.inl ⟨rfl, rfl, jt_g 392 (by decide +kernel) rfl⟩⟩
theorem jt_S_ok_5 : jt_SP ((6, 9), (0, 65, 2)) := ⟨_, _, rfl, jt_g 402 (by decide +kernel) rfl, by decide, by decide +kernel, Or.inl ⟨rfl, rfl, jt_g 401 (by decide +kernel) rfl⟩⟩
theorem jt_S_ok_6 : jt_SP ((5, 120), (0, 68, 1)) := ⟨_, _, rfl, jt_g 507 (by decide +kernel) rfl, by decide, by decide +kernel, Or.inl ⟨rfl, rfl, jt_g 506 (by decide +kernel) rfl⟩⟩
theorem jt_S_ok_7 : jt_SP ((5, 94), (0, 73, 3)) := ⟨_, _, rfl, jt_g 526 (by decide +kernel) rfl, by decide, by decide +kernel, Or.inl ⟨rfl, rfl, jt_g 525 (by decide +kernel) rfl⟩⟩
theorem jt_S_ok_8 : jt_SP ((5, 185), (0, 104, 3)) := ⟨_, _, rfl, jt_g 655 (by decide +kernel) rfl, by decide, by decide +kernel, Or.inl ⟨rfl, rfl, jt_g 654 (by decide +kernel) rfl⟩⟩
theorem jt_S_ok_9 : jt_SP ((3, 29), (1, 11, 3)) := ⟨_, _, rfl, jt_g 182 (by decide +kernel) rfl, by decide, by decide +kernel, Or.inr ⟨rfl, _, List.mem_of_getElem? (i := 1) rfl⟩⟩
theorem jt_S_ok : ∀ e ∈ jt_S, jt_SP e := List.forall_mem_cons.mpr ⟨jt_S_ok_0, List.forall_mem_cons.mpr ⟨jt_S_ok_1, List.forall_mem_cons.mpr ⟨jt_S_ok_2, List.forall_mem_cons.mpr ⟨jt_S_ok_3, List.forall_mem_cons.mpr ⟨jt_S_ok_4, List.forall_mem_cons.mpr ⟨jt_S_ok_5, List.forall_mem_cons.mpr ⟨jt_S_ok_6, List.forall_mem_cons.mpr ⟨jt_S_ok_7, List.forall_mem_cons.mpr ⟨jt_S_ok_8, List.forall_mem_cons.mpr ⟨jt_S_ok_9, fun _ h => absurd h List.not_mem_nil⟩⟩⟩⟩⟩⟩⟩⟩⟩⟩
def jt_VP (e : (Nat × Nat) × ((Nat × Nat × Nat) × Nat)) : Prop := ∃ (y : MethodName) (X : jx_X) (n : Nat), jt_M e.2.1.2.1 = some (y, X, n + 1) ∧ e.2.1.2.2 = n + 1 ∧ y.cls = jt_cn e.2.2 ∧ e.2.2 < 6 ∧ (parseMethodDescriptor y.desc).map (fun d => d.parameters.length) = some n ∧ Cond.methodLink (jt_cn e.1.1) e.1.2 y ∈ jt_G ∧ Cond.instanceMethod y ∈ jt_G ∧ Cond.selects y.cls y y ∈ jt_G ∧ e.2.1.1 = 2
theorem jt_V_ok_0 : jt_VP ((6, 21), ((2, 1, 3), 0)) := ⟨_, _, _, rfl, rfl, rfl, by decide, by decide +kernel, jt_g 63 (by decide +kernel) rfl, jt_g 64 (by decide +kernel) rfl, jt_g 65 (by decide +kernel) rfl, rfl⟩
theorem jt_V_ok_1 : jt_VP ((0, 66), ((2, 5, 3), 0)) := ⟨_, _, _, rfl, rfl, rfl, by decide, by decide +kernel, jt_g 117 (by decide +kernel) rfl, jt_g 119 (by decide +kernel) rfl, jt_s 0 (by decide +kernel) rfl, rfl⟩
theorem jt_V_ok_2 : jt_VP ((0, 83), ((2, 9, 2), 0)) := ⟨_, _, _, rfl, rfl, rfl, by decide, by decide +kernel, jt_g 173 (by decide +kernel) rfl, jt_g 175 (by decide +kernel) rfl, jt_s 1 (by decide +kernel) rfl, rfl⟩
theorem jt_V_ok_3 : jt_VP ((0, 227), ((2, 10, 1), 3)) := ⟨_, _, _, rfl, rfl, rfl, by decide, by decide +kernel, jt_g 177 (by decide +kernel) rfl, jt_g 178 (by decide +kernel) rfl, jt_g 179 (by decide +kernel) rfl, rfl⟩
theorem jt_V_ok_4 : jt_VP ((6, 26), ((2, 12, 4), 0)) := ⟨_, _, _, rfl, rfl, rfl, by decide, by decide +kernel, jt_g 184 (by decide +kernel) rfl, jt_g 185 (by decide +kernel) rfl, jt_g 186 (by decide +kernel) rfl, rfl⟩
theorem jt_V_ok_5 : jt_VP ((0, 87), ((2, 13, 3), 0)) := ⟨_, _, _, rfl, rfl, rfl, by decide, by decide +kernel, jt_g 188 (by decide +kernel) rfl, jt_g 190 (by decide +kernel) rfl, jt_s 2 (by decide +kernel) rfl, rfl⟩
theorem jt_V_ok_6 : jt_VP ((0, 90), ((2, 14, 6), 0)) := ⟨_, _, _, rfl, rfl, rfl, by decide, by decide +kernel, jt_g 192 (by decide +kernel) rfl, jt_g 194 (by decide +kernel) rfl, jt_s 3 (by decide +kernel) rfl, rfl⟩
theorem jt_V_ok_7 : jt_VP ((0, 230), ((2, 15, 5), 0)) := ⟨_, _, _, rfl, rfl, rfl, by decide, by decide +kernel, jt_g 196 (by decide +kernel) rfl, jt_g 198 (by decide +kernel) rfl, jt_s 4 (by decide +kernel) rfl, rfl⟩
theorem jt_V_ok_8 : jt_VP ((6, 31), ((2, 16, 6), 0)) := ⟨_, _, _, rfl, rfl, rfl, by decide, by decide +kernel, jt_g 200 (by decide +kernel) rfl, jt_g 201 (by decide +kernel) rfl, jt_g 202 (by decide +kernel) rfl, rfl⟩
theorem jt_V_ok_9 : jt_VP ((0, 94), ((2, 17, 2), 0)) := ⟨_, _, _, rfl, rfl, rfl, by decide, by decide +kernel, jt_g 204 (by decide +kernel) rfl, jt_g 206 (by decide +kernel) rfl, jt_s 5 (by decide +kernel) rfl, rfl⟩
theorem jt_V_ok_10 : jt_VP ((6, 36), ((2, 18, 3), 0)) := ⟨_, _, _, rfl, rfl, rfl, by decide, by decide +kernel, jt_g 208 (by decide +kernel) rfl, jt_g 209 (by decide +kernel) rfl, jt_g 210 (by decide +kernel) rfl, rfl⟩
theorem jt_V_ok_11 : jt_VP ((0, 98), ((2, 19, 3), 0)) := ⟨_, _, _, rfl, rfl, rfl, by decide, by decide +kernel, jt_g 212 (by decide +kernel) rfl, jt_g 214 (by decide +kernel) rfl, jt_s 6 (by decide +kernel) rfl, rfl⟩
theorem jt_V_ok_12 : jt_VP ((0, 128), ((2, 20, 2), 0)) := ⟨_, _, _, rfl, rfl, rfl, by decide, by decide +kernel, jt_g 216 (by decide +kernel) rfl, jt_g 218 (by decide +kernel) rfl, jt_s 7 (by decide +kernel) rfl, rfl⟩
theorem jt_V_ok_13 : jt_VP ((0, 132), ((2, 21, 3), 0)) := ⟨_, _, _, rfl, rfl, rfl, by decide, by decide +kernel, jt_g 220 (by decide +kernel) rfl, jt_g 222 (by decide +kernel) rfl, jt_s 8 (by decide +kernel) rfl, rfl⟩
theorem jt_V_ok_14 : jt_VP ((0, 102), ((2, 22, 2), 0)) := ⟨_, _, _, rfl, rfl, rfl, by decide, by decide +kernel, jt_g 224 (by decide +kernel) rfl, jt_g 226 (by decide +kernel) rfl, jt_s 9 (by decide +kernel) rfl, rfl⟩
theorem jt_V_ok_15 : jt_VP ((6, 41), ((2, 23, 2), 0)) := ⟨_, _, _, rfl, rfl, rfl, by decide, by decide +kernel, jt_g 228 (by decide +kernel) rfl, jt_g 229 (by decide +kernel) rfl, jt_g 230 (by decide +kernel) rfl, rfl⟩
theorem jt_V_ok_16 : jt_VP ((6, 46), ((2, 24, 3), 0)) := ⟨_, _, _, rfl, rfl, rfl, by decide, by decide +kernel, jt_g 232 (by decide +kernel) rfl, jt_g 233 (by decide +kernel) rfl, jt_g 234 (by decide +kernel) rfl, rfl⟩
theorem jt_V_ok_17 : jt_VP ((0, 122), ((2, 25, 2), 0)) := ⟨_, _, _, rfl, rfl, rfl, by decide, by decide +kernel, jt_g 236 (by decide +kernel) rfl, jt_g 238 (by decide +kernel) rfl, jt_s 10 (by decide +kernel) rfl, rfl⟩
theorem jt_V_ok_18 : jt_VP ((0, 125), ((2, 26, 2), 0)) := ⟨_, _, _, rfl, rfl, rfl, by decide, by decide +kernel, jt_g 240 (by decide +kernel) rfl, jt_g 242 (by decide +kernel) rfl, jt_s 11 (by decide +kernel) rfl, rfl⟩
theorem jt_V_ok_19 : jt_VP ((0, 242), ((2, 27, 3), 0)) := ⟨_, _, _, rfl, rfl, rfl, by decide, by decide +kernel, jt_g 244 (by decide +kernel) rfl, jt_g 246 (by decide +kernel) rfl, jt_s 12 (by decide +kernel) rfl, rfl⟩
theorem jt_V_ok_20 : jt_VP ((0, 163), ((2, 28, 4), 0)) := ⟨_, _, _, rfl, rfl, rfl, by decide, by decide +kernel, jt_g 248 (by decide +kernel) rfl, jt_g 250 (by decide +kernel) rfl, jt_s 13 (by decide +kernel) rfl, rfl⟩
theorem jt_V_ok_21 : jt_VP ((6, 50), ((2, 29, 4), 0)) := ⟨_, _, _, rfl, rfl, rfl, by decide, by decide +kernel, jt_g 252 (by decide +kernel) rfl, jt_g 253 (by decide +kernel) rfl, jt_g 254 (by decide +kernel) rfl, rfl⟩
theorem jt_V_ok_22 : jt_VP ((0, 139), ((2, 30, 4), 0)) := ⟨_, _, _, rfl, rfl, rfl, by decide, by decide +kernel, jt_g 256 (by decide +kernel) rfl, jt_g 258 (by decide +kernel) rfl, jt_s 14 (by decide +kernel) rfl, rfl⟩
theorem jt_V_ok_23 : jt_VP ((0, 149), ((2, 31, 5), 2)) := ⟨_, _, _, rfl, rfl, rfl, by decide, by decide +kernel, jt_g 260 (by decide +kernel) rfl, jt_g 261 (by decide +kernel) rfl, jt_g 262 (by decide +kernel) rfl, rfl⟩
theorem jt_V_ok_24 : jt_VP ((6, 55), ((2, 32, 4), 0)) := ⟨_, _, _, rfl, rfl, rfl, by decide, by decide +kernel, jt_g 264 (by decide +kernel) rfl, jt_g 265 (by decide +kernel) rfl, jt_g 266 (by decide +kernel) rfl, rfl⟩
theorem jt_V_ok_25 : jt_VP ((0, 153), ((2, 33, 4), 0)) := ⟨_, _, _, rfl, rfl, rfl, by decide, by decide +kernel, jt_g 268 (by decide +kernel) rfl, jt_g 270 (by decide +kernel) rfl, jt_s 15 (by decide +kernel) rfl, rfl⟩
theorem jt_V_ok_26 : jt_VP ((0, 156), ((2, 34, 2), 0)) := ⟨_, _, _, rfl, rfl, rfl, by decide, by decide +kernel, jt_g 272 (by decide +kernel) rfl, jt_g 274 (by decide +kernel) rfl, jt_s 16 (by decide +kernel) rfl, rfl⟩
theorem jt_V_ok_27 : jt_VP ((0, 167), ((2, 35, 3), 0)) := ⟨_, _, _, rfl, rfl, rfl, by decide, by decide +kernel, jt_g 276 (by decide +kernel) rfl, jt_g 278 (by decide +kernel) rfl, jt_s 17 (by decide +kernel) rfl, rfl⟩
theorem jt_V_ok_28 : jt_VP ((0, 187), ((2, 36, 2), 2)) := ⟨_, _, _, rfl, rfl, rfl, by decide, by decide +kernel, jt_g 280 (by decide +kernel) rfl, jt_g 281 (by decide +kernel) rfl, jt_g 282 (by decide +kernel) rfl, rfl⟩
theorem jt_V_ok_29 : jt_VP ((2, 32), ((2, 37, 2), 2)) := ⟨_, _, _, rfl, rfl, rfl, by decide, by decide +kernel, jt_g 284 (by decide +kernel) rfl, jt_g 286 (by decide +kernel) rfl, jt_s 18 (by decide +kernel) rfl, rfl⟩
theorem jt_V_ok_30 : jt_VP ((0, 200), ((2, 38, 2), 2)) := ⟨_, _, _, rfl, rfl, rfl, by decide, by decide +kernel, jt_g 288 (by decide +kernel) rfl, jt_g 289 (by decide +kernel) rfl, jt_g 290 (by decide +kernel) rfl, rfl⟩
theorem jt_V_ok_31 : jt_VP ((6, 59), ((2, 39, 4), 0)) := ⟨_, _, _, rfl, rfl, rfl, by decide, by decide +kernel, jt_g 292 (by decide +kernel) rfl, jt_g 293 (by decide +kernel) rfl, jt_g 294 (by decide +kernel) rfl, rfl⟩
theorem jt_V_ok_32 : jt_VP ((6, 63), ((2, 40, 4), 0)) := ⟨_, _, _, rfl, rfl, rfl, by decide, by decide +kernel, jt_g 296 (by decide +kernel) rfl, jt_g 297 (by decide +kernel) rfl, jt_g 298 (by decide +kernel) rfl, rfl⟩
theorem jt_V_ok_33 : jt_VP ((0, 177), ((2, 41, 2), 2)) := ⟨_, _, _, rfl, rfl, rfl, by decide, by decide +kernel, jt_g 300 (by decide +kernel) rfl, jt_g 301 (by decide +kernel) rfl, jt_g 302 (by decide +kernel) rfl, rfl⟩
theorem jt_V_ok_34 : jt_VP ((0, 180), ((2, 42, 3), 0)) := ⟨_, _, _, rfl, rfl, rfl, by decide, by decide +kernel, jt_g 304 (by decide +kernel) rfl, jt_g 306 (by decide +kernel) rfl, jt_s 19 (by decide +kernel) rfl, rfl⟩
theorem jt_V_ok_35 : jt_VP ((0, 184), ((2, 43, 3), 2)) := ⟨_, _, _, rfl, rfl, rfl, by decide, by decide +kernel, jt_g 308 (by decide +kernel) rfl, jt_g 309 (by decide +kernel) rfl, jt_g 310 (by decide +kernel) rfl, rfl⟩
theorem jt_V_ok_36 : jt_VP ((6, 67), ((2, 44, 4), 0)) := ⟨_, _, _, rfl, rfl, rfl, by decide, by decide +kernel, jt_g 312 (by decide +kernel) rfl, jt_g 313 (by decide +kernel) rfl, jt_g 314 (by decide +kernel) rfl, rfl⟩
theorem jt_V_ok_37 : jt_VP ((0, 190), ((2, 45, 2), 2)) := ⟨_, _, _, rfl, rfl, rfl, by decide, by decide +kernel, jt_g 316 (by decide +kernel) rfl, jt_g 317 (by decide +kernel) rfl, jt_g 318 (by decide +kernel) rfl, rfl⟩
theorem jt_V_ok_38 : jt_VP ((6, 71), ((2, 46, 2), 0)) := ⟨_, _, _, rfl, rfl, rfl, by decide, by decide +kernel, jt_g 320 (by decide +kernel) rfl, jt_g 321 (by decide +kernel) rfl, jt_g 322 (by decide +kernel) rfl, rfl⟩
theorem jt_V_ok_39 : jt_VP ((0, 196), ((2, 47, 1), 2)) := ⟨_, _, _, rfl, rfl, rfl, by decide, by decide +kernel, jt_g 324 (by decide +kernel) rfl, jt_g 325 (by decide +kernel) rfl, jt_g 326 (by decide +kernel) rfl, rfl⟩
theorem jt_V_ok_40 : jt_VP ((2, 36), ((2, 36, 2), 2)) := ⟨_, _, _, rfl, rfl, rfl, by decide, by decide +kernel, jt_g 328 (by decide +kernel) rfl, jt_g 281 (by decide +kernel) rfl, jt_g 282 (by decide +kernel) rfl, rfl⟩
theorem jt_V_ok_41 : jt_VP ((6, 76), ((2, 48, 2), 0)) := ⟨_, _, _, rfl, rfl, rfl, by decide, by decide +kernel, jt_g 329 (by decide +kernel) rfl, jt_g 330 (by decide +kernel) rfl, jt_g 331 (by decide +kernel) rfl, rfl⟩
theorem jt_V_ok_42 : jt_VP ((0, 206), ((2, 49, 3), 0)) := ⟨_, _, _, rfl, rfl, rfl, by decide, by decide +kernel, jt_g 333 (by decide +kernel) rfl, jt_g 335 (by decide +kernel) rfl, jt_s 20 (by decide +kernel) rfl, rfl⟩
theorem jt_V_ok_43 : jt_VP ((0, 245), ((2, 29, 4), 0)) := ⟨_, _, _, rfl, rfl, rfl, by decide, by decide +kernel, jt_g 337 (by decide +kernel) rfl, jt_g 253 (by decide +kernel) rfl, jt_g 254 (by decide +kernel) rfl, rfl⟩
theorem jt_V_ok_44 : jt_VP ((0, 250), ((2, 51, 3), 0)) := ⟨_, _, _, rfl, rfl, rfl, by decide, by decide +kernel, jt_g 341 (by decide +kernel) rfl, jt_g 343 (by decide +kernel) rfl, jt_s 21 (by decide +kernel) rfl, rfl⟩
theorem jt_V_ok_45 : jt_VP ((0, 267), ((2, 44, 4), 0)) := ⟨_, _, _, rfl, rfl, rfl, by decide, by decide +kernel, jt_g 345 (by decide +kernel) rfl, jt_g 313 (by decide +kernel) rfl, jt_g 314 (by decide +kernel) rfl, rfl⟩
theorem jt_V_ok_46 : jt_VP ((0, 254), ((2, 52, 5), 0)) := ⟨_, _, _, rfl, rfl, rfl, by decide, by decide +kernel, jt_g 346 (by decide +kernel) rfl, jt_g 348 (by decide +kernel) rfl, jt_s 22 (by decide +kernel) rfl, rfl⟩
theorem jt_V_ok_47 : jt_VP ((0, 258), ((2, 32, 4), 0)) := ⟨_, _, _, rfl, rfl, rfl, by decide, by decide +kernel, jt_g 350 (by decide +kernel) rfl, jt_g 265 (by decide +kernel) rfl, jt_g 266 (by decide +kernel) rfl, rfl⟩
theorem jt_V_ok_48 : jt_VP ((0, 261), ((2, 39, 4), 0)) := ⟨_, _, _, rfl, rfl, rfl, by decide, by decide +kernel, jt_g 351 (by decide +kernel) rfl, jt_g 293 (by decide +kernel) rfl, jt_g 294 (by decide +kernel) rfl, rfl⟩
theorem jt_V_ok_49 : jt_VP ((0, 264), ((2, 40, 4), 0)) := ⟨_, _, _, rfl, rfl, rfl, by decide, by decide +kernel, jt_g 352 (by decide +kernel) rfl, jt_g 297 (by decide +kernel) rfl, jt_g 298 (by decide +kernel) rfl, rfl⟩
theorem jt_V_ok_50 : jt_VP ((6, 80), ((2, 53, 2), 0)) := ⟨_, _, _, rfl, rfl, rfl, by decide, by decide +kernel, jt_g 353 (by decide +kernel) rfl, jt_g 354 (by decide +kernel) rfl, jt_g 355 (by decide +kernel) rfl, rfl⟩
theorem jt_V_ok_51 : jt_VP ((6, 84), ((2, 54, 3), 0)) := ⟨_, _, _, rfl, rfl, rfl, by decide, by decide +kernel, jt_g 357 (by decide +kernel) rfl, jt_g 358 (by decide +kernel) rfl, jt_g 359 (by decide +kernel) rfl, rfl⟩
theorem jt_V_ok_52 : jt_VP ((6, 88), ((2, 55, 3), 0)) := ⟨_, _, _, rfl, rfl, rfl, by decide, by decide +kernel, jt_g 361 (by decide +kernel) rfl, jt_g 362 (by decide +kernel) rfl, jt_g 363 (by decide +kernel) rfl, rfl⟩
theorem jt_V_ok_53 : jt_VP ((0, 209), ((2, 56, 2), 2)) := ⟨_, _, _, rfl, rfl, rfl, by decide, by decide +kernel, jt_g 365 (by decide +kernel) rfl, jt_g 366 (by decide +kernel) rfl, jt_g 367 (by decide +kernel) rfl, rfl⟩
theorem jt_V_ok_54 : jt_VP ((2, 40), ((2, 57, 1), 2)) := ⟨_, _, _, rfl, rfl, rfl, by decide, by decide +kernel, jt_g 369 (by decide +kernel) rfl, jt_g 370 (by decide +kernel) rfl, jt_g 371 (by decide +kernel) rfl, rfl⟩
theorem jt_V_ok_55 : jt_VP ((6, 92), ((2, 58, 3), 0)) := ⟨_, _, _, rfl, rfl, rfl, by decide, by decide +kernel, jt_g 373 (by decide +kernel) rfl, jt_g 374 (by decide +kernel) rfl, jt_g 375 (by decide +kernel) rfl, rfl⟩
theorem jt_V_ok_56 : jt_VP ((0, 212), ((2, 59, 1), 3)) := ⟨_, _, _, rfl, rfl, rfl, by decide, by decide +kernel, jt_g 377 (by decide +kernel) rfl, jt_g 378 (by decide +kernel) rfl, jt_g 379 (by decide +kernel) rfl, rfl⟩
theorem jt_V_ok_57 : jt_VP ((0, 215), ((2, 60, 2), 3)) := ⟨_, _, _, rfl, rfl, rfl, by decide, by decide +kernel, jt_g 381 (by decide +kernel) rfl, jt_g 382 (by decide +kernel) rfl, jt_g 383 (by decide +kernel) rfl, rfl⟩
theorem jt_V_ok_58 : jt_VP ((6, 96), ((2, 61, 7), 0)) := ⟨_, _, _, rfl, rfl, rfl, by decide, by decide +kernel, jt_g 385 (by decide +kernel) rfl, jt_g 386 (by decide +kernel) rfl, jt_g 387 (by decide +kernel) rfl, rfl⟩
theorem jt_V_ok_59 : jt_VP ((6, 101), ((2, 63, 1), 0)) := ⟨_, _, _, rfl, rfl, rfl, by decide, by decide +kernel, jt_g 393 (by decide +kernel) rfl, jt_g 394 (by decide +kernel) rfl, jt_g 395 (by decide +kernel) rfl, rfl⟩
theorem jt_V_ok_60 : jt_VP ((0, 220), ((2, 64, 1), 2)) := ⟨_, _, _, rfl, rfl, rfl, by decide, by decide +kernel, jt_g 397 (by decide +kernel) rfl, jt_g 398 (by decide +kernel) rfl, jt_g 399 (by decide +kernel) rfl, rfl⟩
theorem jt_V_ok_61 : jt_VP ((6, 25), ((2, 67, 3), 5)) := ⟨_, _, _, rfl, rfl, rfl, by decide, by decide +kernel, jt_g 502 (by decide +kernel) rfl, jt_g 503 (by decide +kernel) rfl, jt_g 504 (by decide +kernel) rfl, rfl⟩
theorem jt_V_ok_62 : jt_VP ((5, 123), ((2, 69, 2), 5)) := ⟨_, _, _, rfl, rfl, rfl, by decide, by decide +kernel, jt_g 509 (by decide +kernel) rfl, jt_g 511 (by decide +kernel) rfl, jt_s 23 (by decide +kernel) rfl, rfl⟩
theorem jt_V_ok_63 : jt_VP ((6, 30), ((2, 70, 4), 5)) := ⟨_, _, _, rfl, rfl, rfl, by decide, by decide +kernel, jt_g 513 (by decide +kernel) rfl, jt_g 514 (by decide +kernel) rfl, jt_g 515 (by decide +kernel) rfl, rfl⟩
theorem jt_V_ok_64 : jt_VP ((5, 127), ((2, 71, 2), 5)) := ⟨_, _, _, rfl, rfl, rfl, by decide, by decide +kernel, jt_g 517 (by decide +kernel) rfl, jt_g 519 (by decide +kernel) rfl, jt_s 24 (by decide +kernel) rfl, rfl⟩
theorem jt_V_ok_65 : jt_VP ((5, 108), ((2, 72, 5), 5)) := ⟨_, _, _, rfl, rfl, rfl, by decide, by decide +kernel, jt_g 521 (by decide +kernel) rfl, jt_g 523 (by decide +kernel) rfl, jt_s 25 (by decide +kernel) rfl, rfl⟩
theorem jt_V_ok_66 : jt_VP ((5, 130), ((2, 74, 6), 5)) := ⟨_, _, _, rfl, rfl, rfl, by decide, by decide +kernel, jt_g 529 (by decide +kernel) rfl, jt_g 531 (by decide +kernel) rfl, jt_s 26 (by decide +kernel) rfl, rfl⟩
theorem jt_V_ok_67 : jt_VP ((6, 35), ((2, 75, 6), 5)) := ⟨_, _, _, rfl, rfl, rfl, by decide, by decide +kernel, jt_g 533 (by decide +kernel) rfl, jt_g 534 (by decide +kernel) rfl, jt_g 535 (by decide +kernel) rfl, rfl⟩
theorem jt_V_ok_68 : jt_VP ((6, 40), ((2, 76, 3), 5)) := ⟨_, _, _, rfl, rfl, rfl, by decide, by decide +kernel, jt_g 537 (by decide +kernel) rfl, jt_g 538 (by decide +kernel) rfl, jt_g 539 (by decide +kernel) rfl, rfl⟩
theorem jt_V_ok_69 : jt_VP ((5, 138), ((2, 77, 2), 5)) := ⟨_, _, _, rfl, rfl, rfl, by decide, by decide +kernel, jt_g 541 (by decide +kernel) rfl, jt_g 543 (by decide +kernel) rfl, jt_s 27 (by decide +kernel) rfl, rfl⟩
theorem jt_V_ok_70 : jt_VP ((5, 134), ((2, 78, 2), 5)) := ⟨_, _, _, rfl, rfl, rfl, by decide, by decide +kernel, jt_g 545 (by decide +kernel) rfl, jt_g 547 (by decide +kernel) rfl, jt_s 28 (by decide +kernel) rfl, rfl⟩
theorem jt_V_ok_71 : jt_VP ((6, 45), ((2, 79, 2), 5)) := ⟨_, _, _, rfl, rfl, rfl, by decide, by decide +kernel, jt_g 549 (by decide +kernel) rfl, jt_g 550 (by decide +kernel) rfl, jt_g 551 (by decide +kernel) rfl, rfl⟩
theorem jt_V_ok_72 : jt_VP ((5, 104), ((2, 80, 2), 5)) := ⟨_, _, _, rfl, rfl, rfl, by decide, by decide +kernel, jt_g 553 (by decide +kernel) rfl, jt_g 555 (by decide +kernel) rfl, jt_s 29 (by decide +kernel) rfl, rfl⟩
theorem jt_V_ok_73 : jt_VP ((6, 49), ((2, 81, 3), 5)) := ⟨_, _, _, rfl, rfl, rfl, by decide, by decide +kernel, jt_g 557 (by decide +kernel) rfl, jt_g 558 (by decide +kernel) rfl, jt_g 559 (by decide +kernel) rfl, rfl⟩
theorem jt_V_ok_74 : jt_VP ((5, 141), ((2, 82, 2), 5)) := ⟨_, _, _, rfl, rfl, rfl, by decide, by decide +kernel, jt_g 561 (by decide +kernel) rfl, jt_g 563 (by decide +kernel) rfl, jt_s 30 (by decide +kernel) rfl, rfl⟩
theorem jt_V_ok_75 : jt_VP ((5, 116), ((2, 83, 4), 5)) := ⟨_, _, _, rfl, rfl, rfl, by decide, by decide +kernel, jt_g 565 (by decide +kernel) rfl, jt_g 567 (by decide +kernel) rfl, jt_s 31 (by decide +kernel) rfl, rfl⟩
theorem jt_V_ok_76 : jt_VP ((5, 112), ((2, 84, 3), 5)) := ⟨_, _, _, rfl, rfl, rfl, by decide, by decide +kernel, jt_g 569 (by decide +kernel) rfl, jt_g 571 (by decide +kernel) rfl, jt_s 32 (by decide +kernel) rfl, rfl⟩
theorem jt_V_ok_77 : jt_VP ((6, 54), ((2, 85, 4), 5)) := ⟨_, _, _, rfl, rfl, rfl, by decide, by decide +kernel, jt_g 573 (by decide +kernel) rfl, jt_g 574 (by decide +kernel) rfl, jt_g 575 (by decide +kernel) rfl, rfl⟩
theorem jt_V_ok_78 : jt_VP ((6, 58), ((2, 86, 4), 5)) := ⟨_, _, _, rfl, rfl, rfl, by decide, by decide +kernel, jt_g 577 (by decide +kernel) rfl, jt_g 578 (by decide +kernel) rfl, jt_g 579 (by decide +kernel) rfl, rfl⟩
theorem jt_V_ok_79 : jt_VP ((5, 147), ((2, 87, 4), 5)) := ⟨_, _, _, rfl, rfl, rfl, by decide, by decide +kernel, jt_g 581 (by decide +kernel) rfl, jt_g 583 (by decide +kernel) rfl, jt_s 33 (by decide +kernel) rfl, rfl⟩
theorem jt_V_ok_80 : jt_VP ((5, 150), ((2, 88, 3), 5)) := ⟨_, _, _, rfl, rfl, rfl, by decide, by decide +kernel, jt_g 585 (by decide +kernel) rfl, jt_g 587 (by decide +kernel) rfl, jt_s 34 (by decide +kernel) rfl, rfl⟩
theorem jt_V_ok_81 : jt_VP ((6, 62), ((2, 89, 4), 5)) := ⟨_, _, _, rfl, rfl, rfl, by decide, by decide +kernel, jt_g 589 (by decide +kernel) rfl, jt_g 590 (by decide +kernel) rfl, jt_g 591 (by decide +kernel) rfl, rfl⟩
theorem jt_V_ok_82 : jt_VP ((6, 66), ((2, 90, 4), 5)) := ⟨_, _, _, rfl, rfl, rfl, by decide, by decide +kernel, jt_g 593 (by decide +kernel) rfl, jt_g 594 (by decide +kernel) rfl, jt_g 595 (by decide +kernel) rfl, rfl⟩
theorem jt_V_ok_83 : jt_VP ((6, 70), ((2, 91, 4), 5)) := ⟨_, _, _, rfl, rfl, rfl, by decide, by decide +kernel, jt_g 597 (by decide +kernel) rfl, jt_g 598 (by decide +kernel) rfl, jt_g 599 (by decide +kernel) rfl, rfl⟩
theorem jt_V_ok_84 : jt_VP ((6, 75), ((2, 92, 2), 5)) := ⟨_, _, _, rfl, rfl, rfl, by decide, by decide +kernel, jt_g 601 (by decide +kernel) rfl, jt_g 602 (by decide +kernel) rfl, jt_g 603 (by decide +kernel) rfl, rfl⟩
theorem jt_V_ok_85 : jt_VP ((6, 79), ((2, 93, 2), 5)) := ⟨_, _, _, rfl, rfl, rfl, by decide, by decide +kernel, jt_g 605 (by decide +kernel) rfl, jt_g 606 (by decide +kernel) rfl, jt_g 607 (by decide +kernel) rfl, rfl⟩
theorem jt_V_ok_86 : jt_VP ((5, 176), ((2, 94, 4), 5)) := ⟨_, _, _, rfl, rfl, rfl, by decide, by decide +kernel, jt_g 609 (by decide +kernel) rfl, jt_g 611 (by decide +kernel) rfl, jt_s 35 (by decide +kernel) rfl, rfl⟩
theorem jt_V_ok_87 : jt_VP ((5, 154), ((2, 95, 2), 5)) := ⟨_, _, _, rfl, rfl, rfl, by decide, by decide +kernel, jt_g 613 (by decide +kernel) rfl, jt_g 615 (by decide +kernel) rfl, jt_s 36 (by decide +kernel) rfl, rfl⟩
theorem jt_V_ok_88 : jt_VP ((5, 157), ((2, 85, 4), 5)) := ⟨_, _, _, rfl, rfl, rfl, by decide, by decide +kernel, jt_g 617 (by decide +kernel) rfl, jt_g 574 (by decide +kernel) rfl, jt_g 575 (by decide +kernel) rfl, rfl⟩
theorem jt_V_ok_89 : jt_VP ((5, 160), ((2, 96, 3), 5)) := ⟨_, _, _, rfl, rfl, rfl, by decide, by decide +kernel, jt_g 618 (by decide +kernel) rfl, jt_g 620 (by decide +kernel) rfl, jt_s 37 (by decide +kernel) rfl, rfl⟩
theorem jt_V_ok_90 : jt_VP ((5, 164), ((2, 91, 4), 5)) := ⟨_, _, _, rfl, rfl, rfl, by decide, by decide +kernel, jt_g 622 (by decide +kernel) rfl, jt_g 598 (by decide +kernel) rfl, jt_g 599 (by decide +kernel) rfl, rfl⟩
theorem jt_V_ok_91 : jt_VP ((5, 167), ((2, 86, 4), 5)) := ⟨_, _, _, rfl, rfl, rfl, by decide, by decide +kernel, jt_g 623 (by decide +kernel) rfl, jt_g 578 (by decide +kernel) rfl, jt_g 579 (by decide +kernel) rfl, rfl⟩
theorem jt_V_ok_92 : jt_VP ((5, 170), ((2, 89, 4), 5)) := ⟨_, _, _, rfl, rfl, rfl, by decide, by decide +kernel, jt_g 624 (by decide +kernel) rfl, jt_g 590 (by decide +kernel) rfl, jt_g 591 (by decide +kernel) rfl, rfl⟩
theorem jt_V_ok_93 : jt_VP ((5, 173), ((2, 90, 4), 5)) := ⟨_, _, _, rfl, rfl, rfl, by decide, by decide +kernel, jt_g 625 (by decide +kernel) rfl, jt_g 594 (by decide +kernel) rfl, jt_g 595 (by decide +kernel) rfl, rfl⟩
theorem jt_V_ok_94 : jt_VP ((6, 83), ((2, 97, 2), 5)) := ⟨_, _, _, rfl, rfl, rfl, by decide, by decide +kernel, jt_g 626 (by decide +kernel) rfl, jt_g 627 (by decide +kernel) rfl, jt_g 628 (by decide +kernel) rfl, rfl⟩
theorem jt_V_ok_95 : jt_VP ((6, 87), ((2, 98, 3), 5)) := ⟨_, _, _, rfl, rfl, rfl, by decide, by decide +kernel, jt_g 630 (by decide +kernel) rfl, jt_g 631 (by decide +kernel) rfl, jt_g 632 (by decide +kernel) rfl, rfl⟩
theorem jt_V_ok_96 : jt_VP ((6, 91), ((2, 99, 3), 5)) := ⟨_, _, _, rfl, rfl, rfl, by decide, by decide +kernel, jt_g 634 (by decide +kernel) rfl, jt_g 635 (by decide +kernel) rfl, jt_g 636 (by decide +kernel) rfl, rfl⟩
theorem jt_V_ok_97 : jt_VP ((5, 179), ((2, 100, 2), 5)) := ⟨_, _, _, rfl, rfl, rfl, by decide, by decide +kernel, jt_g 638 (by decide +kernel) rfl, jt_g 640 (by decide +kernel) rfl, jt_s 38 (by decide +kernel) rfl, rfl⟩
theorem jt_V_ok_98 : jt_VP ((6, 95), ((2, 101, 3), 5)) := ⟨_, _, _, rfl, rfl, rfl, by decide, by decide +kernel, jt_g 642 (by decide +kernel) rfl, jt_g 643 (by decide +kernel) rfl, jt_g 644 (by decide +kernel) rfl, rfl⟩
theorem jt_V_ok_99 : jt_VP ((5, 188), ((2, 102, 3), 5)) := ⟨_, _, _, rfl, rfl, rfl, by decide, by decide +kernel, jt_g 646 (by decide +kernel) rfl, jt_g 648 (by decide +kernel) rfl, jt_s 39 (by decide +kernel) rfl, rfl⟩
theorem jt_V_ok_100 : jt_VP ((5, 182), ((2, 103, 3), 5)) := ⟨_, _, _, rfl, rfl, rfl, by decide, by decide +kernel, jt_g 650 (by decide +kernel) rfl, jt_g 652 (by decide +kernel) rfl, jt_s 40 (by decide +kernel) rfl, rfl⟩
theorem jt_V_ok_101 : jt_VP ((6, 100), ((2, 105, 7), 5)) := ⟨_, _, _, rfl, rfl, rfl, by decide, by decide +kernel, jt_g 657 (by decide +kernel) rfl, jt_g 658 (by decide +kernel) rfl, jt_g 659 (by decide +kernel) rfl, rfl⟩
theorem jt_V_ok_102 : jt_VP ((6, 105), ((2, 106, 1), 5)) := ⟨_, _, _, rfl, rfl, rfl, by decide, by decide +kernel, jt_g 661 (by decide +kernel) rfl, jt_g 662 (by decide +kernel) rfl, jt_g 663 (by decide +kernel) rfl, rfl⟩
theorem jt_V_ok : ∀ e ∈ jt_V, jt_VP e := List.forall_mem_cons.mpr ⟨jt_V_ok_0, List.forall_mem_cons.mpr ⟨jt_V_ok_1, List.forall_mem_cons.mpr ⟨jt_V_ok_2, List.forall_mem_cons.mpr ⟨jt_V_ok_3, List.forall_mem_cons.mpr ⟨jt_V_ok_4, List.forall_mem_cons.mpr ⟨jt_V_ok_5, List.forall_mem_cons.mpr ⟨jt_V_ok_6, List.forall_mem_cons.mpr ⟨jt_V_ok_7, List.forall_mem_cons.mpr ⟨jt_V_ok_8, List.forall_mem_cons.mpr ⟨jt_V_ok_9, List.forall_mem_cons.mpr ⟨jt_V_ok_10, List.forall_mem_cons.mpr ⟨jt_V_ok_11, List.forall_mem_cons.mpr ⟨jt_V_ok_12, List.forall_mem_cons.mpr ⟨jt_V_ok_13, List.forall_mem_cons.mpr ⟨jt_V_ok_14, List.forall_mem_cons.mpr ⟨jt_V_ok_15, List.forall_mem_cons.mpr ⟨jt_V_ok_16, List.forall_mem_cons.mpr ⟨jt_V_ok_17, List.forall_mem_cons.mpr ⟨jt_V_ok_18, List.forall_mem_cons.mpr ⟨jt_V_ok_19, List.forall_mem_cons.mpr ⟨jt_V_ok_20, List.forall_mem_cons.mpr ⟨jt_V_ok_21, List.forall_mem_cons.mpr ⟨jt_V_ok_22, List.forall_mem_cons.mpr ⟨jt_V_ok_23, List.forall_mem_cons.mpr ⟨jt_V_ok_24, List.forall_mem_cons.mpr ⟨jt_V_ok_25, List.forall_mem_cons.mpr ⟨jt_V_ok_26, List.forall_mem_cons.mpr ⟨jt_V_ok_27, List.forall_mem_cons.mpr ⟨jt_V_ok_28, List.forall_mem_cons.mpr ⟨jt_V_ok_29, List.forall_mem_cons.mpr ⟨jt_V_ok_30, List.forall_mem_cons.mpr ⟨jt_V_ok_31, List.forall_mem_cons.mpr ⟨jt_V_ok_32, List.forall_mem_cons.mpr ⟨jt_V_ok_33, List.forall_mem_cons.mpr ⟨jt_V_ok_34, List.forall_mem_cons.mpr ⟨jt_V_ok_35, List.forall_mem_cons.mpr ⟨jt_V_ok_36, List.forall_mem_cons.mpr ⟨jt_V_ok_37, List.forall_mem_cons.mpr ⟨jt_V_ok_38, List.forall_mem_cons.mpr ⟨jt_V_ok_39, List.forall_mem_cons.mpr ⟨jt_V_ok_40, List.forall_mem_cons.mpr ⟨jt_V_ok_41, List.forall_mem_cons.mpr ⟨jt_V_ok_42, List.forall_mem_cons.mpr ⟨jt_V_ok_43, List.forall_mem_cons.mpr ⟨jt_V_ok_44, List.forall_mem_cons.mpr ⟨jt_V_ok_45, List.forall_mem_cons.mpr ⟨jt_V_ok_46, List.forall_mem_cons.mpr ⟨jt_V_ok_47, List.forall_mem_cons.mpr ⟨jt_V_ok_48, List.forall_mem_cons.mpr ⟨jt_V_ok_49, List.forall_mem_cons.mpr ⟨jt_V_ok_50, List.forall_mem_cons.mpr ⟨jt_V_ok_51, List.forall_mem_cons.mpr ⟨jt_V_ok_52, List.forall_mem_cons.mpr ⟨jt_V_ok_53, List.forall_mem_cons.mpr ⟨jt_V_ok_54, List.forall_mem_cons.mpr ⟨jt_V_ok_55, List.forall_mem_cons.mpr ⟨jt_V_ok_56, List.forall_mem_cons.mpr ⟨jt_V_ok_57, List.forall_mem_cons.mpr ⟨jt_V_ok_58, List.forall_mem_cons.mpr ⟨jt_V_ok_59, List.forall_mem_cons.mpr ⟨jt_V_ok_60, List.forall_mem_cons.mpr ⟨jt_V_ok_61, List.forall_mem_cons.mpr ⟨jt_V_ok_62, List.forall_mem_cons.mpr ⟨jt_V_ok_63, List.forall_mem_cons.mpr ⟨jt_V_ok_64, List.forall_mem_cons.mpr ⟨jt_V_ok_65, List.forall_mem_cons.mpr ⟨jt_V_ok_66, List.forall_mem_cons.mpr ⟨jt_V_ok_67, List.forall_mem_cons.mpr ⟨jt_V_ok_68, List.forall_mem_cons.mpr ⟨jt_V_ok_69, List.forall_mem_cons.mpr ⟨jt_V_ok_70, List.forall_mem_cons.mpr ⟨jt_V_ok_71, List.forall_mem_cons.mpr ⟨jt_V_ok_72, List.forall_mem_cons.mpr ⟨jt_V_ok_73, List.forall_mem_cons.mpr ⟨jt_V_ok_74, List.forall_mem_cons.mpr ⟨jt_V_ok_75, List.forall_mem_cons.mpr ⟨jt_V_ok_76, List.forall_mem_cons.mpr ⟨jt_V_ok_77, List.forall_mem_cons.mpr ⟨jt_V_ok_78, List.forall_mem_cons.mpr ⟨jt_V_ok_79, List.forall_mem_cons.mpr ⟨jt_V_ok_80, List.forall_mem_cons.mpr ⟨jt_V_ok_81, List.forall_mem_cons.mpr ⟨jt_V_ok_82, List.forall_mem_cons.mpr ⟨jt_V_ok_83, List.forall_mem_cons.mpr ⟨jt_V_ok_84, List.forall_mem_cons.mpr ⟨jt_V_ok_85, List.forall_mem_cons.mpr ⟨jt_V_ok_86, List.forall_mem_cons.mpr ⟨jt_V_ok_87, List.forall_mem_cons.mpr ⟨jt_V_ok_88, List.forall_mem_cons.mpr ⟨jt_V_ok_89, List.forall_mem_cons.mpr ⟨jt_V_ok_90, List.forall_mem_cons.mpr ⟨jt_V_ok_91, List.forall_mem_cons.mpr ⟨jt_V_ok_92, List.forall_mem_cons.mpr ⟨jt_V_ok_93, List.forall_mem_cons.mpr ⟨jt_V_ok_94, List.forall_mem_cons.mpr ⟨jt_V_ok_95, List.forall_mem_cons.mpr ⟨jt_V_ok_96, List.forall_mem_cons.mpr ⟨jt_V_ok_97, List.forall_mem_cons.mpr ⟨jt_V_ok_98, List.forall_mem_cons.mpr ⟨jt_V_ok_99, List.forall_mem_cons.mpr ⟨jt_V_ok_100, List.forall_mem_cons.mpr ⟨jt_V_ok_101, List.forall_mem_cons.mpr ⟨jt_V_ok_102, fun _ h => absurd h List.not_mem_nil⟩⟩⟩⟩⟩⟩⟩⟩⟩⟩⟩⟩⟩⟩⟩⟩⟩⟩⟩⟩⟩⟩⟩⟩⟩⟩⟩⟩⟩⟩⟩⟩⟩⟩⟩⟩⟩⟩⟩⟩⟩⟩⟩⟩⟩⟩⟩⟩⟩⟩⟩⟩⟩⟩⟩⟩⟩⟩⟩⟩⟩⟩⟩⟩⟩⟩⟩⟩⟩⟩⟩⟩⟩⟩⟩⟩⟩⟩⟩⟩⟩⟩⟩⟩⟩⟩⟩⟩⟩⟩⟩⟩⟩⟩⟩⟩⟩⟩⟩⟩⟩⟩⟩
def jt_NQ (c k : Nat) (q : Nat × Nat × Nat) : Prop := ∃ (y : MethodName) (X : jx_X) (n : Nat), jt_M q.2.1 = some (y, X, n + 1) ∧ q.2.2 = n + 1 ∧ y.name = "<init>" ∧ X.2.2.2.1 = none ∧ (parseMethodDescriptor y.desc).map (fun d => d.parameters.length) = some n ∧ Cond.instanceMethod y ∈ jt_G ∧ ((q.1 = 3 ∧ Cond.methodLink (jt_cn c) k y ∈ jt_G) ∨ (q.1 = 4 ∧ ∃ h, Cond.methodLinkNest (jt_cn c) k y h ∈ jt_nw))
def jt_NP (e : (Nat × Nat) × Option (Nat × Nat × Nat)) : Prop := match e.2 with
  | none => Cond.methodLink (jt_cn e.1.1) e.1.2 Lib.objectInit ∈ jt_G
  | some q => jt_NQ e.1.1 e.1.2 q
theorem jt_N_ok_0 : jt_NP ((6, 15), some (3, 0, 3)) := ⟨_, _, _, rfl, rfl, rfl, rfl, by decide +kernel, jt_g 11 (by decide +kernel) rfl, Or.inl ⟨rfl, jt_g 10 (by decide +kernel) rfl⟩⟩
theorem jt_N_ok_1 : jt_NP ((0, 1), none) := jt_g 13 (by decide +kernel) rfl
theorem jt_N_ok_2 : jt_NP ((0, 63), some (3, 3, 2)) := ⟨_, _, _, rfl, rfl, rfl, rfl, by decide +kernel, jt_g 72 (by decide +kernel) rfl, Or.inl ⟨rfl, jt_g 71 (by decide +kernel) rfl⟩⟩
theorem jt_N_ok_3 : jt_NP ((1, 1), none) := jt_g 74 (by decide +kernel) rfl
theorem jt_N_ok_4 : jt_NP ((2, 3), none) := jt_g 80 (by decide +kernel) rfl
theorem jt_N_ok_5 : jt_NP ((0, 70), some (3, 6, 2)) := ⟨_, _, _, rfl, rfl, rfl, rfl, by decide +kernel, jt_g 123 (by decide +kernel) rfl, Or.inl ⟨rfl, jt_g 122 (by decide +kernel) rfl⟩⟩
theorem jt_N_ok_6 : jt_NP ((3, 3), none) := jt_g 125 (by decide +kernel) rfl
theorem jt_N_ok_7 : jt_NP ((0, 80), some (3, 8, 7)) := ⟨_, _, _, rfl, rfl, rfl, rfl, by decide +kernel, jt_g 145 (by decide +kernel) rfl, Or.inl ⟨rfl, jt_g 144 (by decide +kernel) rfl⟩⟩
theorem jt_N_ok_8 : jt_NP ((4, 1), none) := jt_g 147 (by decide +kernel) rfl
theorem jt_N_ok_9 : jt_NP ((6, 20), some (3, 66, 3)) := ⟨_, _, _, rfl, rfl, rfl, rfl, by decide +kernel, jt_g 407 (by decide +kernel) rfl, Or.inl ⟨rfl, jt_g 406 (by decide +kernel) rfl⟩⟩
theorem jt_N_ok_10 : jt_NP ((5, 1), none) := jt_g 409 (by decide +kernel) rfl
theorem jt_N_ok_11 : jt_NP ((1, 9), some (4, 4, 1)) := ⟨_, _, _, rfl, rfl, rfl, rfl, by decide +kernel, jt_g 78 (by decide +kernel) rfl, Or.inr ⟨rfl, _, List.mem_of_getElem? (i := 0) rfl⟩⟩
theorem jt_N_ok : ∀ e ∈ jt_N, jt_NP e := List.forall_mem_cons.mpr ⟨jt_N_ok_0, List.forall_mem_cons.mpr ⟨jt_N_ok_1, List.forall_mem_cons.mpr ⟨jt_N_ok_2, List.forall_mem_cons.mpr ⟨jt_N_ok_3, List.forall_mem_cons.mpr ⟨jt_N_ok_4, List.forall_mem_cons.mpr ⟨jt_N_ok_5, List.forall_mem_cons.mpr ⟨jt_N_ok_6, List.forall_mem_cons.mpr ⟨jt_N_ok_7, List.forall_mem_cons.mpr ⟨jt_N_ok_8, List.forall_mem_cons.mpr ⟨jt_N_ok_9, List.forall_mem_cons.mpr ⟨jt_N_ok_10, List.forall_mem_cons.mpr ⟨jt_N_ok_11, fun _ h => absurd h List.not_mem_nil⟩⟩⟩⟩⟩⟩⟩⟩⟩⟩⟩⟩
theorem jt_mv_ok {c k ci : Nat} {q : Nat × Nat × Nat} (h : jt_mv c k = some (q, ci)) : jt_VP ((c, k), (q, ci)) := jt_V_ok _ (jt_look h)
theorem jt_mi_ok {c k : Nat} {q : Nat × Nat × Nat} (h : jt_mi c k = some (some q)) : jt_NQ c k q := jt_N_ok _ (jt_look h)
theorem jt_mi_o {c k : Nat} (h : jt_mi c k = some none) : Cond.methodLink (jt_cn c) k Lib.objectInit ∈ jt_G := jt_N_ok _ (jt_look h)
theorem jt_ms_l {c k : Nat} {q : Nat × Nat × Nat} (h : jt_ms c k = some (.inl q)) : jt_SP ((c, k), q) := by
  unfold jt_ms at h
  split at h
  · rename_i q0 h0
    cases h
    exact jt_S_ok _ (jt_look h0)
  · cases hx : jt_SX.lookup (c, k) with
    | none => rw [hx] at h; cases h
    | some b => rw [hx] at h; cases h
theorem jt_obj : Cond.instanceMethod Lib.objectInit ∈ jt_G ∧ Cond.code Lib.objectInit ⟨#[0xb1]⟩ 1 none ∈ jt_G := ⟨jt_g 14 (by decide +kernel) rfl, jt_g 15 (by decide +kernel) rfl⟩
theorem jt_max : Cond.static Lib.Math.max.name ∈ jt_G ∧ Cond.initialized "java/lang/Math" ∈ jt_G ∧ Cond.code Lib.Math.max.name Lib.Math.max.code 2 (some .int) ∈ jt_G := ⟨jt_g 26 (by decide +kernel) rfl, jt_g 2 (by decide +kernel) rfl, jt_g 27 (by decide +kernel) rfl⟩
theorem jt_min : Cond.static Lib.Math.min.name ∈ jt_G ∧ Cond.code Lib.Math.min.name Lib.Math.min.code 2 (some .int) ∈ jt_G := ⟨jt_g 23 (by decide +kernel) rfl, jt_g 24 (by decide +kernel) rfl⟩
def jt_XP (e : (Nat × Nat) × Bool) : Prop := Cond.methodLink (jt_cn e.1.1) e.1.2 (if e.2 = true then Lib.Math.max.name else Lib.Math.min.name) ∈ jt_G
theorem jt_X_ok_0 : jt_XP ((0, 41), false) := jt_g 22 (by decide +kernel) rfl
theorem jt_X_ok_1 : jt_XP ((0, 47), true) := jt_g 25 (by decide +kernel) rfl
theorem jt_X_ok : ∀ e ∈ jt_SX, jt_XP e := List.forall_mem_cons.mpr ⟨jt_X_ok_0, List.forall_mem_cons.mpr ⟨jt_X_ok_1, fun _ h => absurd h List.not_mem_nil⟩⟩
theorem jt_ms_r {c k : Nat} {b : Bool} (h : jt_ms c k = some (.inr b)) : Cond.methodLink (jt_cn c) k (if b = true then Lib.Math.max.name else Lib.Math.min.name) ∈ jt_G := by
  unfold jt_ms at h
  split at h
  · cases h
  · cases hx : jt_SX.lookup (c, k) with
    | none => rw [hx] at h; cases h
    | some b0 => rw [hx] at h; cases h; exact jt_X_ok _ (jt_look hx)
def jt_nk : Nat := 5
def jt_el (t : Nat) : Option Nat := match t with
  | 2 => some 1
  | 3 => some 3
  | 4 => some 4
  | _ => none
def jt_tys (kA : Nat → ClassId) : List (ClassId × FieldType) := [(kA 0, .int), (kA 1, .boolean), (kA 2, .object "CoinChild$Coin"), (kA 3, .object "CoinChild$Block"), (kA 4, .object "CoinChild$Entry")]
def jt_ao : List String := ["CoinChild$Coin", "CoinChild$Block", "CoinChild$Entry"]
theorem jt_ao_in : ∀ C ∈ jt_ao, Cond.arrayOver (.object C) ∈ lw_tbl := List.forall_mem_cons.mpr ⟨jt_in 17 (by decide +kernel), List.forall_mem_cons.mpr ⟨jt_in 19 (by decide +kernel), List.forall_mem_cons.mpr ⟨jt_in 21 (by decide +kernel), fun _ h => absurd h List.not_mem_nil⟩⟩⟩
theorem jt_ac : Cond.arrayClass .int ∈ jt_G ∧ Cond.arrayClass .boolean ∈ jt_G := ⟨jt_g 62 (by decide +kernel) rfl, jt_g 501 (by decide +kernel) rfl⟩
def jt_na (ty : ArrayType) : Option Nat := match ty with
  | .int => some 0
  | .boolean => some 1
  | _ => none
def jt_L : List ((Nat × Nat) × Nat) := [((6, 7), 0), ((0, 16), 1), ((0, 22), 3), ((0, 28), 4), ((1, 7), 2), ((3, 9), 4), ((6, 18), 5)]
def jt_LP (e : (Nat × Nat) × Nat) : Prop := Cond.classLink (jt_cn e.1.1) e.1.2 (jt_cn e.2) ∈ jt_G ∧ e.2 < 6
theorem jt_L_ok_0 : jt_LP ((6, 7), 0) := ⟨jt_g 8 (by decide +kernel) rfl, by decide⟩
theorem jt_L_ok_1 : jt_LP ((0, 16), 1) := ⟨jt_g 16 (by decide +kernel) rfl, by decide⟩
theorem jt_L_ok_2 : jt_LP ((0, 22), 3) := ⟨jt_g 18 (by decide +kernel) rfl, by decide⟩
theorem jt_L_ok_3 : jt_LP ((0, 28), 4) := ⟨jt_g 20 (by decide +kernel) rfl, by decide⟩
theorem jt_L_ok_4 : jt_LP ((1, 7), 2) := ⟨jt_g 75 (by decide +kernel) rfl, by decide⟩
theorem jt_L_ok_5 : jt_LP ((3, 9), 4) := ⟨jt_g 126 (by decide +kernel) rfl, by decide⟩
theorem jt_L_ok_6 : jt_LP ((6, 18), 5) := ⟨jt_g 404 (by decide +kernel) rfl, by decide⟩
theorem jt_L_ok : ∀ e ∈ jt_L, jt_LP e := List.forall_mem_cons.mpr ⟨jt_L_ok_0, List.forall_mem_cons.mpr ⟨jt_L_ok_1, List.forall_mem_cons.mpr ⟨jt_L_ok_2, List.forall_mem_cons.mpr ⟨jt_L_ok_3, List.forall_mem_cons.mpr ⟨jt_L_ok_4, List.forall_mem_cons.mpr ⟨jt_L_ok_5, List.forall_mem_cons.mpr ⟨jt_L_ok_6, fun _ h => absurd h List.not_mem_nil⟩⟩⟩⟩⟩⟩⟩
def jt_df (ci : Nat) : List jx_V := match ci with
  | 0 => [.inl 0, .inl 0, .inr none, .inr none, .inr none, .inl 0, .inr none, .inl 0, .inr none, .inr none, .inl 0]
  | 1 => [.inl 0, .inl 0, .inr none]
  | 2 => [.inl 0, .inl 0, .inl 0, .inl 0, .inl 0, .inr none]
  | 3 => [.inr none, .inr none, .inl 0]
  | 4 => [.inl 0, .inl 0, .inl 0, .inl 0, .inl 0, .inl 0]
  | 5 => [.inl 0, .inl 0, .inl 0, .inr none, .inl 0, .inr none, .inr none, .inr none, .inl 0, .inr none, .inr none, .inr none, .inr none, .inr none, .inr none, .inr none, .inr none, .inr none, .inr none, .inr none, .inr none, .inr none, .inr none, .inr none, .inr none, .inr none, .inr none, .inr none, .inr none, .inr none]
  | _ => []
def jt_new (c k : Nat) : Option (Nat × List jx_V) := (jt_L.lookup (c, k)).map fun ci => (ci, jt_df ci)
def jt_tyl : List FieldType := [.int, .boolean, .object "CoinChild$Coin", .object "CoinChild$Block", .object "CoinChild$Entry"]
theorem jt_tyl_ok {FT : FieldType} (h : FT ∈ jt_tyl) : FT = .int ∨ FT = .boolean ∨ ∃ C, C ∈ jt_ao ∧ FT = .object C := by
  simp only [jt_tyl, List.mem_cons, List.not_mem_nil, or_false] at h
  rcases h with h | h | h | h | h
  · exact Or.inl h
  · exact Or.inr (Or.inl h)
  · exact Or.inr (Or.inr ⟨_, by decide, h⟩)
  · exact Or.inr (Or.inr ⟨_, by decide, h⟩)
  · exact Or.inr (Or.inr ⟨_, by decide, h⟩)
theorem jt_tys_q {kA : Nat → ClassId} : ∀ {k : Nat} {q : ClassId × FieldType}, (jt_tys kA)[k]? = some q → ∃ FT, jt_tyl[k]? = some FT ∧ q = (kA k, FT)
  | 0, _, h => ⟨_, rfl, (Option.some.inj h).symm⟩
  | 1, _, h => ⟨_, rfl, (Option.some.inj h).symm⟩
  | 2, _, h => ⟨_, rfl, (Option.some.inj h).symm⟩
  | 3, _, h => ⟨_, rfl, (Option.some.inj h).symm⟩
  | 4, _, h => ⟨_, rfl, (Option.some.inj h).symm⟩
  | n + 5, _, h => by simp [jt_tys] at h
def jt_ek (ci : Nat) : Option Nat := match ci with
  | 1 => some 2
  | 3 => some 3
  | 4 => some 4
  | _ => none
def jt_arr (c k : Nat) : Option Nat := (jt_L.lookup (c, k)).bind jt_ek
theorem jt_ek_ok {ci t : Nat} (h : jt_ek ci = some t) : jt_el t = some ci ∧ jt_cn ci ∈ jt_ao := by
  unfold jt_ek at h
  split at h <;> first | (cases h; exact ⟨rfl, by decide⟩) | cases h
theorem jt_arr_ok {c k t : Nat} (h : jt_arr c k = some t) : ∃ ci, Cond.classLink (jt_cn c) k (jt_cn ci) ∈ jt_G ∧ jt_el t = some ci ∧ jt_cn ci ∈ jt_ao := by
  unfold jt_arr at h
  cases hl : jt_L.lookup (c, k) with
  | none => rw [hl] at h; cases h
  | some ci =>
    rw [hl] at h
    exact ⟨ci, (jt_L_ok _ (jt_look hl)).1, jt_ek_ok h⟩
theorem jt_el_ok {kA : Nat → ClassId} {t ci : Nat} (h : jt_el t = some ci) : (jt_tys kA)[t]? = some (kA t, .object (jt_cn ci)) ∧ ∃ (T : u_T) (N : Nat), jt_Cl[ci]? = some (jt_cn ci, T, N) := by
  unfold jt_el at h
  split at h <;> first | (cases h; exact ⟨rfl, _, _, rfl⟩) | cases h
theorem jt_tys_ok {kA : Nat → ClassId} : ∀ {t : Nat}, t < jt_nk → ∃ FT : FieldType, (jt_tys kA)[t]? = some (kA t, FT)
  | 0, _ => ⟨_, rfl⟩
  | 1, _ => ⟨_, rfl⟩
  | 2, _ => ⟨_, rfl⟩
  | 3, _ => ⟨_, rfl⟩
  | 4, _ => ⟨_, rfl⟩
  | n + 5, h => absurd h (by unfold jt_nk; omega)
/-- a class by its number: it can be made -/
def jt_DP (ci : Nat) : Prop := ∃ (T : u_T) (N : Nat) (ty : Nat → FieldType), jt_Cl[ci]? = some (jt_cn ci, T, N) ∧ jt_CP (jt_cn ci) T N ty ∧ Cond.instantiable (jt_cn ci) N ∈ jt_G ∧ Cond.initialized (jt_cn ci) ∈ jt_G ∧ (jt_df ci).length = N ∧ ∀ j, j < N → defaultValue (ty j) = vp_V ((jt_df ci).map jx_v) j
theorem jt_d0 : jt_DP 0 := ⟨jt_T0, 11, jt_t0, rfl, jt_c0, jt_g 9 (by decide +kernel) rfl, jt_g 1 (by decide +kernel) rfl, rfl, by decide +kernel⟩
theorem jt_d1 : jt_DP 1 := ⟨jt_T1, 3, jt_t1, rfl, jt_c1, jt_g 70 (by decide +kernel) rfl, jt_g 4 (by decide +kernel) rfl, rfl, by decide +kernel⟩
theorem jt_d2 : jt_DP 2 := ⟨jt_T2, 6, jt_t2, rfl, jt_c2, jt_g 76 (by decide +kernel) rfl, jt_g 5 (by decide +kernel) rfl, rfl, by decide +kernel⟩
theorem jt_d3 : jt_DP 3 := ⟨jt_T3, 3, jt_t3, rfl, jt_c3, jt_g 121 (by decide +kernel) rfl, jt_g 6 (by decide +kernel) rfl, rfl, by decide +kernel⟩
theorem jt_d4 : jt_DP 4 := ⟨jt_T4, 6, jt_t4, rfl, jt_c4, jt_g 139 (by decide +kernel) rfl, jt_g 7 (by decide +kernel) rfl, rfl, by decide +kernel⟩
theorem jt_d5 : jt_DP 5 := ⟨jt_T5, 30, jt_t5, rfl, jt_c5, jt_g 405 (by decide +kernel) rfl, jt_g 3 (by decide +kernel) rfl, rfl, by decide +kernel⟩
theorem jt_D_ok : ∀ ci, ci < 6 → jt_DP ci
  | 0, _ => jt_d0
  | 1, _ => jt_d1
  | 2, _ => jt_d2
  | 3, _ => jt_d3
  | 4, _ => jt_d4
  | 5, _ => jt_d5
  | n + 6, h => absurd h (by omega)
theorem jt_new_ok {c k ci : Nat} {fs : List jx_V} (h : jt_new c k = some (ci, fs)) : Cond.classLink (jt_cn c) k (jt_cn ci) ∈ jt_G ∧ ∃ (T : u_T) (N : Nat) (ty : Nat → FieldType), jt_Cl[ci]? = some (jt_cn ci, T, N) ∧ jt_CP (jt_cn ci) T N ty ∧ Cond.instantiable (jt_cn ci) N ∈ jt_G ∧ Cond.initialized (jt_cn ci) ∈ jt_G ∧ fs.length = N ∧ ∀ j, j < N → defaultValue (ty j) = vp_V (fs.map jx_v) j := by
  unfold jt_new at h
  cases hl : jt_L.lookup (c, k) with
  | none => rw [hl] at h; cases h
  | some c0 =>
    rw [hl] at h
    cases h
    have h1 := jt_L_ok _ (jt_look hl)
    exact ⟨h1.1, jt_D_ok _ h1.2⟩
def jt_K : List ((Nat × Nat) × Int32) := [((0, 223), 1540483477), ((5, 93), 1540483477)]
def jt_cst (c k : Nat) : Option Int32 := jt_K.lookup (c, k)
def jt_KP (e : (Nat × Nat) × Int32) : Prop := Cond.constant (jt_cn e.1.1) e.1.2 e.2 ∈ jt_G
theorem jt_K_ok_0 : jt_KP ((0, 223), 1540483477) := jt_g 143 (by decide +kernel) rfl
theorem jt_K_ok_1 : jt_KP ((5, 93), 1540483477) := jt_g 528 (by decide +kernel) rfl
theorem jt_K_ok : ∀ e ∈ jt_K, jt_KP e := List.forall_mem_cons.mpr ⟨jt_K_ok_0, List.forall_mem_cons.mpr ⟨jt_K_ok_1, fun _ h => absurd h List.not_mem_nil⟩⟩
theorem jt_cst_ok {c k : Nat} {v : Int32} (h : jt_cst c k = some v) : Cond.constant (jt_cn c) k v ∈ jt_G := jt_K_ok _ (jt_look h)
