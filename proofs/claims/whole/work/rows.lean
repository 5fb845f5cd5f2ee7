section
-- ===== PART A: goes FIRST, ahead of the names: the tables' words, and 'selects' of the private methods out of them =====
/-- a private method of a class that the tables say can be made, by its rows of tables_1 -/
def lw_okq (q : MethodName × Nat) : Prop := (q.1.cls ≠ "java/lang/invoke/MethodHandle" ∧ q.1.cls ≠ "java/lang/invoke/VarHandle") ∧ Cond.instantiable q.1.cls q.2 ∈ tables_1 ∧ Cond.privateMethod q.1 ∈ tables_1 ∧ Cond.instanceMethod q.1 ∈ tables_1
theorem lw_p0 : lw_okq (⟨"CoinChild", "pay", "(II)V"⟩, 11) := ⟨⟨by decide +kernel, by decide +kernel⟩, List.mem_of_getElem? (i := 9) (by decide +kernel), List.mem_of_getElem? (i := 118) (by decide +kernel), List.mem_of_getElem? (i := 119) (by decide +kernel)⟩
theorem lw_p1 : lw_okq (⟨"CoinChild", "append", "(LCoinChild$Block;)I"⟩, 11) := ⟨⟨by decide +kernel, by decide +kernel⟩, List.mem_of_getElem? (i := 9) (by decide +kernel), List.mem_of_getElem? (i := 174) (by decide +kernel), List.mem_of_getElem? (i := 175) (by decide +kernel)⟩
theorem lw_p2 : lw_okq (⟨"CoinChild", "heldSince", "(II)I"⟩, 11) := ⟨⟨by decide +kernel, by decide +kernel⟩, List.mem_of_getElem? (i := 9) (by decide +kernel), List.mem_of_getElem? (i := 189) (by decide +kernel), List.mem_of_getElem? (i := 190) (by decide +kernel)⟩
theorem lw_p3 : lw_okq (⟨"CoinChild", "transfer", "(IIIII)LCoinChild$Entry;"⟩, 11) := ⟨⟨by decide +kernel, by decide +kernel⟩, List.mem_of_getElem? (i := 9) (by decide +kernel), List.mem_of_getElem? (i := 193) (by decide +kernel), List.mem_of_getElem? (i := 194) (by decide +kernel)⟩
theorem lw_p4 : lw_okq (⟨"CoinChild", "signature", "(IIII)I"⟩, 11) := ⟨⟨by decide +kernel, by decide +kernel⟩, List.mem_of_getElem? (i := 9) (by decide +kernel), List.mem_of_getElem? (i := 197) (by decide +kernel), List.mem_of_getElem? (i := 198) (by decide +kernel)⟩
theorem lw_p5 : lw_okq (⟨"CoinChild", "coinAt", "(I)LCoinChild$Coin;"⟩, 11) := ⟨⟨by decide +kernel, by decide +kernel⟩, List.mem_of_getElem? (i := 9) (by decide +kernel), List.mem_of_getElem? (i := 205) (by decide +kernel), List.mem_of_getElem? (i := 206) (by decide +kernel)⟩
theorem lw_p6 : lw_okq (⟨"CoinChild", "isFitToFollow", "(ILCoinChild$Entry;)Z"⟩, 11) := ⟨⟨by decide +kernel, by decide +kernel⟩, List.mem_of_getElem? (i := 9) (by decide +kernel), List.mem_of_getElem? (i := 213) (by decide +kernel), List.mem_of_getElem? (i := 214) (by decide +kernel)⟩
theorem lw_p7 : lw_okq (⟨"CoinChild", "lastWith", "(I)I"⟩, 11) := ⟨⟨by decide +kernel, by decide +kernel⟩, List.mem_of_getElem? (i := 9) (by decide +kernel), List.mem_of_getElem? (i := 217) (by decide +kernel), List.mem_of_getElem? (i := 218) (by decide +kernel)⟩
theorem lw_p8 : lw_okq (⟨"CoinChild", "entryIn", "(II)LCoinChild$Entry;"⟩, 11) := ⟨⟨by decide +kernel, by decide +kernel⟩, List.mem_of_getElem? (i := 9) (by decide +kernel), List.mem_of_getElem? (i := 221) (by decide +kernel), List.mem_of_getElem? (i := 222) (by decide +kernel)⟩
theorem lw_p9 : lw_okq (⟨"CoinChild", "blockAt", "(I)LCoinChild$Block;"⟩, 11) := ⟨⟨by decide +kernel, by decide +kernel⟩, List.mem_of_getElem? (i := 9) (by decide +kernel), List.mem_of_getElem? (i := 225) (by decide +kernel), List.mem_of_getElem? (i := 226) (by decide +kernel)⟩
theorem lw_p10 : lw_okq (⟨"CoinChild", "isWithheldAfter", "(I)Z"⟩, 11) := ⟨⟨by decide +kernel, by decide +kernel⟩, List.mem_of_getElem? (i := 9) (by decide +kernel), List.mem_of_getElem? (i := 237) (by decide +kernel), List.mem_of_getElem? (i := 238) (by decide +kernel)⟩
theorem lw_p11 : lw_okq (⟨"CoinChild", "isSoundChain", "(I)Z"⟩, 11) := ⟨⟨by decide +kernel, by decide +kernel⟩, List.mem_of_getElem? (i := 9) (by decide +kernel), List.mem_of_getElem? (i := 241) (by decide +kernel), List.mem_of_getElem? (i := 242) (by decide +kernel)⟩
theorem lw_p12 : lw_okq (⟨"CoinChild", "nextOf", "(II)I"⟩, 11) := ⟨⟨by decide +kernel, by decide +kernel⟩, List.mem_of_getElem? (i := 9) (by decide +kernel), List.mem_of_getElem? (i := 245) (by decide +kernel), List.mem_of_getElem? (i := 246) (by decide +kernel)⟩
theorem lw_p13 : lw_okq (⟨"CoinChild", "spends", "(III)Z"⟩, 11) := ⟨⟨by decide +kernel, by decide +kernel⟩, List.mem_of_getElem? (i := 9) (by decide +kernel), List.mem_of_getElem? (i := 249) (by decide +kernel), List.mem_of_getElem? (i := 250) (by decide +kernel)⟩
theorem lw_p14 : lw_okq (⟨"CoinChild", "isFounded", "(IILCoinChild$Entry;)Z"⟩, 11) := ⟨⟨by decide +kernel, by decide +kernel⟩, List.mem_of_getElem? (i := 9) (by decide +kernel), List.mem_of_getElem? (i := 257) (by decide +kernel), List.mem_of_getElem? (i := 258) (by decide +kernel)⟩
theorem lw_p15 : lw_okq (⟨"CoinChild", "refusalToChallenge", "(III)I"⟩, 11) := ⟨⟨by decide +kernel, by decide +kernel⟩, List.mem_of_getElem? (i := 9) (by decide +kernel), List.mem_of_getElem? (i := 269) (by decide +kernel), List.mem_of_getElem? (i := 270) (by decide +kernel)⟩
def lw_privs_1 : List (MethodName × Nat) := [(⟨"CoinChild", "pay", "(II)V"⟩, 11), (⟨"CoinChild", "append", "(LCoinChild$Block;)I"⟩, 11), (⟨"CoinChild", "heldSince", "(II)I"⟩, 11), (⟨"CoinChild", "transfer", "(IIIII)LCoinChild$Entry;"⟩, 11), (⟨"CoinChild", "signature", "(IIII)I"⟩, 11), (⟨"CoinChild", "coinAt", "(I)LCoinChild$Coin;"⟩, 11), (⟨"CoinChild", "isFitToFollow", "(ILCoinChild$Entry;)Z"⟩, 11), (⟨"CoinChild", "lastWith", "(I)I"⟩, 11), (⟨"CoinChild", "entryIn", "(II)LCoinChild$Entry;"⟩, 11), (⟨"CoinChild", "blockAt", "(I)LCoinChild$Block;"⟩, 11), (⟨"CoinChild", "isWithheldAfter", "(I)Z"⟩, 11), (⟨"CoinChild", "isSoundChain", "(I)Z"⟩, 11), (⟨"CoinChild", "nextOf", "(II)I"⟩, 11), (⟨"CoinChild", "spends", "(III)Z"⟩, 11), (⟨"CoinChild", "isFounded", "(IILCoinChild$Entry;)Z"⟩, 11), (⟨"CoinChild", "refusalToChallenge", "(III)I"⟩, 11)]
theorem lw_r1 : ∀ q ∈ lw_privs_1, lw_okq q := List.forall_mem_cons.mpr ⟨lw_p0, List.forall_mem_cons.mpr ⟨lw_p1, List.forall_mem_cons.mpr ⟨lw_p2, List.forall_mem_cons.mpr ⟨lw_p3, List.forall_mem_cons.mpr ⟨lw_p4, List.forall_mem_cons.mpr ⟨lw_p5, List.forall_mem_cons.mpr ⟨lw_p6, List.forall_mem_cons.mpr ⟨lw_p7, List.forall_mem_cons.mpr ⟨lw_p8, List.forall_mem_cons.mpr ⟨lw_p9, List.forall_mem_cons.mpr ⟨lw_p10, List.forall_mem_cons.mpr ⟨lw_p11, List.forall_mem_cons.mpr ⟨lw_p12, List.forall_mem_cons.mpr ⟨lw_p13, List.forall_mem_cons.mpr ⟨lw_p14, List.forall_mem_cons.mpr ⟨lw_p15, fun _ h => absurd h List.not_mem_nil⟩⟩⟩⟩⟩⟩⟩⟩⟩⟩⟩⟩⟩⟩⟩⟩
theorem lw_p16 : lw_okq (⟨"CoinChild", "exitOf", "(I)LCoinChild$Exit;"⟩, 11) := ⟨⟨by decide +kernel, by decide +kernel⟩, List.mem_of_getElem? (i := 9) (by decide +kernel), List.mem_of_getElem? (i := 273) (by decide +kernel), List.mem_of_getElem? (i := 274) (by decide +kernel)⟩
theorem lw_p17 : lw_okq (⟨"CoinChild", "cancel", "(LCoinChild$Exit;I)V"⟩, 11) := ⟨⟨by decide +kernel, by decide +kernel⟩, List.mem_of_getElem? (i := 9) (by decide +kernel), List.mem_of_getElem? (i := 277) (by decide +kernel), List.mem_of_getElem? (i := 278) (by decide +kernel)⟩
theorem lw_p18 : lw_okq (⟨"CoinChild$Exit", "stateOf", "(I)I"⟩, 6) := ⟨⟨by decide +kernel, by decide +kernel⟩, List.mem_of_getElem? (i := 76) (by decide +kernel), List.mem_of_getElem? (i := 285) (by decide +kernel), List.mem_of_getElem? (i := 286) (by decide +kernel)⟩
theorem lw_p19 : lw_okq (⟨"CoinChild", "hasGoodEntry", "(II)Z"⟩, 11) := ⟨⟨by decide +kernel, by decide +kernel⟩, List.mem_of_getElem? (i := 9) (by decide +kernel), List.mem_of_getElem? (i := 305) (by decide +kernel), List.mem_of_getElem? (i := 306) (by decide +kernel)⟩
theorem lw_p20 : lw_okq (⟨"CoinChild", "guardCoin", "(II)I"⟩, 11) := ⟨⟨by decide +kernel, by decide +kernel⟩, List.mem_of_getElem? (i := 9) (by decide +kernel), List.mem_of_getElem? (i := 334) (by decide +kernel), List.mem_of_getElem? (i := 335) (by decide +kernel)⟩
theorem lw_p21 : lw_okq (⟨"CoinChild", "answerAll", "(ILCoinChild$Exit;)I"⟩, 11) := ⟨⟨by decide +kernel, by decide +kernel⟩, List.mem_of_getElem? (i := 9) (by decide +kernel), List.mem_of_getElem? (i := 342) (by decide +kernel), List.mem_of_getElem? (i := 343) (by decide +kernel)⟩
theorem lw_p22 : lw_okq (⟨"CoinChild", "contest", "(IIILCoinChild$Exit;)I"⟩, 11) := ⟨⟨by decide +kernel, by decide +kernel⟩, List.mem_of_getElem? (i := 9) (by decide +kernel), List.mem_of_getElem? (i := 347) (by decide +kernel), List.mem_of_getElem? (i := 348) (by decide +kernel)⟩
theorem lw_p23 : lw_okq (⟨"CoinChildModel", "newBlock", "(Z)V"⟩, 30) := ⟨⟨by decide +kernel, by decide +kernel⟩, List.mem_of_getElem? (i := 405) (by decide +kernel), List.mem_of_getElem? (i := 510) (by decide +kernel), List.mem_of_getElem? (i := 511) (by decide +kernel)⟩
theorem lw_p24 : lw_okq (⟨"CoinChildModel", "isCoin", "(I)Z"⟩, 30) := ⟨⟨by decide +kernel, by decide +kernel⟩, List.mem_of_getElem? (i := 405) (by decide +kernel), List.mem_of_getElem? (i := 518) (by decide +kernel), List.mem_of_getElem? (i := 519) (by decide +kernel)⟩
theorem lw_p25 : lw_okq (⟨"CoinChildModel", "signature", "(IIII)I"⟩, 30) := ⟨⟨by decide +kernel, by decide +kernel⟩, List.mem_of_getElem? (i := 405) (by decide +kernel), List.mem_of_getElem? (i := 522) (by decide +kernel), List.mem_of_getElem? (i := 523) (by decide +kernel)⟩
theorem lw_p26 : lw_okq (⟨"CoinChildModel", "note", "(IIIII)V"⟩, 30) := ⟨⟨by decide +kernel, by decide +kernel⟩, List.mem_of_getElem? (i := 405) (by decide +kernel), List.mem_of_getElem? (i := 530) (by decide +kernel), List.mem_of_getElem? (i := 531) (by decide +kernel)⟩
theorem lw_p27 : lw_okq (⟨"CoinChildModel", "fits", "(I)Z"⟩, 30) := ⟨⟨by decide +kernel, by decide +kernel⟩, List.mem_of_getElem? (i := 405) (by decide +kernel), List.mem_of_getElem? (i := 542) (by decide +kernel), List.mem_of_getElem? (i := 543) (by decide +kernel)⟩
theorem lw_p28 : lw_okq (⟨"CoinChildModel", "latest", "(I)I"⟩, 30) := ⟨⟨by decide +kernel, by decide +kernel⟩, List.mem_of_getElem? (i := 405) (by decide +kernel), List.mem_of_getElem? (i := 546) (by decide +kernel), List.mem_of_getElem? (i := 547) (by decide +kernel)⟩
theorem lw_p29 : lw_okq (⟨"CoinChildModel", "isBlock", "(I)Z"⟩, 30) := ⟨⟨by decide +kernel, by decide +kernel⟩, List.mem_of_getElem? (i := 405) (by decide +kernel), List.mem_of_getElem? (i := 554) (by decide +kernel), List.mem_of_getElem? (i := 555) (by decide +kernel)⟩
theorem lw_p30 : lw_okq (⟨"CoinChildModel", "sound", "(I)Z"⟩, 30) := ⟨⟨by decide +kernel, by decide +kernel⟩, List.mem_of_getElem? (i := 405) (by decide +kernel), List.mem_of_getElem? (i := 562) (by decide +kernel), List.mem_of_getElem? (i := 563) (by decide +kernel)⟩
theorem lw_p31 : lw_okq (⟨"CoinChildModel", "spends", "(III)Z"⟩, 30) := ⟨⟨by decide +kernel, by decide +kernel⟩, List.mem_of_getElem? (i := 405) (by decide +kernel), List.mem_of_getElem? (i := 566) (by decide +kernel), List.mem_of_getElem? (i := 567) (by decide +kernel)⟩
def lw_privs_2 : List (MethodName × Nat) := [(⟨"CoinChild", "exitOf", "(I)LCoinChild$Exit;"⟩, 11), (⟨"CoinChild", "cancel", "(LCoinChild$Exit;I)V"⟩, 11), (⟨"CoinChild$Exit", "stateOf", "(I)I"⟩, 6), (⟨"CoinChild", "hasGoodEntry", "(II)Z"⟩, 11), (⟨"CoinChild", "guardCoin", "(II)I"⟩, 11), (⟨"CoinChild", "answerAll", "(ILCoinChild$Exit;)I"⟩, 11), (⟨"CoinChild", "contest", "(IIILCoinChild$Exit;)I"⟩, 11), (⟨"CoinChildModel", "newBlock", "(Z)V"⟩, 30), (⟨"CoinChildModel", "isCoin", "(I)Z"⟩, 30), (⟨"CoinChildModel", "signature", "(IIII)I"⟩, 30), (⟨"CoinChildModel", "note", "(IIIII)V"⟩, 30), (⟨"CoinChildModel", "fits", "(I)Z"⟩, 30), (⟨"CoinChildModel", "latest", "(I)I"⟩, 30), (⟨"CoinChildModel", "isBlock", "(I)Z"⟩, 30), (⟨"CoinChildModel", "sound", "(I)Z"⟩, 30), (⟨"CoinChildModel", "spends", "(III)Z"⟩, 30)]
theorem lw_r2 : ∀ q ∈ lw_privs_2, lw_okq q := List.forall_mem_cons.mpr ⟨lw_p16, List.forall_mem_cons.mpr ⟨lw_p17, List.forall_mem_cons.mpr ⟨lw_p18, List.forall_mem_cons.mpr ⟨lw_p19, List.forall_mem_cons.mpr ⟨lw_p20, List.forall_mem_cons.mpr ⟨lw_p21, List.forall_mem_cons.mpr ⟨lw_p22, List.forall_mem_cons.mpr ⟨lw_p23, List.forall_mem_cons.mpr ⟨lw_p24, List.forall_mem_cons.mpr ⟨lw_p25, List.forall_mem_cons.mpr ⟨lw_p26, List.forall_mem_cons.mpr ⟨lw_p27, List.forall_mem_cons.mpr ⟨lw_p28, List.forall_mem_cons.mpr ⟨lw_p29, List.forall_mem_cons.mpr ⟨lw_p30, List.forall_mem_cons.mpr ⟨lw_p31, fun _ h => absurd h List.not_mem_nil⟩⟩⟩⟩⟩⟩⟩⟩⟩⟩⟩⟩⟩⟩⟩⟩
theorem lw_p32 : lw_okq (⟨"CoinChildModel", "good", "(II)Z"⟩, 30) := ⟨⟨by decide +kernel, by decide +kernel⟩, List.mem_of_getElem? (i := 405) (by decide +kernel), List.mem_of_getElem? (i := 570) (by decide +kernel), List.mem_of_getElem? (i := 571) (by decide +kernel)⟩
theorem lw_p33 : lw_okq (⟨"CoinChildModel", "refused", "(III)I"⟩, 30) := ⟨⟨by decide +kernel, by decide +kernel⟩, List.mem_of_getElem? (i := 405) (by decide +kernel), List.mem_of_getElem? (i := 582) (by decide +kernel), List.mem_of_getElem? (i := 583) (by decide +kernel)⟩
theorem lw_p34 : lw_okq (⟨"CoinChildModel", "cancel", "(II)V"⟩, 30) := ⟨⟨by decide +kernel, by decide +kernel⟩, List.mem_of_getElem? (i := 405) (by decide +kernel), List.mem_of_getElem? (i := 586) (by decide +kernel), List.mem_of_getElem? (i := 587) (by decide +kernel)⟩
theorem lw_p35 : lw_okq (⟨"CoinChildModel", "guard", "(III)I"⟩, 30) := ⟨⟨by decide +kernel, by decide +kernel⟩, List.mem_of_getElem? (i := 405) (by decide +kernel), List.mem_of_getElem? (i := 610) (by decide +kernel), List.mem_of_getElem? (i := 611) (by decide +kernel)⟩
theorem lw_p36 : lw_okq (⟨"CoinChildModel", "hiddenAfter", "(I)Z"⟩, 30) := ⟨⟨by decide +kernel, by decide +kernel⟩, List.mem_of_getElem? (i := 405) (by decide +kernel), List.mem_of_getElem? (i := 614) (by decide +kernel), List.mem_of_getElem? (i := 615) (by decide +kernel)⟩
theorem lw_p37 : lw_okq (⟨"CoinChildModel", "next", "(II)I"⟩, 30) := ⟨⟨by decide +kernel, by decide +kernel⟩, List.mem_of_getElem? (i := 405) (by decide +kernel), List.mem_of_getElem? (i := 619) (by decide +kernel), List.mem_of_getElem? (i := 620) (by decide +kernel)⟩
theorem lw_p38 : lw_okq (⟨"CoinChildModel", "standing", "(I)I"⟩, 30) := ⟨⟨by decide +kernel, by decide +kernel⟩, List.mem_of_getElem? (i := 405) (by decide +kernel), List.mem_of_getElem? (i := 639) (by decide +kernel), List.mem_of_getElem? (i := 640) (by decide +kernel)⟩
theorem lw_p39 : lw_okq (⟨"CoinChildModel", "level", "(II)V"⟩, 30) := ⟨⟨by decide +kernel, by decide +kernel⟩, List.mem_of_getElem? (i := 405) (by decide +kernel), List.mem_of_getElem? (i := 647) (by decide +kernel), List.mem_of_getElem? (i := 648) (by decide +kernel)⟩
theorem lw_p40 : lw_okq (⟨"CoinChildModel", "leaf", "(II)I"⟩, 30) := ⟨⟨by decide +kernel, by decide +kernel⟩, List.mem_of_getElem? (i := 405) (by decide +kernel), List.mem_of_getElem? (i := 651) (by decide +kernel), List.mem_of_getElem? (i := 652) (by decide +kernel)⟩
def lw_privs_3 : List (MethodName × Nat) := [(⟨"CoinChildModel", "good", "(II)Z"⟩, 30), (⟨"CoinChildModel", "refused", "(III)I"⟩, 30), (⟨"CoinChildModel", "cancel", "(II)V"⟩, 30), (⟨"CoinChildModel", "guard", "(III)I"⟩, 30), (⟨"CoinChildModel", "hiddenAfter", "(I)Z"⟩, 30), (⟨"CoinChildModel", "next", "(II)I"⟩, 30), (⟨"CoinChildModel", "standing", "(I)I"⟩, 30), (⟨"CoinChildModel", "level", "(II)V"⟩, 30), (⟨"CoinChildModel", "leaf", "(II)I"⟩, 30)]
theorem lw_r3 : ∀ q ∈ lw_privs_3, lw_okq q := List.forall_mem_cons.mpr ⟨lw_p32, List.forall_mem_cons.mpr ⟨lw_p33, List.forall_mem_cons.mpr ⟨lw_p34, List.forall_mem_cons.mpr ⟨lw_p35, List.forall_mem_cons.mpr ⟨lw_p36, List.forall_mem_cons.mpr ⟨lw_p37, List.forall_mem_cons.mpr ⟨lw_p38, List.forall_mem_cons.mpr ⟨lw_p39, List.forall_mem_cons.mpr ⟨lw_p40, fun _ h => absurd h List.not_mem_nil⟩⟩⟩⟩⟩⟩⟩⟩⟩
def lw_privs : List (MethodName × Nat) := lw_privs_1 ++ (lw_privs_2 ++ (lw_privs_3))
def lw_tbl : List Cond := k2_sels lw_privs ++ tables_1
theorem lw_privs_ok : ∀ q ∈ lw_privs, lw_okq q := by
  show ∀ q ∈ lw_privs_1 ++ (lw_privs_2 ++ (lw_privs_3)), lw_okq q
  exact List.forall_mem_append.mpr ⟨lw_r1, List.forall_mem_append.mpr ⟨lw_r2, lw_r3⟩⟩
end
section
/-! values, cells, worlds, contexts of our interpreter -/
/-- a value: an int, or a reference that may be null -/
abbrev jx_V : Type := Int32 ⊕ Option Nat
def jx_v : jx_V → Value
  | .inl x => .int x
  | .inr r => va_rf r
/-- a cell: an array (kind, length, ints or references), or an object (class number, fields) -/
abbrev jx_E : Type := (Nat × Nat × ((Nat → Int32) ⊕ (Nat → Option Nat))) ⊕ (Nat × List jx_V)
def jx_e (kA : Nat → ClassId) : jx_E → va_E
  | .inl (t, n, .inl f) => .inl (kA t, n, .inl f)
  | .inl (t, n, .inr f) => .inl (kA t, n, .inr (.inr (.inr (.inr f))))
  | .inr (ci, fs) => .inr (ci, fs.map jx_v)
/-- a world: its cells by address, the next address, the slots made so far -/
abbrev jx_W : Type := (Nat → Option jx_E) × Nat × Nat
abbrev jx_L : Type := List (Option jx_V)
/-- a frame's state: place, locals, stack, world -/
abbrev jx_S : Type := Nat × jx_L × List jx_V × jx_W
abbrev jx_T : Type := Option jx_V × jx_W
/-- a method's context: own class, code, number of locals, return type, whether it is <init> -/
abbrev jx_X : Type := Nat × ByteArray × Nat × Option FieldType × Bool
/-- the script: address, length, contents -/
abbrev jx_Sc : Type := Nat × Nat × (Nat → Int32)
abbrev jx_C : Type := Nat → List jx_V → jx_W → Option jx_T
end
section
/-! by program (gen.py) out of the claim's tables_1: classes, fields, methods, calls, and what the tables say of them -/
def jt_cn (k : Nat) : String := match k with
  | 0 => "CoinChild"
  | 1 => "CoinChild$Coin"
  | 2 => "CoinChild$Exit"
  | 3 => "CoinChild$Block"
  | 4 => "CoinChild$Entry"
  | 5 => "CoinChildModel"
  | _ => "CoinChildLaw"
def jt_G : List Cond := lw_tbl.filter goodWord
theorem jt_in {w : Cond} (i : Nat) (h : tables_1[i]? = some w) : w ∈ lw_tbl := List.mem_append_right _ (List.mem_of_getElem? h)
theorem jt_g {w : Cond} (i : Nat) (h : tables_1[i]? = some w) (hg : goodWord w = true) : w ∈ jt_G := List.mem_filter.mpr ⟨jt_in i h, hg⟩
theorem jt_s {w : Cond} (i : Nat) (h : (k2_sels lw_privs)[i]? = some w) (hg : goodWord w = true) : w ∈ jt_G := List.mem_filter.mpr ⟨List.mem_append_left _ (List.mem_of_getElem? h), hg⟩
theorem jt_good : ∀ w ∈ jt_G, goodWord w = true := fun _ h => (List.mem_filter.mp h).2
theorem jt_look {β : Type} {k : Nat × Nat} {v : β} : ∀ {l : List ((Nat × Nat) × β)}, l.lookup k = some v → (k, v) ∈ l
  | [], h => by simp at h
  | (a, b) :: l, h => by
    rw [List.lookup_cons] at h
    split at h
    · rename_i e
      have e : k = a := by simpa using e
      cases h
      rw [e]
      exact List.mem_cons_self
    · exact List.mem_cons_of_mem _ (jt_look h)
def jt_T0 : u_T := fun k => match k with
  | 0 => ("CoinChild", "seed", "I", true)
  | 1 => ("CoinChild", "period", "I", true)
  | 2 => ("CoinChild", "money", "[I", true)
  | 3 => ("CoinChild", "since", "[I", true)
  | 4 => ("CoinChild", "coins", "[LCoinChild$Coin;", true)
  | 5 => ("CoinChild", "coinCount", "I", false)
  | 6 => ("CoinChild", "blocks", "[LCoinChild$Block;", true)
  | 7 => ("CoinChild", "blockCount", "I", false)
  | 8 => ("CoinChild", "waiting", "[LCoinChild$Entry;", true)
  | 9 => ("CoinChild", "draft", "[LCoinChild$Entry;", true)
  | _ => ("CoinChild", "time", "I", false)
def jt_t0 : Nat → FieldType := fun k => match k with
  | 0 => .int
  | 1 => .int
  | 2 => .array .int
  | 3 => .array .int
  | 4 => .array (.object "CoinChild$Coin")
  | 5 => .int
  | 6 => .array (.object "CoinChild$Block")
  | 7 => .int
  | 8 => .array (.object "CoinChild$Entry")
  | 9 => .array (.object "CoinChild$Entry")
  | _ => .int
def jt_T1 : u_T := fun k => match k with
  | 0 => ("CoinChild$Coin", "value", "I", true)
  | 1 => ("CoinChild$Coin", "gone", "Z", false)
  | _ => ("CoinChild$Coin", "exit", "LCoinChild$Exit;", true)
def jt_t1 : Nat → FieldType := fun k => match k with
  | 0 => .int
  | 1 => .boolean
  | _ => .object "CoinChild$Exit"
def jt_T2 : u_T := fun k => match k with
  | 0 => ("CoinChild$Exit", "open", "Z", false)
  | 1 => ("CoinChild$Exit", "user", "I", false)
  | 2 => ("CoinChild$Exit", "target", "I", false)
  | 3 => ("CoinChild$Exit", "source", "I", false)
  | 4 => ("CoinChild$Exit", "start", "I", false)
  | _ => ("CoinChild$Exit", "challenges", "[I", true)
def jt_t2 : Nat → FieldType := fun k => match k with
  | 0 => .boolean
  | 1 => .int
  | 2 => .int
  | 3 => .int
  | 4 => .int
  | _ => .array .int
def jt_T3 : u_T := fun k => match k with
  | 0 => ("CoinChild$Block", "entries", "[LCoinChild$Entry;", true)
  | 1 => ("CoinChild$Block", "tree", "[I", true)
  | _ => ("CoinChild$Block", "shown", "Z", false)
def jt_t3 : Nat → FieldType := fun k => match k with
  | 0 => .array (.object "CoinChild$Entry")
  | 1 => .array .int
  | _ => .boolean
def jt_T4 : u_T := fun k => match k with
  | 0 => ("CoinChild$Entry", "deposit", "Z", true)
  | 1 => ("CoinChild$Entry", "prev", "I", true)
  | 2 => ("CoinChild$Entry", "from", "I", true)
  | 3 => ("CoinChild$Entry", "to", "I", true)
  | 4 => ("CoinChild$Entry", "good", "Z", true)
  | _ => ("CoinChild$Entry", "leaf", "I", true)
def jt_t4 : Nat → FieldType := fun k => match k with
  | 0 => .boolean
  | 1 => .int
  | 2 => .int
  | 3 => .int
  | 4 => .boolean
  | _ => .int
def jt_T5 : u_T := fun k => match k with
  | 0 => ("CoinChildModel", "seed", "I", true)
  | 1 => ("CoinChildModel", "period", "I", true)
  | 2 => ("CoinChildModel", "time", "I", false)
  | 3 => ("CoinChildModel", "money", "[I", false)
  | 4 => ("CoinChildModel", "coins", "I", false)
  | 5 => ("CoinChildModel", "valueOf", "[I", false)
  | 6 => ("CoinChildModel", "gone", "[Z", false)
  | 7 => ("CoinChildModel", "since", "[I", false)
  | 8 => ("CoinChildModel", "blocks", "I", false)
  | 9 => ("CoinChildModel", "hidden", "[Z", false)
  | 10 => ("CoinChildModel", "entry", "[Z", false)
  | 11 => ("CoinChildModel", "deposits", "[Z", false)
  | 12 => ("CoinChildModel", "prevOf", "[I", false)
  | 13 => ("CoinChildModel", "fromOf", "[I", false)
  | 14 => ("CoinChildModel", "toOf", "[I", false)
  | 15 => ("CoinChildModel", "signed", "[I", false)
  | 16 => ("CoinChildModel", "waits", "[Z", false)
  | 17 => ("CoinChildModel", "waitPrev", "[I", false)
  | 18 => ("CoinChildModel", "waitFrom", "[I", false)
  | 19 => ("CoinChildModel", "waitTo", "[I", false)
  | 20 => ("CoinChildModel", "waitSigned", "[I", false)
  | 21 => ("CoinChildModel", "open", "[Z", false)
  | 22 => ("CoinChildModel", "exiter", "[I", false)
  | 23 => ("CoinChildModel", "exitBlock", "[I", false)
  | 24 => ("CoinChildModel", "exitPrev", "[I", false)
  | 25 => ("CoinChildModel", "startOf", "[I", false)
  | 26 => ("CoinChildModel", "asked", "[Z", false)
  | 27 => ("CoinChildModel", "stands", "[Z", false)
  | 28 => ("CoinChildModel", "challenger", "[I", false)
  | _ => ("CoinChildModel", "row", "[I", false)
def jt_t5 : Nat → FieldType := fun k => match k with
  | 0 => .int
  | 1 => .int
  | 2 => .int
  | 3 => .array .int
  | 4 => .int
  | 5 => .array .int
  | 6 => .array .boolean
  | 7 => .array .int
  | 8 => .int
  | 9 => .array .boolean
  | 10 => .array .boolean
  | 11 => .array .boolean
  | 12 => .array .int
  | 13 => .array .int
  | 14 => .array .int
  | 15 => .array .int
  | 16 => .array .boolean
  | 17 => .array .int
  | 18 => .array .int
  | 19 => .array .int
  | 20 => .array .int
  | 21 => .array .boolean
  | 22 => .array .int
  | 23 => .array .int
  | 24 => .array .int
  | 25 => .array .int
  | 26 => .array .boolean
  | 27 => .array .boolean
  | 28 => .array .int
  | _ => .array .int
abbrev jt_Cl : List vw_C := [("CoinChild", jt_T0, 11), ("CoinChild$Coin", jt_T1, 3), ("CoinChild$Exit", jt_T2, 6), ("CoinChild$Block", jt_T3, 3), ("CoinChild$Entry", jt_T4, 6), ("CoinChildModel", jt_T5, 30)]
/-- what the tables say of a class and its fields -/
def jt_CP (C : String) (T : u_T) (N : Nat) (ty : Nat → FieldType) : Prop := (∀ w ∈ u_ws C T N, w ∈ jt_G) ∧ (∀ k, k < N → parseFieldDescriptor (T k).2.2.1 = some (ty k)) ∧ ∀ a, a < N → ∀ b, b < N → a ≠ b → (T a).2.1 ≠ (T b).2.1
theorem jt_c0 : jt_CP "CoinChild" jt_T0 11 jt_t0 := by
  refine ⟨fun w h => ?_, by decide +kernel, by decide +kernel⟩
  obtain ⟨k, hk, rfl⟩ := List.mem_map.mp h
  have hk := List.mem_range.mp hk
  match k, hk with
  | 0, _ => exact jt_g 39 (by decide +kernel) rfl
  | 1, _ => exact jt_g 41 (by decide +kernel) rfl
  | 2, _ => exact jt_g 43 (by decide +kernel) rfl
  | 3, _ => exact jt_g 45 (by decide +kernel) rfl
  | 4, _ => exact jt_g 47 (by decide +kernel) rfl
  | 5, _ => exact jt_g 49 (by decide +kernel) rfl
  | 6, _ => exact jt_g 51 (by decide +kernel) rfl
  | 7, _ => exact jt_g 53 (by decide +kernel) rfl
  | 8, _ => exact jt_g 55 (by decide +kernel) rfl
  | 9, _ => exact jt_g 57 (by decide +kernel) rfl
  | 10, _ => exact jt_g 59 (by decide +kernel) rfl
  | n + 11, h => exact absurd h (by omega)
theorem jt_c1 : jt_CP "CoinChild$Coin" jt_T1 3 jt_t1 := by
  refine ⟨fun w h => ?_, by decide +kernel, by decide +kernel⟩
  obtain ⟨k, hk, rfl⟩ := List.mem_map.mp h
  have hk := List.mem_range.mp hk
  match k, hk with
  | 0, _ => exact jt_g 110 (by decide +kernel) rfl
  | 1, _ => exact jt_g 112 (by decide +kernel) rfl
  | 2, _ => exact jt_g 114 (by decide +kernel) rfl
  | n + 3, h => exact absurd h (by omega)
theorem jt_c2 : jt_CP "CoinChild$Exit" jt_T2 6 jt_t2 := by
  refine ⟨fun w h => ?_, by decide +kernel, by decide +kernel⟩
  obtain ⟨k, hk, rfl⟩ := List.mem_map.mp h
  have hk := List.mem_range.mp hk
  match k, hk with
  | 0, _ => exact jt_g 92 (by decide +kernel) rfl
  | 1, _ => exact jt_g 94 (by decide +kernel) rfl
  | 2, _ => exact jt_g 96 (by decide +kernel) rfl
  | 3, _ => exact jt_g 98 (by decide +kernel) rfl
  | 4, _ => exact jt_g 100 (by decide +kernel) rfl
  | 5, _ => exact jt_g 102 (by decide +kernel) rfl
  | n + 6, h => exact absurd h (by omega)
theorem jt_c3 : jt_CP "CoinChild$Block" jt_T3 3 jt_t3 := by
  refine ⟨fun w h => ?_, by decide +kernel, by decide +kernel⟩
  obtain ⟨k, hk, rfl⟩ := List.mem_map.mp h
  have hk := List.mem_range.mp hk
  match k, hk with
  | 0, _ => exact jt_g 132 (by decide +kernel) rfl
  | 1, _ => exact jt_g 134 (by decide +kernel) rfl
  | 2, _ => exact jt_g 136 (by decide +kernel) rfl
  | n + 3, h => exact absurd h (by omega)
theorem jt_c4 : jt_CP "CoinChild$Entry" jt_T4 6 jt_t4 := by
  refine ⟨fun w h => ?_, by decide +kernel, by decide +kernel⟩
  obtain ⟨k, hk, rfl⟩ := List.mem_map.mp h
  have hk := List.mem_range.mp hk
  match k, hk with
  | 0, _ => exact jt_g 160 (by decide +kernel) rfl
  | 1, _ => exact jt_g 162 (by decide +kernel) rfl
  | 2, _ => exact jt_g 164 (by decide +kernel) rfl
  | 3, _ => exact jt_g 166 (by decide +kernel) rfl
  | 4, _ => exact jt_g 168 (by decide +kernel) rfl
  | 5, _ => exact jt_g 170 (by decide +kernel) rfl
  | n + 6, h => exact absurd h (by omega)
theorem jt_c5 : jt_CP "CoinChildModel" jt_T5 30 jt_t5 := by
  refine ⟨fun w h => ?_, by decide +kernel, by decide +kernel⟩
  obtain ⟨k, hk, rfl⟩ := List.mem_map.mp h
  have hk := List.mem_range.mp hk
  match k, hk with
  | 0, _ => exact jt_g 440 (by decide +kernel) rfl
  | 1, _ => exact jt_g 442 (by decide +kernel) rfl
  | 2, _ => exact jt_g 444 (by decide +kernel) rfl
  | 3, _ => exact jt_g 446 (by decide +kernel) rfl
  | 4, _ => exact jt_g 448 (by decide +kernel) rfl
  | 5, _ => exact jt_g 450 (by decide +kernel) rfl
  | 6, _ => exact jt_g 452 (by decide +kernel) rfl
  | 7, _ => exact jt_g 454 (by decide +kernel) rfl
  | 8, _ => exact jt_g 456 (by decide +kernel) rfl
  | 9, _ => exact jt_g 458 (by decide +kernel) rfl
  | 10, _ => exact jt_g 460 (by decide +kernel) rfl
  | 11, _ => exact jt_g 462 (by decide +kernel) rfl
  | 12, _ => exact jt_g 464 (by decide +kernel) rfl
  | 13, _ => exact jt_g 466 (by decide +kernel) rfl
  | 14, _ => exact jt_g 468 (by decide +kernel) rfl
  | 15, _ => exact jt_g 470 (by decide +kernel) rfl
  | 16, _ => exact jt_g 472 (by decide +kernel) rfl
  | 17, _ => exact jt_g 474 (by decide +kernel) rfl
  | 18, _ => exact jt_g 476 (by decide +kernel) rfl
  | 19, _ => exact jt_g 478 (by decide +kernel) rfl
  | 20, _ => exact jt_g 480 (by decide +kernel) rfl
  | 21, _ => exact jt_g 482 (by decide +kernel) rfl
  | 22, _ => exact jt_g 484 (by decide +kernel) rfl
  | 23, _ => exact jt_g 486 (by decide +kernel) rfl
  | 24, _ => exact jt_g 488 (by decide +kernel) rfl
  | 25, _ => exact jt_g 490 (by decide +kernel) rfl
  | 26, _ => exact jt_g 492 (by decide +kernel) rfl
  | 27, _ => exact jt_g 494 (by decide +kernel) rfl
  | 28, _ => exact jt_g 496 (by decide +kernel) rfl
  | 29, _ => exact jt_g 498 (by decide +kernel) rfl
  | n + 30, h => exact absurd h (by omega)
def jt_tk : FieldType → Nat
  | .int => 0
  | .boolean => 1
  | .object _ => 2
  | .array _ => 2
  | _ => 3
def jt_F : List ((Nat × Nat) × (Nat × Nat × Nat × Nat)) := [((0, 37), (0, 0, 0, 1)), ((0, 50), (0, 1, 0, 1)), ((0, 9), (0, 2, 2, 1)), ((0, 13), (0, 3, 2, 1)), ((0, 18), (0, 4, 2, 1)), ((0, 57), (0, 5, 0, 0)), ((0, 24), (0, 6, 2, 1)), ((0, 60), (0, 7, 0, 0)), ((0, 30), (0, 8, 2, 1)), ((0, 34), (0, 9, 2, 1)), ((0, 146), (0, 10, 0, 0)), ((2, 15), (2, 0, 1, 0)), ((0, 117), (2, 0, 1, 0)), ((2, 19), (2, 1, 0, 0)), ((0, 193), (2, 1, 0, 0)), ((2, 23), (2, 2, 0, 0)), ((0, 160), (2, 2, 0, 0)), ((2, 26), (2, 3, 0, 0)), ((0, 171), (2, 3, 0, 0)), ((2, 29), (2, 4, 0, 0)), ((0, 174), (2, 4, 0, 0)), ((2, 9), (2, 5, 2, 1)), ((1, 16), (1, 0, 0, 1)), ((0, 203), (1, 0, 0, 2)), ((0, 110), (1, 1, 1, 0)), ((1, 10), (1, 2, 2, 1)), ((0, 113), (1, 2, 2, 2)), ((3, 11), (3, 0, 2, 1)), ((0, 73), (3, 0, 2, 2)), ((3, 17), (3, 1, 2, 1)), ((3, 21), (3, 2, 1, 0)), ((0, 106), (3, 2, 1, 0)), ((4, 7), (4, 0, 1, 1)), ((0, 236), (4, 0, 1, 2)), ((4, 13), (4, 1, 0, 1)), ((0, 143), (4, 1, 0, 2)), ((4, 17), (4, 2, 0, 1)), ((0, 239), (4, 2, 0, 2)), ((4, 20), (4, 3, 0, 1)), ((0, 136), (4, 3, 0, 2)), ((4, 23), (4, 4, 1, 1)), ((0, 233), (4, 4, 1, 2)), ((4, 26), (4, 5, 0, 1)), ((3, 25), (4, 5, 0, 2)), ((5, 86), (5, 0, 0, 1)), ((5, 90), (5, 1, 0, 1)), ((5, 144), (5, 2, 0, 0)), ((5, 7), (5, 3, 2, 0)), ((5, 98), (5, 4, 0, 0)), ((5, 13), (5, 5, 2, 0)), ((5, 16), (5, 6, 2, 0)), ((5, 20), (5, 7, 2, 0)), ((5, 101), (5, 8, 0, 0)), ((5, 23), (5, 9, 2, 0)), ((5, 26), (5, 10, 2, 0)), ((5, 29), (5, 11, 2, 0)), ((5, 32), (5, 12, 2, 0)), ((5, 35), (5, 13, 2, 0)), ((5, 38), (5, 14, 2, 0)), ((5, 41), (5, 15, 2, 0)), ((5, 44), (5, 16, 2, 0)), ((5, 47), (5, 17, 2, 0)), ((5, 50), (5, 18, 2, 0)), ((5, 53), (5, 19, 2, 0)), ((5, 56), (5, 20, 2, 0)), ((5, 59), (5, 21, 2, 0)), ((5, 62), (5, 22, 2, 0)), ((5, 65), (5, 23, 2, 0)), ((5, 68), (5, 24, 2, 0)), ((5, 71), (5, 25, 2, 0)), ((5, 74), (5, 26, 2, 0)), ((5, 77), (5, 27, 2, 0)), ((5, 80), (5, 28, 2, 0)), ((5, 83), (5, 29, 2, 0))]
def jt_fld (c k : Nat) : Option (Nat × Nat × Nat × Nat) := jt_F.lookup (c, k)
def jt_FP (e : (Nat × Nat) × (Nat × Nat × Nat × Nat)) : Prop := ∃ (C : String) (T : u_T) (N : Nat) (ty : Nat → FieldType), jt_Cl[e.2.1]? = some (C, T, N) ∧ e.2.2.1 < N ∧ jt_CP C T N ty ∧ Cond.fieldLink (jt_cn e.1.1) e.1.2 (T e.2.2.1).1 (T e.2.2.1).2.1 (T e.2.2.1).2.2.1 ∈ jt_G ∧ jt_tk (ty e.2.2.1) = e.2.2.2.1 ∧ (e.2.2.2.2 = 0 → (T e.2.2.1).2.2.2 = false) ∧ (e.2.2.2.2 = 1 → (T e.2.2.1).2.2.2 = true ∧ (T e.2.2.1).1 = jt_cn e.1.1)
theorem jt_F_ok_0 : jt_FP ((0, 37), (0, 0, 0, 1)) := ⟨_, _, _, _, rfl, by decide, jt_c0, jt_g 28 (by decide +kernel) rfl, rfl, by decide +kernel, by decide +kernel⟩
theorem jt_F_ok_1 : jt_FP ((0, 50), (0, 1, 0, 1)) := ⟨_, _, _, _, rfl, by decide, jt_c0, jt_g 29 (by decide +kernel) rfl, rfl, by decide +kernel, by decide +kernel⟩
theorem jt_F_ok_2 : jt_FP ((0, 9), (0, 2, 2, 1)) := ⟨_, _, _, _, rfl, by decide, jt_c0, jt_g 30 (by decide +kernel) rfl, rfl, by decide +kernel, by decide +kernel⟩
theorem jt_F_ok_3 : jt_FP ((0, 13), (0, 3, 2, 1)) := ⟨_, _, _, _, rfl, by decide, jt_c0, jt_g 31 (by decide +kernel) rfl, rfl, by decide +kernel, by decide +kernel⟩
theorem jt_F_ok_4 : jt_FP ((0, 18), (0, 4, 2, 1)) := ⟨_, _, _, _, rfl, by decide, jt_c0, jt_g 32 (by decide +kernel) rfl, rfl, by decide +kernel, by decide +kernel⟩
theorem jt_F_ok_5 : jt_FP ((0, 57), (0, 5, 0, 0)) := ⟨_, _, _, _, rfl, by decide, jt_c0, jt_g 33 (by decide +kernel) rfl, rfl, by decide +kernel, by decide +kernel⟩
theorem jt_F_ok_6 : jt_FP ((0, 24), (0, 6, 2, 1)) := ⟨_, _, _, _, rfl, by decide, jt_c0, jt_g 34 (by decide +kernel) rfl, rfl, by decide +kernel, by decide +kernel⟩
theorem jt_F_ok_7 : jt_FP ((0, 60), (0, 7, 0, 0)) := ⟨_, _, _, _, rfl, by decide, jt_c0, jt_g 35 (by decide +kernel) rfl, rfl, by decide +kernel, by decide +kernel⟩
theorem jt_F_ok_8 : jt_FP ((0, 30), (0, 8, 2, 1)) := ⟨_, _, _, _, rfl, by decide, jt_c0, jt_g 36 (by decide +kernel) rfl, rfl, by decide +kernel, by decide +kernel⟩
theorem jt_F_ok_9 : jt_FP ((0, 34), (0, 9, 2, 1)) := ⟨_, _, _, _, rfl, by decide, jt_c0, jt_g 37 (by decide +kernel) rfl, rfl, by decide +kernel, by decide +kernel⟩
theorem jt_F_ok_10 : jt_FP ((0, 146), (0, 10, 0, 0)) := ⟨_, _, _, _, rfl, by decide, jt_c0, jt_g 38 (by decide +kernel) rfl, rfl, by decide +kernel, by decide +kernel⟩
theorem jt_F_ok_11 : jt_FP ((2, 15), (2, 0, 1, 0)) := ⟨_, _, _, _, rfl, by decide, jt_c2, jt_g 81 (by decide +kernel) rfl, rfl, by decide +kernel, by decide +kernel⟩
theorem jt_F_ok_12 : jt_FP ((0, 117), (2, 0, 1, 0)) := ⟨_, _, _, _, rfl, by decide, jt_c2, jt_g 82 (by decide +kernel) rfl, rfl, by decide +kernel, by decide +kernel⟩
theorem jt_F_ok_13 : jt_FP ((2, 19), (2, 1, 0, 0)) := ⟨_, _, _, _, rfl, by decide, jt_c2, jt_g 83 (by decide +kernel) rfl, rfl, by decide +kernel, by decide +kernel⟩
theorem jt_F_ok_14 : jt_FP ((0, 193), (2, 1, 0, 0)) := ⟨_, _, _, _, rfl, by decide, jt_c2, jt_g 84 (by decide +kernel) rfl, rfl, by decide +kernel, by decide +kernel⟩
theorem jt_F_ok_15 : jt_FP ((2, 23), (2, 2, 0, 0)) := ⟨_, _, _, _, rfl, by decide, jt_c2, jt_g 85 (by decide +kernel) rfl, rfl, by decide +kernel, by decide +kernel⟩
theorem jt_F_ok_16 : jt_FP ((0, 160), (2, 2, 0, 0)) := ⟨_, _, _, _, rfl, by decide, jt_c2, jt_g 86 (by decide +kernel) rfl, rfl, by decide +kernel, by decide +kernel⟩
theorem jt_F_ok_17 : jt_FP ((2, 26), (2, 3, 0, 0)) := ⟨_, _, _, _, rfl, by decide, jt_c2, jt_g 87 (by decide +kernel) rfl, rfl, by decide +kernel, by decide +kernel⟩
theorem jt_F_ok_18 : jt_FP ((0, 171), (2, 3, 0, 0)) := ⟨_, _, _, _, rfl, by decide, jt_c2, jt_g 88 (by decide +kernel) rfl, rfl, by decide +kernel, by decide +kernel⟩
theorem jt_F_ok_19 : jt_FP ((2, 29), (2, 4, 0, 0)) := ⟨_, _, _, _, rfl, by decide, jt_c2, jt_g 89 (by decide +kernel) rfl, rfl, by decide +kernel, by decide +kernel⟩
theorem jt_F_ok_20 : jt_FP ((0, 174), (2, 4, 0, 0)) := ⟨_, _, _, _, rfl, by decide, jt_c2, jt_g 90 (by decide +kernel) rfl, rfl, by decide +kernel, by decide +kernel⟩
theorem jt_F_ok_21 : jt_FP ((2, 9), (2, 5, 2, 1)) := ⟨_, _, _, _, rfl, by decide, jt_c2, jt_g 91 (by decide +kernel) rfl, rfl, by decide +kernel, by decide +kernel⟩
theorem jt_F_ok_22 : jt_FP ((1, 16), (1, 0, 0, 1)) := ⟨_, _, _, _, rfl, by decide, jt_c1, jt_g 105 (by decide +kernel) rfl, rfl, by decide +kernel, by decide +kernel⟩
theorem jt_F_ok_23 : jt_FP ((0, 203), (1, 0, 0, 2)) := ⟨_, _, _, _, rfl, by decide, jt_c1, jt_g 106 (by decide +kernel) rfl, rfl, by decide +kernel, by decide +kernel⟩
theorem jt_F_ok_24 : jt_FP ((0, 110), (1, 1, 1, 0)) := ⟨_, _, _, _, rfl, by decide, jt_c1, jt_g 107 (by decide +kernel) rfl, rfl, by decide +kernel, by decide +kernel⟩
theorem jt_F_ok_25 : jt_FP ((1, 10), (1, 2, 2, 1)) := ⟨_, _, _, _, rfl, by decide, jt_c1, jt_g 108 (by decide +kernel) rfl, rfl, by decide +kernel, by decide +kernel⟩
theorem jt_F_ok_26 : jt_FP ((0, 113), (1, 2, 2, 2)) := ⟨_, _, _, _, rfl, by decide, jt_c1, jt_g 109 (by decide +kernel) rfl, rfl, by decide +kernel, by decide +kernel⟩
theorem jt_F_ok_27 : jt_FP ((3, 11), (3, 0, 2, 1)) := ⟨_, _, _, _, rfl, by decide, jt_c3, jt_g 127 (by decide +kernel) rfl, rfl, by decide +kernel, by decide +kernel⟩
theorem jt_F_ok_28 : jt_FP ((0, 73), (3, 0, 2, 2)) := ⟨_, _, _, _, rfl, by decide, jt_c3, jt_g 128 (by decide +kernel) rfl, rfl, by decide +kernel, by decide +kernel⟩
theorem jt_F_ok_29 : jt_FP ((3, 17), (3, 1, 2, 1)) := ⟨_, _, _, _, rfl, by decide, jt_c3, jt_g 129 (by decide +kernel) rfl, rfl, by decide +kernel, by decide +kernel⟩
theorem jt_F_ok_30 : jt_FP ((3, 21), (3, 2, 1, 0)) := ⟨_, _, _, _, rfl, by decide, jt_c3, jt_g 130 (by decide +kernel) rfl, rfl, by decide +kernel, by decide +kernel⟩
theorem jt_F_ok_31 : jt_FP ((0, 106), (3, 2, 1, 0)) := ⟨_, _, _, _, rfl, by decide, jt_c3, jt_g 131 (by decide +kernel) rfl, rfl, by decide +kernel, by decide +kernel⟩
theorem jt_F_ok_32 : jt_FP ((4, 7), (4, 0, 1, 1)) := ⟨_, _, _, _, rfl, by decide, jt_c4, jt_g 148 (by decide +kernel) rfl, rfl, by decide +kernel, by decide +kernel⟩
theorem jt_F_ok_33 : jt_FP ((0, 236), (4, 0, 1, 2)) := ⟨_, _, _, _, rfl, by decide, jt_c4, jt_g 149 (by decide +kernel) rfl, rfl, by decide +kernel, by decide +kernel⟩
theorem jt_F_ok_34 : jt_FP ((4, 13), (4, 1, 0, 1)) := ⟨_, _, _, _, rfl, by decide, jt_c4, jt_g 150 (by decide +kernel) rfl, rfl, by decide +kernel, by decide +kernel⟩
theorem jt_F_ok_35 : jt_FP ((0, 143), (4, 1, 0, 2)) := ⟨_, _, _, _, rfl, by decide, jt_c4, jt_g 151 (by decide +kernel) rfl, rfl, by decide +kernel, by decide +kernel⟩
theorem jt_F_ok_36 : jt_FP ((4, 17), (4, 2, 0, 1)) := ⟨_, _, _, _, rfl, by decide, jt_c4, jt_g 152 (by decide +kernel) rfl, rfl, by decide +kernel, by decide +kernel⟩
theorem jt_F_ok_37 : jt_FP ((0, 239), (4, 2, 0, 2)) := ⟨_, _, _, _, rfl, by decide, jt_c4, jt_g 153 (by decide +kernel) rfl, rfl, by decide +kernel, by decide +kernel⟩
theorem jt_F_ok_38 : jt_FP ((4, 20), (4, 3, 0, 1)) := ⟨_, _, _, _, rfl, by decide, jt_c4, jt_g 154 (by decide +kernel) rfl, rfl, by decide +kernel, by decide +kernel⟩
theorem jt_F_ok_39 : jt_FP ((0, 136), (4, 3, 0, 2)) := ⟨_, _, _, _, rfl, by decide, jt_c4, jt_g 155 (by decide +kernel) rfl, rfl, by decide +kernel, by decide +kernel⟩
theorem jt_F_ok_40 : jt_FP ((4, 23), (4, 4, 1, 1)) := ⟨_, _, _, _, rfl, by decide, jt_c4, jt_g 156 (by decide +kernel) rfl, rfl, by decide +kernel, by decide +kernel⟩
theorem jt_F_ok_41 : jt_FP ((0, 233), (4, 4, 1, 2)) := ⟨_, _, _, _, rfl, by decide, jt_c4, jt_g 157 (by decide +kernel) rfl, rfl, by decide +kernel, by decide +kernel⟩
theorem jt_F_ok_42 : jt_FP ((4, 26), (4, 5, 0, 1)) := ⟨_, _, _, _, rfl, by decide, jt_c4, jt_g 158 (by decide +kernel) rfl, rfl, by decide +kernel, by decide +kernel⟩
theorem jt_F_ok_43 : jt_FP ((3, 25), (4, 5, 0, 2)) := ⟨_, _, _, _, rfl, by decide, jt_c4, jt_g 159 (by decide +kernel) rfl, rfl, by decide +kernel, by decide +kernel⟩
theorem jt_F_ok_44 : jt_FP ((5, 86), (5, 0, 0, 1)) := ⟨_, _, _, _, rfl, by decide, jt_c5, jt_g 410 (by decide +kernel) rfl, rfl, by decide +kernel, by decide +kernel⟩
theorem jt_F_ok_45 : jt_FP ((5, 90), (5, 1, 0, 1)) := ⟨_, _, _, _, rfl, by decide, jt_c5, jt_g 411 (by decide +kernel) rfl, rfl, by decide +kernel, by decide +kernel⟩
theorem jt_F_ok_46 : jt_FP ((5, 144), (5, 2, 0, 0)) := ⟨_, _, _, _, rfl, by decide, jt_c5, jt_g 412 (by decide +kernel) rfl, rfl, by decide +kernel, by decide +kernel⟩
theorem jt_F_ok_47 : jt_FP ((5, 7), (5, 3, 2, 0)) := ⟨_, _, _, _, rfl, by decide, jt_c5, jt_g 413 (by decide +kernel) rfl, rfl, by decide +kernel, by decide +kernel⟩
theorem jt_F_ok_48 : jt_FP ((5, 98), (5, 4, 0, 0)) := ⟨_, _, _, _, rfl, by decide, jt_c5, jt_g 414 (by decide +kernel) rfl, rfl, by decide +kernel, by decide +kernel⟩
theorem jt_F_ok_49 : jt_FP ((5, 13), (5, 5, 2, 0)) := ⟨_, _, _, _, rfl, by decide, jt_c5, jt_g 415 (by decide +kernel) rfl, rfl, by decide +kernel, by decide +kernel⟩
theorem jt_F_ok_50 : jt_FP ((5, 16), (5, 6, 2, 0)) := ⟨_, _, _, _, rfl, by decide, jt_c5, jt_g 416 (by decide +kernel) rfl, rfl, by decide +kernel, by decide +kernel⟩
theorem jt_F_ok_51 : jt_FP ((5, 20), (5, 7, 2, 0)) := ⟨_, _, _, _, rfl, by decide, jt_c5, jt_g 417 (by decide +kernel) rfl, rfl, by decide +kernel, by decide +kernel⟩
theorem jt_F_ok_52 : jt_FP ((5, 101), (5, 8, 0, 0)) := ⟨_, _, _, _, rfl, by decide, jt_c5, jt_g 418 (by decide +kernel) rfl, rfl, by decide +kernel, by decide +kernel⟩
theorem jt_F_ok_53 : jt_FP ((5, 23), (5, 9, 2, 0)) := ⟨_, _, _, _, rfl, by decide, jt_c5, jt_g 419 (by decide +kernel) rfl, rfl, by decide +kernel, by decide +kernel⟩
theorem jt_F_ok_54 : jt_FP ((5, 26), (5, 10, 2, 0)) := ⟨_, _, _, _, rfl, by decide, jt_c5, jt_g 420 (by decide +kernel) rfl, rfl, by decide +kernel, by decide +kernel⟩
theorem jt_F_ok_55 : jt_FP ((5, 29), (5, 11, 2, 0)) := ⟨_, _, _, _, rfl, by decide, jt_c5, jt_g 421 (by decide +kernel) rfl, rfl, by decide +kernel, by decide +kernel⟩
theorem jt_F_ok_56 : jt_FP ((5, 32), (5, 12, 2, 0)) := ⟨_, _, _, _, rfl, by decide, jt_c5, jt_g 422 (by decide +kernel) rfl, rfl, by decide +kernel, by decide +kernel⟩
theorem jt_F_ok_57 : jt_FP ((5, 35), (5, 13, 2, 0)) := ⟨_, _, _, _, rfl, by decide, jt_c5, jt_g 423 (by decide +kernel) rfl, rfl, by decide +kernel, by decide +kernel⟩
theorem jt_F_ok_58 : jt_FP ((5, 38), (5, 14, 2, 0)) := ⟨_, _, _, _, rfl, by decide, jt_c5, jt_g 424 (by decide +kernel) rfl, rfl, by decide +kernel, by decide +kernel⟩
theorem jt_F_ok_59 : jt_FP ((5, 41), (5, 15, 2, 0)) := ⟨_, _, _, _, rfl, by decide, jt_c5, jt_g 425 (by decide +kernel) rfl, rfl, by decide +kernel, by decide +kernel⟩
theorem jt_F_ok_60 : jt_FP ((5, 44), (5, 16, 2, 0)) := ⟨_, _, _, _, rfl, by decide, jt_c5, jt_g 426 (by decide +kernel) rfl, rfl, by decide +kernel, by decide +kernel⟩
theorem jt_F_ok_61 : jt_FP ((5, 47), (5, 17, 2, 0)) := ⟨_, _, _, _, rfl, by decide, jt_c5, jt_g 427 (by decide +kernel) rfl, rfl, by decide +kernel, by decide +kernel⟩
theorem jt_F_ok_62 : jt_FP ((5, 50), (5, 18, 2, 0)) := ⟨_, _, _, _, rfl, by decide, jt_c5, jt_g 428 (by decide +kernel) rfl, rfl, by decide +kernel, by decide +kernel⟩
theorem jt_F_ok_63 : jt_FP ((5, 53), (5, 19, 2, 0)) := ⟨_, _, _, _, rfl, by decide, jt_c5, jt_g 429 (by decide +kernel) rfl, rfl, by decide +kernel, by decide +kernel⟩
theorem jt_F_ok_64 : jt_FP ((5, 56), (5, 20, 2, 0)) := ⟨_, _, _, _, rfl, by decide, jt_c5, jt_g 430 (by decide +kernel) rfl, rfl, by decide +kernel, by decide +kernel⟩
theorem jt_F_ok_65 : jt_FP ((5, 59), (5, 21, 2, 0)) := ⟨_, _, _, _, rfl, by decide, jt_c5, jt_g 431 (by decide +kernel) rfl, rfl, by decide +kernel, by decide +kernel⟩
theorem jt_F_ok_66 : jt_FP ((5, 62), (5, 22, 2, 0)) := ⟨_, _, _, _, rfl, by decide, jt_c5, jt_g 432 (by decide +kernel) rfl, rfl, by decide +kernel, by decide +kernel⟩
theorem jt_F_ok_67 : jt_FP ((5, 65), (5, 23, 2, 0)) := ⟨_, _, _, _, rfl, by decide, jt_c5, jt_g 433 (by decide +kernel) rfl, rfl, by decide +kernel, by decide +kernel⟩
theorem jt_F_ok_68 : jt_FP ((5, 68), (5, 24, 2, 0)) := ⟨_, _, _, _, rfl, by decide, jt_c5, jt_g 434 (by decide +kernel) rfl, rfl, by decide +kernel, by decide +kernel⟩
theorem jt_F_ok_69 : jt_FP ((5, 71), (5, 25, 2, 0)) := ⟨_, _, _, _, rfl, by decide, jt_c5, jt_g 435 (by decide +kernel) rfl, rfl, by decide +kernel, by decide +kernel⟩
theorem jt_F_ok_70 : jt_FP ((5, 74), (5, 26, 2, 0)) := ⟨_, _, _, _, rfl, by decide, jt_c5, jt_g 436 (by decide +kernel) rfl, rfl, by decide +kernel, by decide +kernel⟩
theorem jt_F_ok_71 : jt_FP ((5, 77), (5, 27, 2, 0)) := ⟨_, _, _, _, rfl, by decide, jt_c5, jt_g 437 (by decide +kernel) rfl, rfl, by decide +kernel, by decide +kernel⟩
theorem jt_F_ok_72 : jt_FP ((5, 80), (5, 28, 2, 0)) := ⟨_, _, _, _, rfl, by decide, jt_c5, jt_g 438 (by decide +kernel) rfl, rfl, by decide +kernel, by decide +kernel⟩
theorem jt_F_ok_73 : jt_FP ((5, 83), (5, 29, 2, 0)) := ⟨_, _, _, _, rfl, by decide, jt_c5, jt_g 439 (by decide +kernel) rfl, rfl, by decide +kernel, by decide +kernel⟩
theorem jt_F_ok : ∀ e ∈ jt_F, jt_FP e := List.forall_mem_cons.mpr ⟨jt_F_ok_0, List.forall_mem_cons.mpr ⟨jt_F_ok_1, List.forall_mem_cons.mpr ⟨jt_F_ok_2, List.forall_mem_cons.mpr ⟨jt_F_ok_3, List.forall_mem_cons.mpr ⟨jt_F_ok_4, List.forall_mem_cons.mpr ⟨jt_F_ok_5, List.forall_mem_cons.mpr ⟨jt_F_ok_6, List.forall_mem_cons.mpr ⟨jt_F_ok_7, List.forall_mem_cons.mpr ⟨jt_F_ok_8, List.forall_mem_cons.mpr ⟨jt_F_ok_9, List.forall_mem_cons.mpr ⟨jt_F_ok_10, List.forall_mem_cons.mpr ⟨jt_F_ok_11, List.forall_mem_cons.mpr ⟨jt_F_ok_12, List.forall_mem_cons.mpr ⟨jt_F_ok_13, List.forall_mem_cons.mpr ⟨jt_F_ok_14, List.forall_mem_cons.mpr ⟨jt_F_ok_15, List.forall_mem_cons.mpr ⟨jt_F_ok_16, List.forall_mem_cons.mpr ⟨jt_F_ok_17, List.forall_mem_cons.mpr ⟨jt_F_ok_18, List.forall_mem_cons.mpr ⟨jt_F_ok_19, List.forall_mem_cons.mpr ⟨jt_F_ok_20, List.forall_mem_cons.mpr ⟨jt_F_ok_21, List.forall_mem_cons.mpr ⟨jt_F_ok_22, List.forall_mem_cons.mpr ⟨jt_F_ok_23, List.forall_mem_cons.mpr ⟨jt_F_ok_24, List.forall_mem_cons.mpr ⟨jt_F_ok_25, List.forall_mem_cons.mpr ⟨jt_F_ok_26, List.forall_mem_cons.mpr ⟨jt_F_ok_27, List.forall_mem_cons.mpr ⟨jt_F_ok_28, List.forall_mem_cons.mpr ⟨jt_F_ok_29, List.forall_mem_cons.mpr ⟨jt_F_ok_30, List.forall_mem_cons.mpr ⟨jt_F_ok_31, List.forall_mem_cons.mpr ⟨jt_F_ok_32, List.forall_mem_cons.mpr ⟨jt_F_ok_33, List.forall_mem_cons.mpr ⟨jt_F_ok_34, List.forall_mem_cons.mpr ⟨jt_F_ok_35, List.forall_mem_cons.mpr ⟨jt_F_ok_36, List.forall_mem_cons.mpr ⟨jt_F_ok_37, List.forall_mem_cons.mpr ⟨jt_F_ok_38, List.forall_mem_cons.mpr ⟨jt_F_ok_39, List.forall_mem_cons.mpr ⟨jt_F_ok_40, List.forall_mem_cons.mpr ⟨jt_F_ok_41, List.forall_mem_cons.mpr ⟨jt_F_ok_42, List.forall_mem_cons.mpr ⟨jt_F_ok_43, List.forall_mem_cons.mpr ⟨jt_F_ok_44, List.forall_mem_cons.mpr ⟨jt_F_ok_45, List.forall_mem_cons.mpr ⟨jt_F_ok_46, List.forall_mem_cons.mpr ⟨jt_F_ok_47, List.forall_mem_cons.mpr ⟨jt_F_ok_48, List.forall_mem_cons.mpr ⟨jt_F_ok_49, List.forall_mem_cons.mpr ⟨jt_F_ok_50, List.forall_mem_cons.mpr ⟨jt_F_ok_51, List.forall_mem_cons.mpr ⟨jt_F_ok_52, List.forall_mem_cons.mpr ⟨jt_F_ok_53, List.forall_mem_cons.mpr ⟨jt_F_ok_54, List.forall_mem_cons.mpr ⟨jt_F_ok_55, List.forall_mem_cons.mpr ⟨jt_F_ok_56, List.forall_mem_cons.mpr ⟨jt_F_ok_57, List.forall_mem_cons.mpr ⟨jt_F_ok_58, List.forall_mem_cons.mpr ⟨jt_F_ok_59, List.forall_mem_cons.mpr ⟨jt_F_ok_60, List.forall_mem_cons.mpr ⟨jt_F_ok_61, List.forall_mem_cons.mpr ⟨jt_F_ok_62, List.forall_mem_cons.mpr ⟨jt_F_ok_63, List.forall_mem_cons.mpr ⟨jt_F_ok_64, List.forall_mem_cons.mpr ⟨jt_F_ok_65, List.forall_mem_cons.mpr ⟨jt_F_ok_66, List.forall_mem_cons.mpr ⟨jt_F_ok_67, List.forall_mem_cons.mpr ⟨jt_F_ok_68, List.forall_mem_cons.mpr ⟨jt_F_ok_69, List.forall_mem_cons.mpr ⟨jt_F_ok_70, List.forall_mem_cons.mpr ⟨jt_F_ok_71, List.forall_mem_cons.mpr ⟨jt_F_ok_72, List.forall_mem_cons.mpr ⟨jt_F_ok_73, fun _ h => absurd h List.not_mem_nil⟩⟩⟩⟩⟩⟩⟩⟩⟩⟩⟩⟩⟩⟩⟩⟩⟩⟩⟩⟩⟩⟩⟩⟩⟩⟩⟩⟩⟩⟩⟩⟩⟩⟩⟩⟩⟩⟩⟩⟩⟩⟩⟩⟩⟩⟩⟩⟩⟩⟩⟩⟩⟩⟩⟩⟩⟩⟩⟩⟩⟩⟩⟩⟩⟩⟩⟩⟩⟩⟩⟩⟩⟩⟩
theorem jt_fld_ok {c k : Nat} {q : Nat × Nat × Nat × Nat} (h : jt_fld c k = some q) : jt_FP ((c, k), q) := jt_F_ok _ (jt_look h)
def jX_CC_init : jx_X := (0, prog_1_method_1_code, 4, none, true)
def jX_CC_deposit : jx_X := (0, prog_1_method_2_code, 5, (some .int), false)
def jX_CC_isUser : jx_X := (0, prog_1_method_24_code, 1, (some .boolean), false)
def jX_Co_init : jx_X := (1, prog_3_method_1_code, 2, none, true)
def jX_Ex_init : jx_X := (2, prog_5_method_1_code, 1, none, true)
def jX_CC_pay : jx_X := (0, prog_1_method_25_code, 3, none, false)
def jX_Bl_init : jx_X := (3, prog_2_method_1_code, 2, none, true)
def jX_CC_mix : jx_X := (0, prog_1_method_21_code, 4, (some .int), false)
def jX_En_init : jx_X := (4, prog_4_method_1_code, 7, none, true)
def jX_CC_append : jx_X := (0, prog_1_method_31_code, 2, (some .int), false)
def jX_Bl_growTree : jx_X := (3, prog_2_method_2_code, 4, none, false)
def jX_CC_join : jx_X := (0, prog_1_method_22_code, 3, (some .int), false)
def jX_CC_send : jx_X := (0, prog_1_method_3_code, 5, (some .boolean), false)
def jX_CC_heldSince : jx_X := (0, prog_1_method_30_code, 3, (some .int), false)
def jX_CC_transfer : jx_X := (0, prog_1_method_33_code, 8, (some (.object "CoinChild$Entry")), false)
def jX_CC_signature : jx_X := (0, prog_1_method_32_code, 5, (some .int), false)
def jX_CC_forge : jx_X := (0, prog_1_method_4_code, 6, (some .boolean), false)
def jX_CC_coinAt : jx_X := (0, prog_1_method_26_code, 2, (some (.object "CoinChild$Coin")), false)
def jX_CC_build : jx_X := (0, prog_1_method_5_code, 6, (some .int), false)
def jX_CC_isFitToFollow : jx_X := (0, prog_1_method_41_code, 6, (some .boolean), false)
def jX_CC_lastWith : jx_X := (0, prog_1_method_38_code, 3, (some .int), false)
def jX_CC_entryIn : jx_X := (0, prog_1_method_29_code, 4, (some (.object "CoinChild$Entry")), false)
def jX_CC_blockAt : jx_X := (0, prog_1_method_28_code, 2, (some (.object "CoinChild$Block")), false)
def jX_CC_show : jx_X := (0, prog_1_method_6_code, 3, (some .boolean), false)
def jX_CC_accept : jx_X := (0, prog_1_method_7_code, 6, (some .int), false)
def jX_CC_isWithheldAfter : jx_X := (0, prog_1_method_39_code, 4, (some .boolean), false)
def jX_CC_isSoundChain : jx_X := (0, prog_1_method_40_code, 5, (some .boolean), false)
def jX_CC_nextOf : jx_X := (0, prog_1_method_37_code, 4, (some .int), false)
def jX_CC_spends : jx_X := (0, prog_1_method_35_code, 6, (some .boolean), false)
def jX_CC_exit : jx_X := (0, prog_1_method_8_code, 6, (some .int), false)
def jX_CC_isFounded : jx_X := (0, prog_1_method_36_code, 4, (some .boolean), false)
def jX_Ex_begin : jx_X := (2, prog_5_method_2_code, 6, none, false)
def jX_CC_after : jx_X := (0, prog_1_method_9_code, 6, (some .int), false)
def jX_CC_refusalToChallenge : jx_X := (0, prog_1_method_42_code, 5, (some .int), false)
def jX_CC_exitOf : jx_X := (0, prog_1_method_27_code, 3, (some (.object "CoinChild$Exit")), false)
def jX_CC_cancel : jx_X := (0, prog_1_method_43_code, 4, none, false)
def jX_Ex_isChallengedBy : jx_X := (2, prog_5_method_5_code, 2, (some .boolean), false)
def jX_Ex_stateOf : jx_X := (2, prog_5_method_3_code, 2, (some .int), false)
def jX_Ex_challengerBy : jx_X := (2, prog_5_method_6_code, 2, (some .int), false)
def jX_CC_between : jx_X := (0, prog_1_method_10_code, 6, (some .int), false)
def jX_CC_before : jx_X := (0, prog_1_method_11_code, 6, (some .int), false)
def jX_Ex_wasChallengedBy : jx_X := (2, prog_5_method_4_code, 2, (some .boolean), false)
def jX_CC_hasGoodEntry : jx_X := (0, prog_1_method_34_code, 4, (some .boolean), false)
def jX_Ex_openChallenge : jx_X := (2, prog_5_method_7_code, 3, none, false)
def jX_CC_answer : jx_X := (0, prog_1_method_12_code, 5, (some .int), false)
def jX_Ex_closeChallenge : jx_X := (2, prog_5_method_8_code, 2, none, false)
def jX_CC_finalise : jx_X := (0, prog_1_method_13_code, 5, (some .int), false)
def jX_Ex_leastChallenge : jx_X := (2, prog_5_method_9_code, 2, (some .int), false)
def jX_CC_watch : jx_X := (0, prog_1_method_14_code, 4, (some .int), false)
def jX_CC_guardCoin : jx_X := (0, prog_1_method_44_code, 6, (some .int), false)
def jX_CC_countIfDone : jx_X := (0, prog_1_method_47_code, 1, (some .int), false)
def jX_CC_answerAll : jx_X := (0, prog_1_method_46_code, 5, (some .int), false)
def jX_CC_contest : jx_X := (0, prog_1_method_45_code, 5, (some .int), false)
def jX_CC_tick : jx_X := (0, prog_1_method_15_code, 2, (some .int), false)
def jX_CC_user : jx_X := (0, prog_1_method_16_code, 3, (some .int), false)
def jX_CC_coin : jx_X := (0, prog_1_method_17_code, 4, (some .int), false)
def jX_Ex_look : jx_X := (2, prog_5_method_12_code, 2, (some .int), false)
def jX_Ex_countChallenges : jx_X := (2, prog_5_method_10_code, 3, (some .int), false)
def jX_CC_block : jx_X := (0, prog_1_method_18_code, 4, (some .int), false)
def jX_Bl_root : jx_X := (3, prog_2_method_3_code, 1, (some .int), false)
def jX_Bl_look : jx_X := (3, prog_2_method_4_code, 4, (some .int), false)
def jX_CC_proves : jx_X := (0, prog_1_method_19_code, 9, (some .boolean), false)
def jX_CC_climb : jx_X := (0, prog_1_method_23_code, 4, (some .int), false)
def jX_CC_locked : jx_X := (0, prog_1_method_20_code, 4, (some .int), false)
def jX_Ex_bonds : jx_X := (2, prog_5_method_11_code, 1, (some .int), false)
def jX_Lw_cell : jx_X := (6, method_2_code, 2, (some .int), false)
def jX_RM_init : jx_X := (5, prog_7_method_1_code, 4, none, true)
def jX_RM_deposit : jx_X := (5, prog_7_method_13_code, 4, (some .int), false)
def jX_RM_isUser : jx_X := (5, prog_7_method_4_code, 1, (some .boolean), false)
def jX_RM_newBlock : jx_X := (5, prog_7_method_12_code, 2, none, false)
def jX_RM_send : jx_X := (5, prog_7_method_15_code, 6, (some .boolean), false)
def jX_RM_isCoin : jx_X := (5, prog_7_method_5_code, 2, (some .boolean), false)
def jX_RM_signature : jx_X := (5, prog_7_method_3_code, 6, (some .int), false)
def jX_RM_mix : jx_X := (5, prog_7_method_2_code, 4, (some .int), false)
def jX_RM_note : jx_X := (5, prog_7_method_14_code, 6, none, false)
def jX_RM_forge : jx_X := (5, prog_7_method_16_code, 7, (some .boolean), false)
def jX_RM_build : jx_X := (5, prog_7_method_18_code, 6, (some .int), false)
def jX_RM_fits : jx_X := (5, prog_7_method_17_code, 4, (some .boolean), false)
def jX_RM_latest : jx_X := (5, prog_7_method_10_code, 4, (some .int), false)
def jX_RM_show : jx_X := (5, prog_7_method_19_code, 2, (some .boolean), false)
def jX_RM_isBlock : jx_X := (5, prog_7_method_6_code, 2, (some .boolean), false)
def jX_RM_accept : jx_X := (5, prog_7_method_20_code, 4, (some .int), false)
def jX_RM_sound : jx_X := (5, prog_7_method_11_code, 5, (some .boolean), false)
def jX_RM_spends : jx_X := (5, prog_7_method_8_code, 6, (some .boolean), false)
def jX_RM_good : jx_X := (5, prog_7_method_7_code, 4, (some .boolean), false)
def jX_RM_exit : jx_X := (5, prog_7_method_21_code, 6, (some .int), false)
def jX_RM_after : jx_X := (5, prog_7_method_24_code, 5, (some .int), false)
def jX_RM_refused : jx_X := (5, prog_7_method_23_code, 4, (some .int), false)
def jX_RM_cancel : jx_X := (5, prog_7_method_22_code, 4, none, false)
def jX_RM_between : jx_X := (5, prog_7_method_25_code, 5, (some .int), false)
def jX_RM_before : jx_X := (5, prog_7_method_26_code, 5, (some .int), false)
def jX_RM_answer : jx_X := (5, prog_7_method_27_code, 4, (some .int), false)
def jX_RM_finalise : jx_X := (5, prog_7_method_28_code, 4, (some .int), false)
def jX_RM_watch : jx_X := (5, prog_7_method_31_code, 5, (some .int), false)
def jX_RM_guard : jx_X := (5, prog_7_method_30_code, 9, (some .int), false)
def jX_RM_hiddenAfter : jx_X := (5, prog_7_method_29_code, 4, (some .boolean), false)
def jX_RM_next : jx_X := (5, prog_7_method_9_code, 5, (some .int), false)
def jX_RM_tick : jx_X := (5, prog_7_method_32_code, 2, (some .int), false)
def jX_RM_user : jx_X := (5, prog_7_method_33_code, 3, (some .int), false)
def jX_RM_coin : jx_X := (5, prog_7_method_35_code, 3, (some .int), false)
def jX_RM_standing : jx_X := (5, prog_7_method_34_code, 4, (some .int), false)
def jX_RM_block : jx_X := (5, prog_7_method_39_code, 5, (some .int), false)
def jX_RM_level : jx_X := (5, prog_7_method_38_code, 5, none, false)
def jX_RM_leaf : jx_X := (5, prog_7_method_36_code, 4, (some .int), false)
def jX_RM_over : jx_X := (5, prog_7_method_37_code, 3, (some .int), false)
def jX_RM_proves : jx_X := (5, prog_7_method_40_code, 8, (some .boolean), false)
def jX_RM_locked : jx_X := (5, prog_7_method_41_code, 3, (some .int), false)
def jt_Ms : List (MethodName × jx_X × Nat) := [(⟨"CoinChild", "<init>", "(II)V"⟩, jX_CC_init, 3), (⟨"CoinChild", "deposit", "(II)I"⟩, jX_CC_deposit, 3), (⟨"CoinChild", "isUser", "(I)Z"⟩, jX_CC_isUser, 1), (⟨"CoinChild$Coin", "<init>", "(I)V"⟩, jX_Co_init, 2), (⟨"CoinChild$Exit", "<init>", "()V"⟩, jX_Ex_init, 1), (⟨"CoinChild", "pay", "(II)V"⟩, jX_CC_pay, 3), (⟨"CoinChild$Block", "<init>", "(Z)V"⟩, jX_Bl_init, 2), (⟨"CoinChild", "mix", "(III)I"⟩, jX_CC_mix, 3), (⟨"CoinChild$Entry", "<init>", "(ZIIIZI)V"⟩, jX_En_init, 7), (⟨"CoinChild", "append", "(LCoinChild$Block;)I"⟩, jX_CC_append, 2), (⟨"CoinChild$Block", "growTree", "()V"⟩, jX_Bl_growTree, 1), (⟨"CoinChild", "join", "(III)I"⟩, jX_CC_join, 3), (⟨"CoinChild", "send", "(III)Z"⟩, jX_CC_send, 4), (⟨"CoinChild", "heldSince", "(II)I"⟩, jX_CC_heldSince, 3), (⟨"CoinChild", "transfer", "(IIIII)LCoinChild$Entry;"⟩, jX_CC_transfer, 6), (⟨"CoinChild", "signature", "(IIII)I"⟩, jX_CC_signature, 5), (⟨"CoinChild", "forge", "(IIIII)Z"⟩, jX_CC_forge, 6), (⟨"CoinChild", "coinAt", "(I)LCoinChild$Coin;"⟩, jX_CC_coinAt, 2), (⟨"CoinChild", "build", "(ZZ)I"⟩, jX_CC_build, 3), (⟨"CoinChild", "isFitToFollow", "(ILCoinChild$Entry;)Z"⟩, jX_CC_isFitToFollow, 3), (⟨"CoinChild", "lastWith", "(I)I"⟩, jX_CC_lastWith, 2), (⟨"CoinChild", "entryIn", "(II)LCoinChild$Entry;"⟩, jX_CC_entryIn, 3), (⟨"CoinChild", "blockAt", "(I)LCoinChild$Block;"⟩, jX_CC_blockAt, 2), (⟨"CoinChild", "show", "(I)Z"⟩, jX_CC_show, 2), (⟨"CoinChild", "accept", "(II)I"⟩, jX_CC_accept, 3), (⟨"CoinChild", "isWithheldAfter", "(I)Z"⟩, jX_CC_isWithheldAfter, 2), (⟨"CoinChild", "isSoundChain", "(I)Z"⟩, jX_CC_isSoundChain, 2), (⟨"CoinChild", "nextOf", "(II)I"⟩, jX_CC_nextOf, 3), (⟨"CoinChild", "spends", "(III)Z"⟩, jX_CC_spends, 4), (⟨"CoinChild", "exit", "(III)I"⟩, jX_CC_exit, 4), (⟨"CoinChild", "isFounded", "(IILCoinChild$Entry;)Z"⟩, jX_CC_isFounded, 4), (⟨"CoinChild$Exit", "begin", "(IIII)V"⟩, jX_Ex_begin, 5), (⟨"CoinChild", "after", "(III)I"⟩, jX_CC_after, 4), (⟨"CoinChild", "refusalToChallenge", "(III)I"⟩, jX_CC_refusalToChallenge, 4), (⟨"CoinChild", "exitOf", "(I)LCoinChild$Exit;"⟩, jX_CC_exitOf, 2), (⟨"CoinChild", "cancel", "(LCoinChild$Exit;I)V"⟩, jX_CC_cancel, 3), (⟨"CoinChild$Exit", "isChallengedBy", "(I)Z"⟩, jX_Ex_isChallengedBy, 2), (⟨"CoinChild$Exit", "stateOf", "(I)I"⟩, jX_Ex_stateOf, 2), (⟨"CoinChild$Exit", "challengerBy", "(I)I"⟩, jX_Ex_challengerBy, 2), (⟨"CoinChild", "between", "(III)I"⟩, jX_CC_between, 4), (⟨"CoinChild", "before", "(III)I"⟩, jX_CC_before, 4), (⟨"CoinChild$Exit", "wasChallengedBy", "(I)Z"⟩, jX_Ex_wasChallengedBy, 2), (⟨"CoinChild", "hasGoodEntry", "(II)Z"⟩, jX_CC_hasGoodEntry, 3), (⟨"CoinChild$Exit", "openChallenge", "(II)V"⟩, jX_Ex_openChallenge, 3), (⟨"CoinChild", "answer", "(III)I"⟩, jX_CC_answer, 4), (⟨"CoinChild$Exit", "closeChallenge", "(I)V"⟩, jX_Ex_closeChallenge, 2), (⟨"CoinChild", "finalise", "(I)I"⟩, jX_CC_finalise, 2), (⟨"CoinChild$Exit", "leastChallenge", "()I"⟩, jX_Ex_leastChallenge, 1), (⟨"CoinChild", "watch", "(I)I"⟩, jX_CC_watch, 2), (⟨"CoinChild", "guardCoin", "(II)I"⟩, jX_CC_guardCoin, 3), (⟨"CoinChild", "countIfDone", "(I)I"⟩, jX_CC_countIfDone, 1), (⟨"CoinChild", "answerAll", "(ILCoinChild$Exit;)I"⟩, jX_CC_answerAll, 3), (⟨"CoinChild", "contest", "(IIILCoinChild$Exit;)I"⟩, jX_CC_contest, 5), (⟨"CoinChild", "tick", "(I)I"⟩, jX_CC_tick, 2), (⟨"CoinChild", "user", "(II)I"⟩, jX_CC_user, 3), (⟨"CoinChild", "coin", "(II)I"⟩, jX_CC_coin, 3), (⟨"CoinChild$Exit", "look", "(I)I"⟩, jX_Ex_look, 2), (⟨"CoinChild$Exit", "countChallenges", "()I"⟩, jX_Ex_countChallenges, 1), (⟨"CoinChild", "block", "(II)I"⟩, jX_CC_block, 3), (⟨"CoinChild$Block", "root", "()I"⟩, jX_Bl_root, 1), (⟨"CoinChild$Block", "look", "(I)I"⟩, jX_Bl_look, 2), (⟨"CoinChild", "proves", "(IIIIII)Z"⟩, jX_CC_proves, 7), (⟨"CoinChild", "climb", "(IIII)I"⟩, jX_CC_climb, 4), (⟨"CoinChild", "locked", "()I"⟩, jX_CC_locked, 1), (⟨"CoinChild$Exit", "bonds", "()I"⟩, jX_Ex_bonds, 1), (⟨"CoinChildLaw", "cell", "([II)I"⟩, jX_Lw_cell, 2), (⟨"CoinChildModel", "<init>", "(II)V"⟩, jX_RM_init, 3), (⟨"CoinChildModel", "deposit", "(II)I"⟩, jX_RM_deposit, 3), (⟨"CoinChildModel", "isUser", "(I)Z"⟩, jX_RM_isUser, 1), (⟨"CoinChildModel", "newBlock", "(Z)V"⟩, jX_RM_newBlock, 2), (⟨"CoinChildModel", "send", "(III)Z"⟩, jX_RM_send, 4), (⟨"CoinChildModel", "isCoin", "(I)Z"⟩, jX_RM_isCoin, 2), (⟨"CoinChildModel", "signature", "(IIII)I"⟩, jX_RM_signature, 5), (⟨"CoinChildModel", "mix", "(III)I"⟩, jX_RM_mix, 3), (⟨"CoinChildModel", "note", "(IIIII)V"⟩, jX_RM_note, 6), (⟨"CoinChildModel", "forge", "(IIIII)Z"⟩, jX_RM_forge, 6), (⟨"CoinChildModel", "build", "(ZZ)I"⟩, jX_RM_build, 3), (⟨"CoinChildModel", "fits", "(I)Z"⟩, jX_RM_fits, 2), (⟨"CoinChildModel", "latest", "(I)I"⟩, jX_RM_latest, 2), (⟨"CoinChildModel", "show", "(I)Z"⟩, jX_RM_show, 2), (⟨"CoinChildModel", "isBlock", "(I)Z"⟩, jX_RM_isBlock, 2), (⟨"CoinChildModel", "accept", "(II)I"⟩, jX_RM_accept, 3), (⟨"CoinChildModel", "sound", "(I)Z"⟩, jX_RM_sound, 2), (⟨"CoinChildModel", "spends", "(III)Z"⟩, jX_RM_spends, 4), (⟨"CoinChildModel", "good", "(II)Z"⟩, jX_RM_good, 3), (⟨"CoinChildModel", "exit", "(III)I"⟩, jX_RM_exit, 4), (⟨"CoinChildModel", "after", "(III)I"⟩, jX_RM_after, 4), (⟨"CoinChildModel", "refused", "(III)I"⟩, jX_RM_refused, 4), (⟨"CoinChildModel", "cancel", "(II)V"⟩, jX_RM_cancel, 3), (⟨"CoinChildModel", "between", "(III)I"⟩, jX_RM_between, 4), (⟨"CoinChildModel", "before", "(III)I"⟩, jX_RM_before, 4), (⟨"CoinChildModel", "answer", "(III)I"⟩, jX_RM_answer, 4), (⟨"CoinChildModel", "finalise", "(I)I"⟩, jX_RM_finalise, 2), (⟨"CoinChildModel", "watch", "(I)I"⟩, jX_RM_watch, 2), (⟨"CoinChildModel", "guard", "(III)I"⟩, jX_RM_guard, 4), (⟨"CoinChildModel", "hiddenAfter", "(I)Z"⟩, jX_RM_hiddenAfter, 2), (⟨"CoinChildModel", "next", "(II)I"⟩, jX_RM_next, 3), (⟨"CoinChildModel", "tick", "(I)I"⟩, jX_RM_tick, 2), (⟨"CoinChildModel", "user", "(II)I"⟩, jX_RM_user, 3), (⟨"CoinChildModel", "coin", "(II)I"⟩, jX_RM_coin, 3), (⟨"CoinChildModel", "standing", "(I)I"⟩, jX_RM_standing, 2), (⟨"CoinChildModel", "block", "(II)I"⟩, jX_RM_block, 3), (⟨"CoinChildModel", "level", "(II)V"⟩, jX_RM_level, 3), (⟨"CoinChildModel", "leaf", "(II)I"⟩, jX_RM_leaf, 3), (⟨"CoinChildModel", "over", "(III)I"⟩, jX_RM_over, 3), (⟨"CoinChildModel", "proves", "(IIIIII)Z"⟩, jX_RM_proves, 7), (⟨"CoinChildModel", "locked", "()I"⟩, jX_RM_locked, 1)]
def jt_M (k : Nat) : Option (MethodName × jx_X × Nat) := jt_Ms[k]?
def jt_MP (e : MethodName × jx_X × Nat) : Prop := plainName e.1.cls = true ∧ e.1.cls = jt_cn e.2.1.1 ∧ (e.2.1.2.2.2.2 = true → e.1.name = "<init>") ∧ Cond.code e.1 e.2.1.2.1 e.2.1.2.2.1 e.2.1.2.2.2.1 ∈ jt_G ∧ Cond.initialized e.1.cls ∈ jt_G ∧ (e.1.cls ≠ "java/lang/invoke/MethodHandle" ∧ e.1.cls ≠ "java/lang/invoke/VarHandle") ∧ e.2.1.2.2.1 ≤ 19 ∧ e.2.2 ≤ e.2.1.2.2.1
theorem jt_M_ok_0 : jt_MP (⟨"CoinChild", "<init>", "(II)V"⟩, jX_CC_init, 3) := ⟨by decide +kernel, rfl, by decide +kernel, jt_g 12 (by decide +kernel) rfl, jt_g 1 (by decide +kernel) rfl, by decide +kernel, by decide, by decide⟩
theorem jt_M_ok_1 : jt_MP (⟨"CoinChild", "deposit", "(II)I"⟩, jX_CC_deposit, 3) := ⟨by decide +kernel, rfl, by decide +kernel, jt_g 66 (by decide +kernel) rfl, jt_g 1 (by decide +kernel) rfl, by decide +kernel, by decide, by decide⟩
theorem jt_M_ok_2 : jt_MP (⟨"CoinChild", "isUser", "(I)Z"⟩, jX_CC_isUser, 1) := ⟨by decide +kernel, rfl, by decide +kernel, jt_g 69 (by decide +kernel) rfl, jt_g 1 (by decide +kernel) rfl, by decide +kernel, by decide, by decide⟩
theorem jt_M_ok_3 : jt_MP (⟨"CoinChild$Coin", "<init>", "(I)V"⟩, jX_Co_init, 2) := ⟨by decide +kernel, rfl, by decide +kernel, jt_g 73 (by decide +kernel) rfl, jt_g 4 (by decide +kernel) rfl, by decide +kernel, by decide, by decide⟩
theorem jt_M_ok_4 : jt_MP (⟨"CoinChild$Exit", "<init>", "()V"⟩, jX_Ex_init, 1) := ⟨by decide +kernel, rfl, by decide +kernel, jt_g 79 (by decide +kernel) rfl, jt_g 5 (by decide +kernel) rfl, by decide +kernel, by decide, by decide⟩
theorem jt_M_ok_5 : jt_MP (⟨"CoinChild", "pay", "(II)V"⟩, jX_CC_pay, 3) := ⟨by decide +kernel, rfl, by decide +kernel, jt_g 120 (by decide +kernel) rfl, jt_g 1 (by decide +kernel) rfl, by decide +kernel, by decide, by decide⟩
theorem jt_M_ok_6 : jt_MP (⟨"CoinChild$Block", "<init>", "(Z)V"⟩, jX_Bl_init, 2) := ⟨by decide +kernel, rfl, by decide +kernel, jt_g 124 (by decide +kernel) rfl, jt_g 6 (by decide +kernel) rfl, by decide +kernel, by decide, by decide⟩
theorem jt_M_ok_7 : jt_MP (⟨"CoinChild", "mix", "(III)I"⟩, jX_CC_mix, 3) := ⟨by decide +kernel, rfl, by decide +kernel, jt_g 142 (by decide +kernel) rfl, jt_g 1 (by decide +kernel) rfl, by decide +kernel, by decide, by decide⟩
theorem jt_M_ok_8 : jt_MP (⟨"CoinChild$Entry", "<init>", "(ZIIIZI)V"⟩, jX_En_init, 7) := ⟨by decide +kernel, rfl, by decide +kernel, jt_g 146 (by decide +kernel) rfl, jt_g 7 (by decide +kernel) rfl, by decide +kernel, by decide, by decide⟩
theorem jt_M_ok_9 : jt_MP (⟨"CoinChild", "append", "(LCoinChild$Block;)I"⟩, jX_CC_append, 2) := ⟨by decide +kernel, rfl, by decide +kernel, jt_g 176 (by decide +kernel) rfl, jt_g 1 (by decide +kernel) rfl, by decide +kernel, by decide, by decide⟩
theorem jt_M_ok_10 : jt_MP (⟨"CoinChild$Block", "growTree", "()V"⟩, jX_Bl_growTree, 1) := ⟨by decide +kernel, rfl, by decide +kernel, jt_g 180 (by decide +kernel) rfl, jt_g 6 (by decide +kernel) rfl, by decide +kernel, by decide, by decide⟩
theorem jt_M_ok_11 : jt_MP (⟨"CoinChild", "join", "(III)I"⟩, jX_CC_join, 3) := ⟨by decide +kernel, rfl, by decide +kernel, jt_g 183 (by decide +kernel) rfl, jt_g 1 (by decide +kernel) rfl, by decide +kernel, by decide, by decide⟩
theorem jt_M_ok_12 : jt_MP (⟨"CoinChild", "send", "(III)Z"⟩, jX_CC_send, 4) := ⟨by decide +kernel, rfl, by decide +kernel, jt_g 187 (by decide +kernel) rfl, jt_g 1 (by decide +kernel) rfl, by decide +kernel, by decide, by decide⟩
theorem jt_M_ok_13 : jt_MP (⟨"CoinChild", "heldSince", "(II)I"⟩, jX_CC_heldSince, 3) := ⟨by decide +kernel, rfl, by decide +kernel, jt_g 191 (by decide +kernel) rfl, jt_g 1 (by decide +kernel) rfl, by decide +kernel, by decide, by decide⟩
theorem jt_M_ok_14 : jt_MP (⟨"CoinChild", "transfer", "(IIIII)LCoinChild$Entry;"⟩, jX_CC_transfer, 6) := ⟨by decide +kernel, rfl, by decide +kernel, jt_g 195 (by decide +kernel) rfl, jt_g 1 (by decide +kernel) rfl, by decide +kernel, by decide, by decide⟩
theorem jt_M_ok_15 : jt_MP (⟨"CoinChild", "signature", "(IIII)I"⟩, jX_CC_signature, 5) := ⟨by decide +kernel, rfl, by decide +kernel, jt_g 199 (by decide +kernel) rfl, jt_g 1 (by decide +kernel) rfl, by decide +kernel, by decide, by decide⟩
theorem jt_M_ok_16 : jt_MP (⟨"CoinChild", "forge", "(IIIII)Z"⟩, jX_CC_forge, 6) := ⟨by decide +kernel, rfl, by decide +kernel, jt_g 203 (by decide +kernel) rfl, jt_g 1 (by decide +kernel) rfl, by decide +kernel, by decide, by decide⟩
theorem jt_M_ok_17 : jt_MP (⟨"CoinChild", "coinAt", "(I)LCoinChild$Coin;"⟩, jX_CC_coinAt, 2) := ⟨by decide +kernel, rfl, by decide +kernel, jt_g 207 (by decide +kernel) rfl, jt_g 1 (by decide +kernel) rfl, by decide +kernel, by decide, by decide⟩
theorem jt_M_ok_18 : jt_MP (⟨"CoinChild", "build", "(ZZ)I"⟩, jX_CC_build, 3) := ⟨by decide +kernel, rfl, by decide +kernel, jt_g 211 (by decide +kernel) rfl, jt_g 1 (by decide +kernel) rfl, by decide +kernel, by decide, by decide⟩
theorem jt_M_ok_19 : jt_MP (⟨"CoinChild", "isFitToFollow", "(ILCoinChild$Entry;)Z"⟩, jX_CC_isFitToFollow, 3) := ⟨by decide +kernel, rfl, by decide +kernel, jt_g 215 (by decide +kernel) rfl, jt_g 1 (by decide +kernel) rfl, by decide +kernel, by decide, by decide⟩
theorem jt_M_ok_20 : jt_MP (⟨"CoinChild", "lastWith", "(I)I"⟩, jX_CC_lastWith, 2) := ⟨by decide +kernel, rfl, by decide +kernel, jt_g 219 (by decide +kernel) rfl, jt_g 1 (by decide +kernel) rfl, by decide +kernel, by decide, by decide⟩
theorem jt_M_ok_21 : jt_MP (⟨"CoinChild", "entryIn", "(II)LCoinChild$Entry;"⟩, jX_CC_entryIn, 3) := ⟨by decide +kernel, rfl, by decide +kernel, jt_g 223 (by decide +kernel) rfl, jt_g 1 (by decide +kernel) rfl, by decide +kernel, by decide, by decide⟩
theorem jt_M_ok_22 : jt_MP (⟨"CoinChild", "blockAt", "(I)LCoinChild$Block;"⟩, jX_CC_blockAt, 2) := ⟨by decide +kernel, rfl, by decide +kernel, jt_g 227 (by decide +kernel) rfl, jt_g 1 (by decide +kernel) rfl, by decide +kernel, by decide, by decide⟩
theorem jt_M_ok_23 : jt_MP (⟨"CoinChild", "show", "(I)Z"⟩, jX_CC_show, 2) := ⟨by decide +kernel, rfl, by decide +kernel, jt_g 231 (by decide +kernel) rfl, jt_g 1 (by decide +kernel) rfl, by decide +kernel, by decide, by decide⟩
theorem jt_M_ok_24 : jt_MP (⟨"CoinChild", "accept", "(II)I"⟩, jX_CC_accept, 3) := ⟨by decide +kernel, rfl, by decide +kernel, jt_g 235 (by decide +kernel) rfl, jt_g 1 (by decide +kernel) rfl, by decide +kernel, by decide, by decide⟩
theorem jt_M_ok_25 : jt_MP (⟨"CoinChild", "isWithheldAfter", "(I)Z"⟩, jX_CC_isWithheldAfter, 2) := ⟨by decide +kernel, rfl, by decide +kernel, jt_g 239 (by decide +kernel) rfl, jt_g 1 (by decide +kernel) rfl, by decide +kernel, by decide, by decide⟩
theorem jt_M_ok_26 : jt_MP (⟨"CoinChild", "isSoundChain", "(I)Z"⟩, jX_CC_isSoundChain, 2) := ⟨by decide +kernel, rfl, by decide +kernel, jt_g 243 (by decide +kernel) rfl, jt_g 1 (by decide +kernel) rfl, by decide +kernel, by decide, by decide⟩
theorem jt_M_ok_27 : jt_MP (⟨"CoinChild", "nextOf", "(II)I"⟩, jX_CC_nextOf, 3) := ⟨by decide +kernel, rfl, by decide +kernel, jt_g 247 (by decide +kernel) rfl, jt_g 1 (by decide +kernel) rfl, by decide +kernel, by decide, by decide⟩
theorem jt_M_ok_28 : jt_MP (⟨"CoinChild", "spends", "(III)Z"⟩, jX_CC_spends, 4) := ⟨by decide +kernel, rfl, by decide +kernel, jt_g 251 (by decide +kernel) rfl, jt_g 1 (by decide +kernel) rfl, by decide +kernel, by decide, by decide⟩
theorem jt_M_ok_29 : jt_MP (⟨"CoinChild", "exit", "(III)I"⟩, jX_CC_exit, 4) := ⟨by decide +kernel, rfl, by decide +kernel, jt_g 255 (by decide +kernel) rfl, jt_g 1 (by decide +kernel) rfl, by decide +kernel, by decide, by decide⟩
theorem jt_M_ok_30 : jt_MP (⟨"CoinChild", "isFounded", "(IILCoinChild$Entry;)Z"⟩, jX_CC_isFounded, 4) := ⟨by decide +kernel, rfl, by decide +kernel, jt_g 259 (by decide +kernel) rfl, jt_g 1 (by decide +kernel) rfl, by decide +kernel, by decide, by decide⟩
theorem jt_M_ok_31 : jt_MP (⟨"CoinChild$Exit", "begin", "(IIII)V"⟩, jX_Ex_begin, 5) := ⟨by decide +kernel, rfl, by decide +kernel, jt_g 263 (by decide +kernel) rfl, jt_g 5 (by decide +kernel) rfl, by decide +kernel, by decide, by decide⟩
theorem jt_M_ok_32 : jt_MP (⟨"CoinChild", "after", "(III)I"⟩, jX_CC_after, 4) := ⟨by decide +kernel, rfl, by decide +kernel, jt_g 267 (by decide +kernel) rfl, jt_g 1 (by decide +kernel) rfl, by decide +kernel, by decide, by decide⟩
theorem jt_M_ok_33 : jt_MP (⟨"CoinChild", "refusalToChallenge", "(III)I"⟩, jX_CC_refusalToChallenge, 4) := ⟨by decide +kernel, rfl, by decide +kernel, jt_g 271 (by decide +kernel) rfl, jt_g 1 (by decide +kernel) rfl, by decide +kernel, by decide, by decide⟩
theorem jt_M_ok_34 : jt_MP (⟨"CoinChild", "exitOf", "(I)LCoinChild$Exit;"⟩, jX_CC_exitOf, 2) := ⟨by decide +kernel, rfl, by decide +kernel, jt_g 275 (by decide +kernel) rfl, jt_g 1 (by decide +kernel) rfl, by decide +kernel, by decide, by decide⟩
theorem jt_M_ok_35 : jt_MP (⟨"CoinChild", "cancel", "(LCoinChild$Exit;I)V"⟩, jX_CC_cancel, 3) := ⟨by decide +kernel, rfl, by decide +kernel, jt_g 279 (by decide +kernel) rfl, jt_g 1 (by decide +kernel) rfl, by decide +kernel, by decide, by decide⟩
theorem jt_M_ok_36 : jt_MP (⟨"CoinChild$Exit", "isChallengedBy", "(I)Z"⟩, jX_Ex_isChallengedBy, 2) := ⟨by decide +kernel, rfl, by decide +kernel, jt_g 283 (by decide +kernel) rfl, jt_g 5 (by decide +kernel) rfl, by decide +kernel, by decide, by decide⟩
theorem jt_M_ok_37 : jt_MP (⟨"CoinChild$Exit", "stateOf", "(I)I"⟩, jX_Ex_stateOf, 2) := ⟨by decide +kernel, rfl, by decide +kernel, jt_g 287 (by decide +kernel) rfl, jt_g 5 (by decide +kernel) rfl, by decide +kernel, by decide, by decide⟩
theorem jt_M_ok_38 : jt_MP (⟨"CoinChild$Exit", "challengerBy", "(I)I"⟩, jX_Ex_challengerBy, 2) := ⟨by decide +kernel, rfl, by decide +kernel, jt_g 291 (by decide +kernel) rfl, jt_g 5 (by decide +kernel) rfl, by decide +kernel, by decide, by decide⟩
theorem jt_M_ok_39 : jt_MP (⟨"CoinChild", "between", "(III)I"⟩, jX_CC_between, 4) := ⟨by decide +kernel, rfl, by decide +kernel, jt_g 295 (by decide +kernel) rfl, jt_g 1 (by decide +kernel) rfl, by decide +kernel, by decide, by decide⟩
theorem jt_M_ok_40 : jt_MP (⟨"CoinChild", "before", "(III)I"⟩, jX_CC_before, 4) := ⟨by decide +kernel, rfl, by decide +kernel, jt_g 299 (by decide +kernel) rfl, jt_g 1 (by decide +kernel) rfl, by decide +kernel, by decide, by decide⟩
theorem jt_M_ok_41 : jt_MP (⟨"CoinChild$Exit", "wasChallengedBy", "(I)Z"⟩, jX_Ex_wasChallengedBy, 2) := ⟨by decide +kernel, rfl, by decide +kernel, jt_g 303 (by decide +kernel) rfl, jt_g 5 (by decide +kernel) rfl, by decide +kernel, by decide, by decide⟩
theorem jt_M_ok_42 : jt_MP (⟨"CoinChild", "hasGoodEntry", "(II)Z"⟩, jX_CC_hasGoodEntry, 3) := ⟨by decide +kernel, rfl, by decide +kernel, jt_g 307 (by decide +kernel) rfl, jt_g 1 (by decide +kernel) rfl, by decide +kernel, by decide, by decide⟩
theorem jt_M_ok_43 : jt_MP (⟨"CoinChild$Exit", "openChallenge", "(II)V"⟩, jX_Ex_openChallenge, 3) := ⟨by decide +kernel, rfl, by decide +kernel, jt_g 311 (by decide +kernel) rfl, jt_g 5 (by decide +kernel) rfl, by decide +kernel, by decide, by decide⟩
theorem jt_M_ok_44 : jt_MP (⟨"CoinChild", "answer", "(III)I"⟩, jX_CC_answer, 4) := ⟨by decide +kernel, rfl, by decide +kernel, jt_g 315 (by decide +kernel) rfl, jt_g 1 (by decide +kernel) rfl, by decide +kernel, by decide, by decide⟩
theorem jt_M_ok_45 : jt_MP (⟨"CoinChild$Exit", "closeChallenge", "(I)V"⟩, jX_Ex_closeChallenge, 2) := ⟨by decide +kernel, rfl, by decide +kernel, jt_g 319 (by decide +kernel) rfl, jt_g 5 (by decide +kernel) rfl, by decide +kernel, by decide, by decide⟩
theorem jt_M_ok_46 : jt_MP (⟨"CoinChild", "finalise", "(I)I"⟩, jX_CC_finalise, 2) := ⟨by decide +kernel, rfl, by decide +kernel, jt_g 323 (by decide +kernel) rfl, jt_g 1 (by decide +kernel) rfl, by decide +kernel, by decide, by decide⟩
theorem jt_M_ok_47 : jt_MP (⟨"CoinChild$Exit", "leastChallenge", "()I"⟩, jX_Ex_leastChallenge, 1) := ⟨by decide +kernel, rfl, by decide +kernel, jt_g 327 (by decide +kernel) rfl, jt_g 5 (by decide +kernel) rfl, by decide +kernel, by decide, by decide⟩
theorem jt_M_ok_48 : jt_MP (⟨"CoinChild", "watch", "(I)I"⟩, jX_CC_watch, 2) := ⟨by decide +kernel, rfl, by decide +kernel, jt_g 332 (by decide +kernel) rfl, jt_g 1 (by decide +kernel) rfl, by decide +kernel, by decide, by decide⟩
theorem jt_M_ok_49 : jt_MP (⟨"CoinChild", "guardCoin", "(II)I"⟩, jX_CC_guardCoin, 3) := ⟨by decide +kernel, rfl, by decide +kernel, jt_g 336 (by decide +kernel) rfl, jt_g 1 (by decide +kernel) rfl, by decide +kernel, by decide, by decide⟩
theorem jt_M_ok_50 : jt_MP (⟨"CoinChild", "countIfDone", "(I)I"⟩, jX_CC_countIfDone, 1) := ⟨by decide +kernel, rfl, by decide +kernel, jt_g 340 (by decide +kernel) rfl, jt_g 1 (by decide +kernel) rfl, by decide +kernel, by decide, by decide⟩
theorem jt_M_ok_51 : jt_MP (⟨"CoinChild", "answerAll", "(ILCoinChild$Exit;)I"⟩, jX_CC_answerAll, 3) := ⟨by decide +kernel, rfl, by decide +kernel, jt_g 344 (by decide +kernel) rfl, jt_g 1 (by decide +kernel) rfl, by decide +kernel, by decide, by decide⟩
theorem jt_M_ok_52 : jt_MP (⟨"CoinChild", "contest", "(IIILCoinChild$Exit;)I"⟩, jX_CC_contest, 5) := ⟨by decide +kernel, rfl, by decide +kernel, jt_g 349 (by decide +kernel) rfl, jt_g 1 (by decide +kernel) rfl, by decide +kernel, by decide, by decide⟩
theorem jt_M_ok_53 : jt_MP (⟨"CoinChild", "tick", "(I)I"⟩, jX_CC_tick, 2) := ⟨by decide +kernel, rfl, by decide +kernel, jt_g 356 (by decide +kernel) rfl, jt_g 1 (by decide +kernel) rfl, by decide +kernel, by decide, by decide⟩
theorem jt_M_ok_54 : jt_MP (⟨"CoinChild", "user", "(II)I"⟩, jX_CC_user, 3) := ⟨by decide +kernel, rfl, by decide +kernel, jt_g 360 (by decide +kernel) rfl, jt_g 1 (by decide +kernel) rfl, by decide +kernel, by decide, by decide⟩
theorem jt_M_ok_55 : jt_MP (⟨"CoinChild", "coin", "(II)I"⟩, jX_CC_coin, 3) := ⟨by decide +kernel, rfl, by decide +kernel, jt_g 364 (by decide +kernel) rfl, jt_g 1 (by decide +kernel) rfl, by decide +kernel, by decide, by decide⟩
theorem jt_M_ok_56 : jt_MP (⟨"CoinChild$Exit", "look", "(I)I"⟩, jX_Ex_look, 2) := ⟨by decide +kernel, rfl, by decide +kernel, jt_g 368 (by decide +kernel) rfl, jt_g 5 (by decide +kernel) rfl, by decide +kernel, by decide, by decide⟩
theorem jt_M_ok_57 : jt_MP (⟨"CoinChild$Exit", "countChallenges", "()I"⟩, jX_Ex_countChallenges, 1) := ⟨by decide +kernel, rfl, by decide +kernel, jt_g 372 (by decide +kernel) rfl, jt_g 5 (by decide +kernel) rfl, by decide +kernel, by decide, by decide⟩
theorem jt_M_ok_58 : jt_MP (⟨"CoinChild", "block", "(II)I"⟩, jX_CC_block, 3) := ⟨by decide +kernel, rfl, by decide +kernel, jt_g 376 (by decide +kernel) rfl, jt_g 1 (by decide +kernel) rfl, by decide +kernel, by decide, by decide⟩
theorem jt_M_ok_59 : jt_MP (⟨"CoinChild$Block", "root", "()I"⟩, jX_Bl_root, 1) := ⟨by decide +kernel, rfl, by decide +kernel, jt_g 380 (by decide +kernel) rfl, jt_g 6 (by decide +kernel) rfl, by decide +kernel, by decide, by decide⟩
theorem jt_M_ok_60 : jt_MP (⟨"CoinChild$Block", "look", "(I)I"⟩, jX_Bl_look, 2) := ⟨by decide +kernel, rfl, by decide +kernel, jt_g 384 (by decide +kernel) rfl, jt_g 6 (by decide +kernel) rfl, by decide +kernel, by decide, by decide⟩
theorem jt_M_ok_61 : jt_MP (⟨"CoinChild", "proves", "(IIIIII)Z"⟩, jX_CC_proves, 7) := ⟨by decide +kernel, rfl, by decide +kernel, jt_g 388 (by decide +kernel) rfl, jt_g 1 (by decide +kernel) rfl, by decide +kernel, by decide, by decide⟩
theorem jt_M_ok_62 : jt_MP (⟨"CoinChild", "climb", "(IIII)I"⟩, jX_CC_climb, 4) := ⟨by decide +kernel, rfl, by decide +kernel, jt_g 391 (by decide +kernel) rfl, jt_g 1 (by decide +kernel) rfl, by decide +kernel, by decide, by decide⟩
theorem jt_M_ok_63 : jt_MP (⟨"CoinChild", "locked", "()I"⟩, jX_CC_locked, 1) := ⟨by decide +kernel, rfl, by decide +kernel, jt_g 396 (by decide +kernel) rfl, jt_g 1 (by decide +kernel) rfl, by decide +kernel, by decide, by decide⟩
theorem jt_M_ok_64 : jt_MP (⟨"CoinChild$Exit", "bonds", "()I"⟩, jX_Ex_bonds, 1) := ⟨by decide +kernel, rfl, by decide +kernel, jt_g 400 (by decide +kernel) rfl, jt_g 5 (by decide +kernel) rfl, by decide +kernel, by decide, by decide⟩
theorem jt_M_ok_65 : jt_MP (⟨"CoinChildLaw", "cell", "([II)I"⟩, jX_Lw_cell, 2) := ⟨by decide +kernel, rfl, by decide +kernel, jt_g 403 (by decide +kernel) rfl, jt_g 0 (by decide +kernel) rfl, by decide +kernel, by decide, by decide⟩
theorem jt_M_ok_66 : jt_MP (⟨"CoinChildModel", "<init>", "(II)V"⟩, jX_RM_init, 3) := ⟨by decide +kernel, rfl, by decide +kernel, jt_g 408 (by decide +kernel) rfl, jt_g 3 (by decide +kernel) rfl, by decide +kernel, by decide, by decide⟩
theorem jt_M_ok_67 : jt_MP (⟨"CoinChildModel", "deposit", "(II)I"⟩, jX_RM_deposit, 3) := ⟨by decide +kernel, rfl, by decide +kernel, jt_g 505 (by decide +kernel) rfl, jt_g 3 (by decide +kernel) rfl, by decide +kernel, by decide, by decide⟩
theorem jt_M_ok_68 : jt_MP (⟨"CoinChildModel", "isUser", "(I)Z"⟩, jX_RM_isUser, 1) := ⟨by decide +kernel, rfl, by decide +kernel, jt_g 508 (by decide +kernel) rfl, jt_g 3 (by decide +kernel) rfl, by decide +kernel, by decide, by decide⟩
theorem jt_M_ok_69 : jt_MP (⟨"CoinChildModel", "newBlock", "(Z)V"⟩, jX_RM_newBlock, 2) := ⟨by decide +kernel, rfl, by decide +kernel, jt_g 512 (by decide +kernel) rfl, jt_g 3 (by decide +kernel) rfl, by decide +kernel, by decide, by decide⟩
theorem jt_M_ok_70 : jt_MP (⟨"CoinChildModel", "send", "(III)Z"⟩, jX_RM_send, 4) := ⟨by decide +kernel, rfl, by decide +kernel, jt_g 516 (by decide +kernel) rfl, jt_g 3 (by decide +kernel) rfl, by decide +kernel, by decide, by decide⟩
theorem jt_M_ok_71 : jt_MP (⟨"CoinChildModel", "isCoin", "(I)Z"⟩, jX_RM_isCoin, 2) := ⟨by decide +kernel, rfl, by decide +kernel, jt_g 520 (by decide +kernel) rfl, jt_g 3 (by decide +kernel) rfl, by decide +kernel, by decide, by decide⟩
theorem jt_M_ok_72 : jt_MP (⟨"CoinChildModel", "signature", "(IIII)I"⟩, jX_RM_signature, 5) := ⟨by decide +kernel, rfl, by decide +kernel, jt_g 524 (by decide +kernel) rfl, jt_g 3 (by decide +kernel) rfl, by decide +kernel, by decide, by decide⟩
theorem jt_M_ok_73 : jt_MP (⟨"CoinChildModel", "mix", "(III)I"⟩, jX_RM_mix, 3) := ⟨by decide +kernel, rfl, by decide +kernel, jt_g 527 (by decide +kernel) rfl, jt_g 3 (by decide +kernel) rfl, by decide +kernel, by decide, by decide⟩
theorem jt_M_ok_74 : jt_MP (⟨"CoinChildModel", "note", "(IIIII)V"⟩, jX_RM_note, 6) := ⟨by decide +kernel, rfl, by decide +kernel, jt_g 532 (by decide +kernel) rfl, jt_g 3 (by decide +kernel) rfl, by decide +kernel, by decide, by decide⟩
theorem jt_M_ok_75 : jt_MP (⟨"CoinChildModel", "forge", "(IIIII)Z"⟩, jX_RM_forge, 6) := ⟨by decide +kernel, rfl, by decide +kernel, jt_g 536 (by decide +kernel) rfl, jt_g 3 (by decide +kernel) rfl, by decide +kernel, by decide, by decide⟩
theorem jt_M_ok_76 : jt_MP (⟨"CoinChildModel", "build", "(ZZ)I"⟩, jX_RM_build, 3) := ⟨by decide +kernel, rfl, by decide +kernel, jt_g 540 (by decide +kernel) rfl, jt_g 3 (by decide +kernel) rfl, by decide +kernel, by decide, by decide⟩
theorem jt_M_ok_77 : jt_MP (⟨"CoinChildModel", "fits", "(I)Z"⟩, jX_RM_fits, 2) := ⟨by decide +kernel, rfl, by decide +kernel, jt_g 544 (by decide +kernel) rfl, jt_g 3 (by decide +kernel) rfl, by decide +kernel, by decide, by decide⟩
theorem jt_M_ok_78 : jt_MP (⟨"CoinChildModel", "latest", "(I)I"⟩, jX_RM_latest, 2) := ⟨by decide +kernel, rfl, by decide +kernel, jt_g 548 (by decide +kernel) rfl, jt_g 3 (by decide +kernel) rfl, by decide +kernel, by decide, by decide⟩
theorem jt_M_ok_79 : jt_MP (⟨"CoinChildModel", "show", "(I)Z"⟩, jX_RM_show, 2) := ⟨by decide +kernel, rfl, by decide +kernel, jt_g 552 (by decide +kernel) rfl, jt_g 3 (by decide +kernel) rfl, by decide +kernel, by decide, by decide⟩
theorem jt_M_ok_80 : jt_MP (⟨"CoinChildModel", "isBlock", "(I)Z"⟩, jX_RM_isBlock, 2) := ⟨by decide +kernel, rfl, by decide +kernel, jt_g 556 (by decide +kernel) rfl, jt_g 3 (by decide +kernel) rfl, by decide +kernel, by decide, by decide⟩
theorem jt_M_ok_81 : jt_MP (⟨"CoinChildModel", "accept", "(II)I"⟩, jX_RM_accept, 3) := ⟨by decide +kernel, rfl, by decide +kernel, jt_g 560 (by decide +kernel) rfl, jt_g 3 (by decide +kernel) rfl, by decide +kernel, by decide, by decide⟩
theorem jt_M_ok_82 : jt_MP (⟨"CoinChildModel", "sound", "(I)Z"⟩, jX_RM_sound, 2) := ⟨by decide +kernel, rfl, by decide +kernel, jt_g 564 (by decide +kernel) rfl, jt_g 3 (by decide +kernel) rfl, by decide +kernel, by decide, by decide⟩
theorem jt_M_ok_83 : jt_MP (⟨"CoinChildModel", "spends", "(III)Z"⟩, jX_RM_spends, 4) := ⟨by decide +kernel, rfl, by decide +kernel, jt_g 568 (by decide +kernel) rfl, jt_g 3 (by decide +kernel) rfl, by decide +kernel, by decide, by decide⟩
theorem jt_M_ok_84 : jt_MP (⟨"CoinChildModel", "good", "(II)Z"⟩, jX_RM_good, 3) := ⟨by decide +kernel, rfl, by decide +kernel, jt_g 572 (by decide +kernel) rfl, jt_g 3 (by decide +kernel) rfl, by decide +kernel, by decide, by decide⟩
theorem jt_M_ok_85 : jt_MP (⟨"CoinChildModel", "exit", "(III)I"⟩, jX_RM_exit, 4) := ⟨by decide +kernel, rfl, by decide +kernel, jt_g 576 (by decide +kernel) rfl, jt_g 3 (by decide +kernel) rfl, by decide +kernel, by decide, by decide⟩
theorem jt_M_ok_86 : jt_MP (⟨"CoinChildModel", "after", "(III)I"⟩, jX_RM_after, 4) := ⟨by decide +kernel, rfl, by decide +kernel, jt_g 580 (by decide +kernel) rfl, jt_g 3 (by decide +kernel) rfl, by decide +kernel, by decide, by decide⟩
theorem jt_M_ok_87 : jt_MP (⟨"CoinChildModel", "refused", "(III)I"⟩, jX_RM_refused, 4) := ⟨by decide +kernel, rfl, by decide +kernel, jt_g 584 (by decide +kernel) rfl, jt_g 3 (by decide +kernel) rfl, by decide +kernel, by decide, by decide⟩
theorem jt_M_ok_88 : jt_MP (⟨"CoinChildModel", "cancel", "(II)V"⟩, jX_RM_cancel, 3) := ⟨by decide +kernel, rfl, by decide +kernel, jt_g 588 (by decide +kernel) rfl, jt_g 3 (by decide +kernel) rfl, by decide +kernel, by decide, by decide⟩
theorem jt_M_ok_89 : jt_MP (⟨"CoinChildModel", "between", "(III)I"⟩, jX_RM_between, 4) := ⟨by decide +kernel, rfl, by decide +kernel, jt_g 592 (by decide +kernel) rfl, jt_g 3 (by decide +kernel) rfl, by decide +kernel, by decide, by decide⟩
theorem jt_M_ok_90 : jt_MP (⟨"CoinChildModel", "before", "(III)I"⟩, jX_RM_before, 4) := ⟨by decide +kernel, rfl, by decide +kernel, jt_g 596 (by decide +kernel) rfl, jt_g 3 (by decide +kernel) rfl, by decide +kernel, by decide, by decide⟩
theorem jt_M_ok_91 : jt_MP (⟨"CoinChildModel", "answer", "(III)I"⟩, jX_RM_answer, 4) := ⟨by decide +kernel, rfl, by decide +kernel, jt_g 600 (by decide +kernel) rfl, jt_g 3 (by decide +kernel) rfl, by decide +kernel, by decide, by decide⟩
theorem jt_M_ok_92 : jt_MP (⟨"CoinChildModel", "finalise", "(I)I"⟩, jX_RM_finalise, 2) := ⟨by decide +kernel, rfl, by decide +kernel, jt_g 604 (by decide +kernel) rfl, jt_g 3 (by decide +kernel) rfl, by decide +kernel, by decide, by decide⟩
theorem jt_M_ok_93 : jt_MP (⟨"CoinChildModel", "watch", "(I)I"⟩, jX_RM_watch, 2) := ⟨by decide +kernel, rfl, by decide +kernel, jt_g 608 (by decide +kernel) rfl, jt_g 3 (by decide +kernel) rfl, by decide +kernel, by decide, by decide⟩
theorem jt_M_ok_94 : jt_MP (⟨"CoinChildModel", "guard", "(III)I"⟩, jX_RM_guard, 4) := ⟨by decide +kernel, rfl, by decide +kernel, jt_g 612 (by decide +kernel) rfl, jt_g 3 (by decide +kernel) rfl, by decide +kernel, by decide, by decide⟩
theorem jt_M_ok_95 : jt_MP (⟨"CoinChildModel", "hiddenAfter", "(I)Z"⟩, jX_RM_hiddenAfter, 2) := ⟨by decide +kernel, rfl, by decide +kernel, jt_g 616 (by decide +kernel) rfl, jt_g 3 (by decide +kernel) rfl, by decide +kernel, by decide, by decide⟩
theorem jt_M_ok_96 : jt_MP (⟨"CoinChildModel", "next", "(II)I"⟩, jX_RM_next, 3) := ⟨by decide +kernel, rfl, by decide +kernel, jt_g 621 (by decide +kernel) rfl, jt_g 3 (by decide +kernel) rfl, by decide +kernel, by decide, by decide⟩
theorem jt_M_ok_97 : jt_MP (⟨"CoinChildModel", "tick", "(I)I"⟩, jX_RM_tick, 2) := ⟨by decide +kernel, rfl, by decide +kernel, jt_g 629 (by decide +kernel) rfl, jt_g 3 (by decide +kernel) rfl, by decide +kernel, by decide, by decide⟩
theorem jt_M_ok_98 : jt_MP (⟨"CoinChildModel", "user", "(II)I"⟩, jX_RM_user, 3) := ⟨by decide +kernel, rfl, by decide +kernel, jt_g 633 (by decide +kernel) rfl, jt_g 3 (by decide +kernel) rfl, by decide +kernel, by decide, by decide⟩
theorem jt_M_ok_99 : jt_MP (⟨"CoinChildModel", "coin", "(II)I"⟩, jX_RM_coin, 3) := ⟨by decide +kernel, rfl, by decide +kernel, jt_g 637 (by decide +kernel) rfl, jt_g 3 (by decide +kernel) rfl, by decide +kernel, by decide, by decide⟩
theorem jt_M_ok_100 : jt_MP (⟨"CoinChildModel", "standing", "(I)I"⟩, jX_RM_standing, 2) := ⟨by decide +kernel, rfl, by decide +kernel, jt_g 641 (by decide +kernel) rfl, jt_g 3 (by decide +kernel) rfl, by decide +kernel, by decide, by decide⟩
theorem jt_M_ok_101 : jt_MP (⟨"CoinChildModel", "block", "(II)I"⟩, jX_RM_block, 3) := ⟨by decide +kernel, rfl, by decide +kernel, jt_g 645 (by decide +kernel) rfl, jt_g 3 (by decide +kernel) rfl, by decide +kernel, by decide, by decide⟩
theorem jt_M_ok_102 : jt_MP (⟨"CoinChildModel", "level", "(II)V"⟩, jX_RM_level, 3) := ⟨by decide +kernel, rfl, by decide +kernel, jt_g 649 (by decide +kernel) rfl, jt_g 3 (by decide +kernel) rfl, by decide +kernel, by decide, by decide⟩
theorem jt_M_ok_103 : jt_MP (⟨"CoinChildModel", "leaf", "(II)I"⟩, jX_RM_leaf, 3) := ⟨by decide +kernel, rfl, by decide +kernel, jt_g 653 (by decide +kernel) rfl, jt_g 3 (by decide +kernel) rfl, by decide +kernel, by decide, by decide⟩
theorem jt_M_ok_104 : jt_MP (⟨"CoinChildModel", "over", "(III)I"⟩, jX_RM_over, 3) := ⟨by decide +kernel, rfl, by decide +kernel, jt_g 656 (by decide +kernel) rfl, jt_g 3 (by decide +kernel) rfl, by decide +kernel, by decide, by decide⟩
theorem jt_M_ok_105 : jt_MP (⟨"CoinChildModel", "proves", "(IIIIII)Z"⟩, jX_RM_proves, 7) := ⟨by decide +kernel, rfl, by decide +kernel, jt_g 660 (by decide +kernel) rfl, jt_g 3 (by decide +kernel) rfl, by decide +kernel, by decide, by decide⟩
theorem jt_M_ok_106 : jt_MP (⟨"CoinChildModel", "locked", "()I"⟩, jX_RM_locked, 1) := ⟨by decide +kernel, rfl, by decide +kernel, jt_g 664 (by decide +kernel) rfl, jt_g 3 (by decide +kernel) rfl, by decide +kernel, by decide, by decide⟩
theorem jt_M_ok : ∀ e ∈ jt_Ms, jt_MP e := List.forall_mem_cons.mpr ⟨jt_M_ok_0, List.forall_mem_cons.mpr ⟨jt_M_ok_1, List.forall_mem_cons.mpr ⟨jt_M_ok_2, List.forall_mem_cons.mpr ⟨jt_M_ok_3, List.forall_mem_cons.mpr ⟨jt_M_ok_4, List.forall_mem_cons.mpr ⟨jt_M_ok_5, List.forall_mem_cons.mpr ⟨jt_M_ok_6, List.forall_mem_cons.mpr ⟨jt_M_ok_7, List.forall_mem_cons.mpr ⟨jt_M_ok_8, List.forall_mem_cons.mpr ⟨jt_M_ok_9, List.forall_mem_cons.mpr ⟨jt_M_ok_10, List.forall_mem_cons.mpr ⟨jt_M_ok_11, List.forall_mem_cons.mpr ⟨jt_M_ok_12, List.forall_mem_cons.mpr ⟨jt_M_ok_13, List.forall_mem_cons.mpr ⟨jt_M_ok_14, List.forall_mem_cons.mpr ⟨jt_M_ok_15, List.forall_mem_cons.mpr ⟨jt_M_ok_16, List.forall_mem_cons.mpr ⟨jt_M_ok_17, List.forall_mem_cons.mpr ⟨jt_M_ok_18, List.forall_mem_cons.mpr ⟨jt_M_ok_19, List.forall_mem_cons.mpr ⟨jt_M_ok_20, List.forall_mem_cons.mpr ⟨jt_M_ok_21, List.forall_mem_cons.mpr ⟨jt_M_ok_22, List.forall_mem_cons.mpr ⟨jt_M_ok_23, List.forall_mem_cons.mpr ⟨jt_M_ok_24, List.forall_mem_cons.mpr ⟨jt_M_ok_25, List.forall_mem_cons.mpr ⟨jt_M_ok_26, List.forall_mem_cons.mpr ⟨jt_M_ok_27, List.forall_mem_cons.mpr ⟨jt_M_ok_28, List.forall_mem_cons.mpr ⟨jt_M_ok_29, List.forall_mem_cons.mpr ⟨jt_M_ok_30, List.forall_mem_cons.mpr ⟨jt_M_ok_31, List.forall_mem_cons.mpr ⟨jt_M_ok_32, List.forall_mem_cons.mpr ⟨jt_M_ok_33, List.forall_mem_cons.mpr ⟨jt_M_ok_34, List.forall_mem_cons.mpr ⟨jt_M_ok_35, List.forall_mem_cons.mpr ⟨jt_M_ok_36, List.forall_mem_cons.mpr ⟨jt_M_ok_37, List.forall_mem_cons.mpr ⟨jt_M_ok_38, List.forall_mem_cons.mpr ⟨jt_M_ok_39, List.forall_mem_cons.mpr ⟨jt_M_ok_40, List.forall_mem_cons.mpr ⟨jt_M_ok_41, List.forall_mem_cons.mpr ⟨jt_M_ok_42, List.forall_mem_cons.mpr ⟨jt_M_ok_43, List.forall_mem_cons.mpr ⟨jt_M_ok_44, List.forall_mem_cons.mpr ⟨jt_M_ok_45, List.forall_mem_cons.mpr ⟨jt_M_ok_46, List.forall_mem_cons.mpr ⟨jt_M_ok_47, List.forall_mem_cons.mpr ⟨jt_M_ok_48, List.forall_mem_cons.mpr ⟨jt_M_ok_49, List.forall_mem_cons.mpr ⟨jt_M_ok_50, List.forall_mem_cons.mpr ⟨jt_M_ok_51, List.forall_mem_cons.mpr ⟨jt_M_ok_52, List.forall_mem_cons.mpr ⟨jt_M_ok_53, List.forall_mem_cons.mpr ⟨jt_M_ok_54, List.forall_mem_cons.mpr ⟨jt_M_ok_55, List.forall_mem_cons.mpr ⟨jt_M_ok_56, List.forall_mem_cons.mpr ⟨jt_M_ok_57, List.forall_mem_cons.mpr ⟨jt_M_ok_58, List.forall_mem_cons.mpr ⟨jt_M_ok_59, List.forall_mem_cons.mpr ⟨jt_M_ok_60, List.forall_mem_cons.mpr ⟨jt_M_ok_61, List.forall_mem_cons.mpr ⟨jt_M_ok_62, List.forall_mem_cons.mpr ⟨jt_M_ok_63, List.forall_mem_cons.mpr ⟨jt_M_ok_64, List.forall_mem_cons.mpr ⟨jt_M_ok_65, List.forall_mem_cons.mpr ⟨jt_M_ok_66, List.forall_mem_cons.mpr ⟨jt_M_ok_67, List.forall_mem_cons.mpr ⟨jt_M_ok_68, List.forall_mem_cons.mpr ⟨jt_M_ok_69, List.forall_mem_cons.mpr ⟨jt_M_ok_70, List.forall_mem_cons.mpr ⟨jt_M_ok_71, List.forall_mem_cons.mpr ⟨jt_M_ok_72, List.forall_mem_cons.mpr ⟨jt_M_ok_73, List.forall_mem_cons.mpr ⟨jt_M_ok_74, List.forall_mem_cons.mpr ⟨jt_M_ok_75, List.forall_mem_cons.mpr ⟨jt_M_ok_76, List.forall_mem_cons.mpr ⟨jt_M_ok_77, List.forall_mem_cons.mpr ⟨jt_M_ok_78, List.forall_mem_cons.mpr ⟨jt_M_ok_79, List.forall_mem_cons.mpr ⟨jt_M_ok_80, List.forall_mem_cons.mpr ⟨jt_M_ok_81, List.forall_mem_cons.mpr ⟨jt_M_ok_82, List.forall_mem_cons.mpr ⟨jt_M_ok_83, List.forall_mem_cons.mpr ⟨jt_M_ok_84, List.forall_mem_cons.mpr ⟨jt_M_ok_85, List.forall_mem_cons.mpr ⟨jt_M_ok_86, List.forall_mem_cons.mpr ⟨jt_M_ok_87, List.forall_mem_cons.mpr ⟨jt_M_ok_88, List.forall_mem_cons.mpr ⟨jt_M_ok_89, List.forall_mem_cons.mpr ⟨jt_M_ok_90, List.forall_mem_cons.mpr ⟨jt_M_ok_91, List.forall_mem_cons.mpr ⟨jt_M_ok_92, List.forall_mem_cons.mpr ⟨jt_M_ok_93, List.forall_mem_cons.mpr ⟨jt_M_ok_94, List.forall_mem_cons.mpr ⟨jt_M_ok_95, List.forall_mem_cons.mpr ⟨jt_M_ok_96, List.forall_mem_cons.mpr ⟨jt_M_ok_97, List.forall_mem_cons.mpr ⟨jt_M_ok_98, List.forall_mem_cons.mpr ⟨jt_M_ok_99, List.forall_mem_cons.mpr ⟨jt_M_ok_100, List.forall_mem_cons.mpr ⟨jt_M_ok_101, List.forall_mem_cons.mpr ⟨jt_M_ok_102, List.forall_mem_cons.mpr ⟨jt_M_ok_103, List.forall_mem_cons.mpr ⟨jt_M_ok_104, List.forall_mem_cons.mpr ⟨jt_M_ok_105, List.forall_mem_cons.mpr ⟨jt_M_ok_106, fun _ h => absurd h List.not_mem_nil⟩⟩⟩⟩⟩⟩⟩⟩⟩⟩⟩⟩⟩⟩⟩⟩⟩⟩⟩⟩⟩⟩⟩⟩⟩⟩⟩⟩⟩⟩⟩⟩⟩⟩⟩⟩⟩⟩⟩⟩⟩⟩⟩⟩⟩⟩⟩⟩⟩⟩⟩⟩⟩⟩⟩⟩⟩⟩⟩⟩⟩⟩⟩⟩⟩⟩⟩⟩⟩⟩⟩⟩⟩⟩⟩⟩⟩⟩⟩⟩⟩⟩⟩⟩⟩⟩⟩⟩⟩⟩⟩⟩⟩⟩⟩⟩⟩⟩⟩⟩⟩⟩⟩⟩⟩⟩⟩
def jt_nw : List Cond := [.methodLinkNest "CoinChild$Coin" 9 ⟨"CoinChild$Exit", "<init>", "()V"⟩ "CoinChild", .methodLinkNest "CoinChild$Block" 29 ⟨"CoinChild", "join", "(III)I"⟩ "CoinChild"]
theorem jt_nw_in : ∀ w ∈ jt_nw, w ∈ lw_tbl := List.forall_mem_cons.mpr ⟨jt_in 77 (by decide +kernel), List.forall_mem_cons.mpr ⟨jt_in 181 (by decide +kernel), fun _ h => absurd h List.not_mem_nil⟩⟩
theorem jt_nw_sh : ∀ w ∈ jt_nw, ∃ (a : String) (i : Nat) (x : MethodName) (h : String), w = .methodLinkNest a i x h := List.forall_mem_cons.mpr ⟨⟨_, _, _, _, rfl⟩, List.forall_mem_cons.mpr ⟨⟨_, _, _, _, rfl⟩, fun _ h => absurd h List.not_mem_nil⟩⟩
theorem jt_nw_on (w : Cond) (hw : w ∈ jt_nw) : w.onTables = true := by
  obtain ⟨a, i, x, h, rfl⟩ := jt_nw_sh w hw
  rfl
def jt_S : List ((Nat × Nat) × (Nat × Nat × Nat)) := [((0, 53), (0, 2, 1)), ((0, 76), (0, 7, 3)), ((0, 247), (0, 50, 1)), ((0, 216), (0, 62, 4)), ((0, 224), (0, 11, 3)), ((6, 9), (0, 65, 2)), ((5, 120), (0, 68, 1)), ((5, 94), (0, 73, 3)), ((5, 185), (0, 104, 3)), ((3, 29), (1, 11, 3))]
def jt_SX : List ((Nat × Nat) × Bool) := [((0, 41), false), ((0, 47), true)]
def jt_V : List ((Nat × Nat) × ((Nat × Nat × Nat) × Nat)) := [((6, 21), ((2, 1, 3), 0)), ((0, 66), ((2, 5, 3), 0)), ((0, 83), ((2, 9, 2), 0)), ((0, 227), ((2, 10, 1), 3)), ((6, 26), ((2, 12, 4), 0)), ((0, 87), ((2, 13, 3), 0)), ((0, 90), ((2, 14, 6), 0)), ((0, 230), ((2, 15, 5), 0)), ((6, 31), ((2, 16, 6), 0)), ((0, 94), ((2, 17, 2), 0)), ((6, 36), ((2, 18, 3), 0)), ((0, 98), ((2, 19, 3), 0)), ((0, 128), ((2, 20, 2), 0)), ((0, 132), ((2, 21, 3), 0)), ((0, 102), ((2, 22, 2), 0)), ((6, 41), ((2, 23, 2), 0)), ((6, 46), ((2, 24, 3), 0)), ((0, 122), ((2, 25, 2), 0)), ((0, 125), ((2, 26, 2), 0)), ((0, 242), ((2, 27, 3), 0)), ((0, 163), ((2, 28, 4), 0)), ((6, 50), ((2, 29, 4), 0)), ((0, 139), ((2, 30, 4), 0)), ((0, 149), ((2, 31, 5), 2)), ((6, 55), ((2, 32, 4), 0)), ((0, 153), ((2, 33, 4), 0)), ((0, 156), ((2, 34, 2), 0)), ((0, 167), ((2, 35, 3), 0)), ((0, 187), ((2, 36, 2), 2)), ((2, 32), ((2, 37, 2), 2)), ((0, 200), ((2, 38, 2), 2)), ((6, 59), ((2, 39, 4), 0)), ((6, 63), ((2, 40, 4), 0)), ((0, 177), ((2, 41, 2), 2)), ((0, 180), ((2, 42, 3), 0)), ((0, 184), ((2, 43, 3), 2)), ((6, 67), ((2, 44, 4), 0)), ((0, 190), ((2, 45, 2), 2)), ((6, 71), ((2, 46, 2), 0)), ((0, 196), ((2, 47, 1), 2)), ((2, 36), ((2, 36, 2), 2)), ((6, 76), ((2, 48, 2), 0)), ((0, 206), ((2, 49, 3), 0)), ((0, 245), ((2, 29, 4), 0)), ((0, 250), ((2, 51, 3), 0)), ((0, 267), ((2, 44, 4), 0)), ((0, 254), ((2, 52, 5), 0)), ((0, 258), ((2, 32, 4), 0)), ((0, 261), ((2, 39, 4), 0)), ((0, 264), ((2, 40, 4), 0)), ((6, 80), ((2, 53, 2), 0)), ((6, 84), ((2, 54, 3), 0)), ((6, 88), ((2, 55, 3), 0)), ((0, 209), ((2, 56, 2), 2)), ((2, 40), ((2, 57, 1), 2)), ((6, 92), ((2, 58, 3), 0)), ((0, 212), ((2, 59, 1), 3)), ((0, 215), ((2, 60, 2), 3)), ((6, 96), ((2, 61, 7), 0)), ((6, 101), ((2, 63, 1), 0)), ((0, 220), ((2, 64, 1), 2)), ((6, 25), ((2, 67, 3), 5)), ((5, 123), ((2, 69, 2), 5)), ((6, 30), ((2, 70, 4), 5)), ((5, 127), ((2, 71, 2), 5)), ((5, 108), ((2, 72, 5), 5)), ((5, 130), ((2, 74, 6), 5)), ((6, 35), ((2, 75, 6), 5)), ((6, 40), ((2, 76, 3), 5)), ((5, 138), ((2, 77, 2), 5)), ((5, 134), ((2, 78, 2), 5)), ((6, 45), ((2, 79, 2), 5)), ((5, 104), ((2, 80, 2), 5)), ((6, 49), ((2, 81, 3), 5)), ((5, 141), ((2, 82, 2), 5)), ((5, 116), ((2, 83, 4), 5)), ((5, 112), ((2, 84, 3), 5)), ((6, 54), ((2, 85, 4), 5)), ((6, 58), ((2, 86, 4), 5)), ((5, 147), ((2, 87, 4), 5)), ((5, 150), ((2, 88, 3), 5)), ((6, 62), ((2, 89, 4), 5)), ((6, 66), ((2, 90, 4), 5)), ((6, 70), ((2, 91, 4), 5)), ((6, 75), ((2, 92, 2), 5)), ((6, 79), ((2, 93, 2), 5)), ((5, 176), ((2, 94, 4), 5)), ((5, 154), ((2, 95, 2), 5)), ((5, 157), ((2, 85, 4), 5)), ((5, 160), ((2, 96, 3), 5)), ((5, 164), ((2, 91, 4), 5)), ((5, 167), ((2, 86, 4), 5)), ((5, 170), ((2, 89, 4), 5)), ((5, 173), ((2, 90, 4), 5)), ((6, 83), ((2, 97, 2), 5)), ((6, 87), ((2, 98, 3), 5)), ((6, 91), ((2, 99, 3), 5)), ((5, 179), ((2, 100, 2), 5)), ((6, 95), ((2, 101, 3), 5)), ((5, 188), ((2, 102, 3), 5)), ((5, 182), ((2, 103, 3), 5)), ((6, 100), ((2, 105, 7), 5)), ((6, 105), ((2, 106, 1), 5))]
def jt_N : List ((Nat × Nat) × Option (Nat × Nat × Nat)) := [((6, 15), some (3, 0, 3)), ((0, 1), none), ((0, 63), some (3, 3, 2)), ((1, 1), none), ((2, 3), none), ((0, 70), some (3, 6, 2)), ((3, 3), none), ((0, 80), some (3, 8, 7)), ((4, 1), none), ((6, 20), some (3, 66, 3)), ((5, 1), none), ((1, 9), some (4, 4, 1))]
def jt_ms (c k : Nat) : Option ((Nat × Nat × Nat) ⊕ Bool) := match jt_S.lookup (c, k) with
  | some q => some (.inl q)
  | none => (jt_SX.lookup (c, k)).map .inr
def jt_mv (c k : Nat) : Option ((Nat × Nat × Nat) × Nat) := jt_V.lookup (c, k)
def jt_mi (c k : Nat) : Option (Option (Nat × Nat × Nat)) := jt_N.lookup (c, k)
def jt_SP (e : (Nat × Nat) × (Nat × Nat × Nat)) : Prop := ∃ (y : MethodName) (X : jx_X), jt_M e.2.2.1 = some (y, X, e.2.2.2) ∧ Cond.static y ∈ jt_G ∧ (parseMethodDescriptor y.desc).map (fun d => d.parameters.length) = some e.2.2.2 ∧ ((e.2.1 = 0 ∧ y.cls = jt_cn e.1.1 ∧ Cond.methodLink (jt_cn e.1.1) e.1.2 y ∈ jt_G) ∨ (e.2.1 = 1 ∧ ∃ h, Cond.methodLinkNest (jt_cn e.1.1) e.1.2 y h ∈ jt_nw))
theorem jt_S_ok_0 : jt_SP ((0, 53), (0, 2, 1)) := ⟨_, _, rfl, jt_g 68 (by decide +kernel) rfl, by decide +kernel, Or.inl ⟨rfl, rfl, jt_g 67 (by decide +kernel) rfl⟩⟩
theorem jt_S_ok_1 : jt_SP ((0, 76), (0, 7, 3)) := ⟨_, _, rfl, jt_g 141 (by decide +kernel) rfl, by decide +kernel, Or.inl ⟨rfl, rfl, jt_g 140 (by decide +kernel) rfl⟩⟩
theorem jt_S_ok_2 : jt_SP ((0, 247), (0, 50, 1)) := ⟨_, _, rfl, jt_g 339 (by decide +kernel) rfl, by decide +kernel, Or.inl ⟨rfl, rfl, jt_g 338 (by decide +kernel) rfl⟩⟩
theorem jt_S_ok_3 : jt_SP ((0, 216), (0, 62, 4)) := ⟨_, _, rfl, jt_g 390 (by decide +kernel) rfl, by decide +kernel, Or.inl ⟨rfl, rfl, jt_g 389 (by decide +kernel) rfl⟩⟩
theorem jt_S_ok_4 : jt_SP ((0, 224), (0, 11, 3)) := ⟨_, _, rfl, jt_g 182 (by decide +kernel) rfl, by decide +kernel, Or.inl ⟨rfl, rfl, jt_g 392 (by decide +kernel) rfl⟩⟩
theorem jt_S_ok_5 : jt_SP ((6, 9), (0, 65, 2)) := ⟨_, _, rfl, jt_g 402 (by decide +kernel) rfl, by decide +kernel, Or.inl ⟨rfl, rfl, jt_g 401 (by decide +kernel) rfl⟩⟩
theorem jt_S_ok_6 : jt_SP ((5, 120), (0, 68, 1)) := ⟨_, _, rfl, jt_g 507 (by decide +kernel) rfl, by decide +kernel, Or.inl ⟨rfl, rfl, jt_g 506 (by decide +kernel) rfl⟩⟩
theorem jt_S_ok_7 : jt_SP ((5, 94), (0, 73, 3)) := ⟨_, _, rfl, jt_g 526 (by decide +kernel) rfl, by decide +kernel, Or.inl ⟨rfl, rfl, jt_g 525 (by decide +kernel) rfl⟩⟩
theorem jt_S_ok_8 : jt_SP ((5, 185), (0, 104, 3)) := ⟨_, _, rfl, jt_g 655 (by decide +kernel) rfl, by decide +kernel, Or.inl ⟨rfl, rfl, jt_g 654 (by decide +kernel) rfl⟩⟩
theorem jt_S_ok_9 : jt_SP ((3, 29), (1, 11, 3)) := ⟨_, _, rfl, jt_g 182 (by decide +kernel) rfl, by decide +kernel, Or.inr ⟨rfl, _, List.mem_of_getElem? (i := 1) rfl⟩⟩
theorem jt_S_ok : ∀ e ∈ jt_S, jt_SP e := List.forall_mem_cons.mpr ⟨jt_S_ok_0, List.forall_mem_cons.mpr ⟨jt_S_ok_1, List.forall_mem_cons.mpr ⟨jt_S_ok_2, List.forall_mem_cons.mpr ⟨jt_S_ok_3, List.forall_mem_cons.mpr ⟨jt_S_ok_4, List.forall_mem_cons.mpr ⟨jt_S_ok_5, List.forall_mem_cons.mpr ⟨jt_S_ok_6, List.forall_mem_cons.mpr ⟨jt_S_ok_7, List.forall_mem_cons.mpr ⟨jt_S_ok_8, List.forall_mem_cons.mpr ⟨jt_S_ok_9, fun _ h => absurd h List.not_mem_nil⟩⟩⟩⟩⟩⟩⟩⟩⟩⟩
def jt_VP (e : (Nat × Nat) × ((Nat × Nat × Nat) × Nat)) : Prop := ∃ (y : MethodName) (X : jx_X) (n : Nat), jt_M e.2.1.2.1 = some (y, X, n + 1) ∧ e.2.1.2.2 = n + 1 ∧ y.cls = jt_cn e.2.2 ∧ e.2.2 < 6 ∧ (parseMethodDescriptor y.desc).map (fun d => d.parameters.length) = some n ∧ Cond.methodLink (jt_cn e.1.1) e.1.2 y ∈ jt_G ∧ Cond.instanceMethod y ∈ jt_G ∧ Cond.selects y.cls y y ∈ jt_G
theorem jt_V_ok_0 : jt_VP ((6, 21), ((2, 1, 3), 0)) := ⟨_, _, _, rfl, rfl, rfl, by decide, by decide +kernel, jt_g 63 (by decide +kernel) rfl, jt_g 64 (by decide +kernel) rfl, jt_g 65 (by decide +kernel) rfl⟩
theorem jt_V_ok_1 : jt_VP ((0, 66), ((2, 5, 3), 0)) := ⟨_, _, _, rfl, rfl, rfl, by decide, by decide +kernel, jt_g 117 (by decide +kernel) rfl, jt_g 119 (by decide +kernel) rfl, jt_s 0 (by decide +kernel) rfl⟩
theorem jt_V_ok_2 : jt_VP ((0, 83), ((2, 9, 2), 0)) := ⟨_, _, _, rfl, rfl, rfl, by decide, by decide +kernel, jt_g 173 (by decide +kernel) rfl, jt_g 175 (by decide +kernel) rfl, jt_s 1 (by decide +kernel) rfl⟩
theorem jt_V_ok_3 : jt_VP ((0, 227), ((2, 10, 1), 3)) := ⟨_, _, _, rfl, rfl, rfl, by decide, by decide +kernel, jt_g 177 (by decide +kernel) rfl, jt_g 178 (by decide +kernel) rfl, jt_g 179 (by decide +kernel) rfl⟩
theorem jt_V_ok_4 : jt_VP ((6, 26), ((2, 12, 4), 0)) := ⟨_, _, _, rfl, rfl, rfl, by decide, by decide +kernel, jt_g 184 (by decide +kernel) rfl, jt_g 185 (by decide +kernel) rfl, jt_g 186 (by decide +kernel) rfl⟩
theorem jt_V_ok_5 : jt_VP ((0, 87), ((2, 13, 3), 0)) := ⟨_, _, _, rfl, rfl, rfl, by decide, by decide +kernel, jt_g 188 (by decide +kernel) rfl, jt_g 190 (by decide +kernel) rfl, jt_s 2 (by decide +kernel) rfl⟩
theorem jt_V_ok_6 : jt_VP ((0, 90), ((2, 14, 6), 0)) := ⟨_, _, _, rfl, rfl, rfl, by decide, by decide +kernel, jt_g 192 (by decide +kernel) rfl, jt_g 194 (by decide +kernel) rfl, jt_s 3 (by decide +kernel) rfl⟩
theorem jt_V_ok_7 : jt_VP ((0, 230), ((2, 15, 5), 0)) := ⟨_, _, _, rfl, rfl, rfl, by decide, by decide +kernel, jt_g 196 (by decide +kernel) rfl, jt_g 198 (by decide +kernel) rfl, jt_s 4 (by decide +kernel) rfl⟩
theorem jt_V_ok_8 : jt_VP ((6, 31), ((2, 16, 6), 0)) := ⟨_, _, _, rfl, rfl, rfl, by decide, by decide +kernel, jt_g 200 (by decide +kernel) rfl, jt_g 201 (by decide +kernel) rfl, jt_g 202 (by decide +kernel) rfl⟩
theorem jt_V_ok_9 : jt_VP ((0, 94), ((2, 17, 2), 0)) := ⟨_, _, _, rfl, rfl, rfl, by decide, by decide +kernel, jt_g 204 (by decide +kernel) rfl, jt_g 206 (by decide +kernel) rfl, jt_s 5 (by decide +kernel) rfl⟩
theorem jt_V_ok_10 : jt_VP ((6, 36), ((2, 18, 3), 0)) := ⟨_, _, _, rfl, rfl, rfl, by decide, by decide +kernel, jt_g 208 (by decide +kernel) rfl, jt_g 209 (by decide +kernel) rfl, jt_g 210 (by decide +kernel) rfl⟩
theorem jt_V_ok_11 : jt_VP ((0, 98), ((2, 19, 3), 0)) := ⟨_, _, _, rfl, rfl, rfl, by decide, by decide +kernel, jt_g 212 (by decide +kernel) rfl, jt_g 214 (by decide +kernel) rfl, jt_s 6 (by decide +kernel) rfl⟩
theorem jt_V_ok_12 : jt_VP ((0, 128), ((2, 20, 2), 0)) := ⟨_, _, _, rfl, rfl, rfl, by decide, by decide +kernel, jt_g 216 (by decide +kernel) rfl, jt_g 218 (by decide +kernel) rfl, jt_s 7 (by decide +kernel) rfl⟩
theorem jt_V_ok_13 : jt_VP ((0, 132), ((2, 21, 3), 0)) := ⟨_, _, _, rfl, rfl, rfl, by decide, by decide +kernel, jt_g 220 (by decide +kernel) rfl, jt_g 222 (by decide +kernel) rfl, jt_s 8 (by decide +kernel) rfl⟩
theorem jt_V_ok_14 : jt_VP ((0, 102), ((2, 22, 2), 0)) := ⟨_, _, _, rfl, rfl, rfl, by decide, by decide +kernel, jt_g 224 (by decide +kernel) rfl, jt_g 226 (by decide +kernel) rfl, jt_s 9 (by decide +kernel) rfl⟩
theorem jt_V_ok_15 : jt_VP ((6, 41), ((2, 23, 2), 0)) := ⟨_, _, _, rfl, rfl, rfl, by decide, by decide +kernel, jt_g 228 (by decide +kernel) rfl, jt_g 229 (by decide +kernel) rfl, jt_g 230 (by decide +kernel) rfl⟩
theorem jt_V_ok_16 : jt_VP ((6, 46), ((2, 24, 3), 0)) := ⟨_, _, _, rfl, rfl, rfl, by decide, by decide +kernel, jt_g 232 (by decide +kernel) rfl, jt_g 233 (by decide +kernel) rfl, jt_g 234 (by decide +kernel) rfl⟩
theorem jt_V_ok_17 : jt_VP ((0, 122), ((2, 25, 2), 0)) := ⟨_, _, _, rfl, rfl, rfl, by decide, by decide +kernel, jt_g 236 (by decide +kernel) rfl, jt_g 238 (by decide +kernel) rfl, jt_s 10 (by decide +kernel) rfl⟩
theorem jt_V_ok_18 : jt_VP ((0, 125), ((2, 26, 2), 0)) := ⟨_, _, _, rfl, rfl, rfl, by decide, by decide +kernel, jt_g 240 (by decide +kernel) rfl, jt_g 242 (by decide +kernel) rfl, jt_s 11 (by decide +kernel) rfl⟩
theorem jt_V_ok_19 : jt_VP ((0, 242), ((2, 27, 3), 0)) := ⟨_, _, _, rfl, rfl, rfl, by decide, by decide +kernel, jt_g 244 (by decide +kernel) rfl, jt_g 246 (by decide +kernel) rfl, jt_s 12 (by decide +kernel) rfl⟩
theorem jt_V_ok_20 : jt_VP ((0, 163), ((2, 28, 4), 0)) := ⟨_, _, _, rfl, rfl, rfl, by decide, by decide +kernel, jt_g 248 (by decide +kernel) rfl, jt_g 250 (by decide +kernel) rfl, jt_s 13 (by decide +kernel) rfl⟩
theorem jt_V_ok_21 : jt_VP ((6, 50), ((2, 29, 4), 0)) := ⟨_, _, _, rfl, rfl, rfl, by decide, by decide +kernel, jt_g 252 (by decide +kernel) rfl, jt_g 253 (by decide +kernel) rfl, jt_g 254 (by decide +kernel) rfl⟩
theorem jt_V_ok_22 : jt_VP ((0, 139), ((2, 30, 4), 0)) := ⟨_, _, _, rfl, rfl, rfl, by decide, by decide +kernel, jt_g 256 (by decide +kernel) rfl, jt_g 258 (by decide +kernel) rfl, jt_s 14 (by decide +kernel) rfl⟩
theorem jt_V_ok_23 : jt_VP ((0, 149), ((2, 31, 5), 2)) := ⟨_, _, _, rfl, rfl, rfl, by decide, by decide +kernel, jt_g 260 (by decide +kernel) rfl, jt_g 261 (by decide +kernel) rfl, jt_g 262 (by decide +kernel) rfl⟩
theorem jt_V_ok_24 : jt_VP ((6, 55), ((2, 32, 4), 0)) := ⟨_, _, _, rfl, rfl, rfl, by decide, by decide +kernel, jt_g 264 (by decide +kernel) rfl, jt_g 265 (by decide +kernel) rfl, jt_g 266 (by decide +kernel) rfl⟩
theorem jt_V_ok_25 : jt_VP ((0, 153), ((2, 33, 4), 0)) := ⟨_, _, _, rfl, rfl, rfl, by decide, by decide +kernel, jt_g 268 (by decide +kernel) rfl, jt_g 270 (by decide +kernel) rfl, jt_s 15 (by decide +kernel) rfl⟩
theorem jt_V_ok_26 : jt_VP ((0, 156), ((2, 34, 2), 0)) := ⟨_, _, _, rfl, rfl, rfl, by decide, by decide +kernel, jt_g 272 (by decide +kernel) rfl, jt_g 274 (by decide +kernel) rfl, jt_s 16 (by decide +kernel) rfl⟩
theorem jt_V_ok_27 : jt_VP ((0, 167), ((2, 35, 3), 0)) := ⟨_, _, _, rfl, rfl, rfl, by decide, by decide +kernel, jt_g 276 (by decide +kernel) rfl, jt_g 278 (by decide +kernel) rfl, jt_s 17 (by decide +kernel) rfl⟩
theorem jt_V_ok_28 : jt_VP ((0, 187), ((2, 36, 2), 2)) := ⟨_, _, _, rfl, rfl, rfl, by decide, by decide +kernel, jt_g 280 (by decide +kernel) rfl, jt_g 281 (by decide +kernel) rfl, jt_g 282 (by decide +kernel) rfl⟩
theorem jt_V_ok_29 : jt_VP ((2, 32), ((2, 37, 2), 2)) := ⟨_, _, _, rfl, rfl, rfl, by decide, by decide +kernel, jt_g 284 (by decide +kernel) rfl, jt_g 286 (by decide +kernel) rfl, jt_s 18 (by decide +kernel) rfl⟩
theorem jt_V_ok_30 : jt_VP ((0, 200), ((2, 38, 2), 2)) := ⟨_, _, _, rfl, rfl, rfl, by decide, by decide +kernel, jt_g 288 (by decide +kernel) rfl, jt_g 289 (by decide +kernel) rfl, jt_g 290 (by decide +kernel) rfl⟩
theorem jt_V_ok_31 : jt_VP ((6, 59), ((2, 39, 4), 0)) := ⟨_, _, _, rfl, rfl, rfl, by decide, by decide +kernel, jt_g 292 (by decide +kernel) rfl, jt_g 293 (by decide +kernel) rfl, jt_g 294 (by decide +kernel) rfl⟩
theorem jt_V_ok_32 : jt_VP ((6, 63), ((2, 40, 4), 0)) := ⟨_, _, _, rfl, rfl, rfl, by decide, by decide +kernel, jt_g 296 (by decide +kernel) rfl, jt_g 297 (by decide +kernel) rfl, jt_g 298 (by decide +kernel) rfl⟩
theorem jt_V_ok_33 : jt_VP ((0, 177), ((2, 41, 2), 2)) := ⟨_, _, _, rfl, rfl, rfl, by decide, by decide +kernel, jt_g 300 (by decide +kernel) rfl, jt_g 301 (by decide +kernel) rfl, jt_g 302 (by decide +kernel) rfl⟩
theorem jt_V_ok_34 : jt_VP ((0, 180), ((2, 42, 3), 0)) := ⟨_, _, _, rfl, rfl, rfl, by decide, by decide +kernel, jt_g 304 (by decide +kernel) rfl, jt_g 306 (by decide +kernel) rfl, jt_s 19 (by decide +kernel) rfl⟩
theorem jt_V_ok_35 : jt_VP ((0, 184), ((2, 43, 3), 2)) := ⟨_, _, _, rfl, rfl, rfl, by decide, by decide +kernel, jt_g 308 (by decide +kernel) rfl, jt_g 309 (by decide +kernel) rfl, jt_g 310 (by decide +kernel) rfl⟩
theorem jt_V_ok_36 : jt_VP ((6, 67), ((2, 44, 4), 0)) := ⟨_, _, _, rfl, rfl, rfl, by decide, by decide +kernel, jt_g 312 (by decide +kernel) rfl, jt_g 313 (by decide +kernel) rfl, jt_g 314 (by decide +kernel) rfl⟩
theorem jt_V_ok_37 : jt_VP ((0, 190), ((2, 45, 2), 2)) := ⟨_, _, _, rfl, rfl, rfl, by decide, by decide +kernel, jt_g 316 (by decide +kernel) rfl, jt_g 317 (by decide +kernel) rfl, jt_g 318 (by decide +kernel) rfl⟩
theorem jt_V_ok_38 : jt_VP ((6, 71), ((2, 46, 2), 0)) := ⟨_, _, _, rfl, rfl, rfl, by decide, by decide +kernel, jt_g 320 (by decide +kernel) rfl, jt_g 321 (by decide +kernel) rfl, jt_g 322 (by decide +kernel) rfl⟩
theorem jt_V_ok_39 : jt_VP ((0, 196), ((2, 47, 1), 2)) := ⟨_, _, _, rfl, rfl, rfl, by decide, by decide +kernel, jt_g 324 (by decide +kernel) rfl, jt_g 325 (by decide +kernel) rfl, jt_g 326 (by decide +kernel) rfl⟩
theorem jt_V_ok_40 : jt_VP ((2, 36), ((2, 36, 2), 2)) := ⟨_, _, _, rfl, rfl, rfl, by decide, by decide +kernel, jt_g 328 (by decide +kernel) rfl, jt_g 281 (by decide +kernel) rfl, jt_g 282 (by decide +kernel) rfl⟩
theorem jt_V_ok_41 : jt_VP ((6, 76), ((2, 48, 2), 0)) := ⟨_, _, _, rfl, rfl, rfl, by decide, by decide +kernel, jt_g 329 (by decide +kernel) rfl, jt_g 330 (by decide +kernel) rfl, jt_g 331 (by decide +kernel) rfl⟩
theorem jt_V_ok_42 : jt_VP ((0, 206), ((2, 49, 3), 0)) := ⟨_, _, _, rfl, rfl, rfl, by decide, by decide +kernel, jt_g 333 (by decide +kernel) rfl, jt_g 335 (by decide +kernel) rfl, jt_s 20 (by decide +kernel) rfl⟩
theorem jt_V_ok_43 : jt_VP ((0, 245), ((2, 29, 4), 0)) := ⟨_, _, _, rfl, rfl, rfl, by decide, by decide +kernel, jt_g 337 (by decide +kernel) rfl, jt_g 253 (by decide +kernel) rfl, jt_g 254 (by decide +kernel) rfl⟩
theorem jt_V_ok_44 : jt_VP ((0, 250), ((2, 51, 3), 0)) := ⟨_, _, _, rfl, rfl, rfl, by decide, by decide +kernel, jt_g 341 (by decide +kernel) rfl, jt_g 343 (by decide +kernel) rfl, jt_s 21 (by decide +kernel) rfl⟩
theorem jt_V_ok_45 : jt_VP ((0, 267), ((2, 44, 4), 0)) := ⟨_, _, _, rfl, rfl, rfl, by decide, by decide +kernel, jt_g 345 (by decide +kernel) rfl, jt_g 313 (by decide +kernel) rfl, jt_g 314 (by decide +kernel) rfl⟩
theorem jt_V_ok_46 : jt_VP ((0, 254), ((2, 52, 5), 0)) := ⟨_, _, _, rfl, rfl, rfl, by decide, by decide +kernel, jt_g 346 (by decide +kernel) rfl, jt_g 348 (by decide +kernel) rfl, jt_s 22 (by decide +kernel) rfl⟩
theorem jt_V_ok_47 : jt_VP ((0, 258), ((2, 32, 4), 0)) := ⟨_, _, _, rfl, rfl, rfl, by decide, by decide +kernel, jt_g 350 (by decide +kernel) rfl, jt_g 265 (by decide +kernel) rfl, jt_g 266 (by decide +kernel) rfl⟩
theorem jt_V_ok_48 : jt_VP ((0, 261), ((2, 39, 4), 0)) := ⟨_, _, _, rfl, rfl, rfl, by decide, by decide +kernel, jt_g 351 (by decide +kernel) rfl, jt_g 293 (by decide +kernel) rfl, jt_g 294 (by decide +kernel) rfl⟩
theorem jt_V_ok_49 : jt_VP ((0, 264), ((2, 40, 4), 0)) := ⟨_, _, _, rfl, rfl, rfl, by decide, by decide +kernel, jt_g 352 (by decide +kernel) rfl, jt_g 297 (by decide +kernel) rfl, jt_g 298 (by decide +kernel) rfl⟩
theorem jt_V_ok_50 : jt_VP ((6, 80), ((2, 53, 2), 0)) := ⟨_, _, _, rfl, rfl, rfl, by decide, by decide +kernel, jt_g 353 (by decide +kernel) rfl, jt_g 354 (by decide +kernel) rfl, jt_g 355 (by decide +kernel) rfl⟩
theorem jt_V_ok_51 : jt_VP ((6, 84), ((2, 54, 3), 0)) := ⟨_, _, _, rfl, rfl, rfl, by decide, by decide +kernel, jt_g 357 (by decide +kernel) rfl, jt_g 358 (by decide +kernel) rfl, jt_g 359 (by decide +kernel) rfl⟩
theorem jt_V_ok_52 : jt_VP ((6, 88), ((2, 55, 3), 0)) := ⟨_, _, _, rfl, rfl, rfl, by decide, by decide +kernel, jt_g 361 (by decide +kernel) rfl, jt_g 362 (by decide +kernel) rfl, jt_g 363 (by decide +kernel) rfl⟩
theorem jt_V_ok_53 : jt_VP ((0, 209), ((2, 56, 2), 2)) := ⟨_, _, _, rfl, rfl, rfl, by decide, by decide +kernel, jt_g 365 (by decide +kernel) rfl, jt_g 366 (by decide +kernel) rfl, jt_g 367 (by decide +kernel) rfl⟩
theorem jt_V_ok_54 : jt_VP ((2, 40), ((2, 57, 1), 2)) := ⟨_, _, _, rfl, rfl, rfl, by decide, by decide +kernel, jt_g 369 (by decide +kernel) rfl, jt_g 370 (by decide +kernel) rfl, jt_g 371 (by decide +kernel) rfl⟩
theorem jt_V_ok_55 : jt_VP ((6, 92), ((2, 58, 3), 0)) := ⟨_, _, _, rfl, rfl, rfl, by decide, by decide +kernel, jt_g 373 (by decide +kernel) rfl, jt_g 374 (by decide +kernel) rfl, jt_g 375 (by decide +kernel) rfl⟩
theorem jt_V_ok_56 : jt_VP ((0, 212), ((2, 59, 1), 3)) := ⟨_, _, _, rfl, rfl, rfl, by decide, by decide +kernel, jt_g 377 (by decide +kernel) rfl, jt_g 378 (by decide +kernel) rfl, jt_g 379 (by decide +kernel) rfl⟩
theorem jt_V_ok_57 : jt_VP ((0, 215), ((2, 60, 2), 3)) := ⟨_, _, _, rfl, rfl, rfl, by decide, by decide +kernel, jt_g 381 (by decide +kernel) rfl, jt_g 382 (by decide +kernel) rfl, jt_g 383 (by decide +kernel) rfl⟩
theorem jt_V_ok_58 : jt_VP ((6, 96), ((2, 61, 7), 0)) := ⟨_, _, _, rfl, rfl, rfl, by decide, by decide +kernel, jt_g 385 (by decide +kernel) rfl, jt_g 386 (by decide +kernel) rfl, jt_g 387 (by decide +kernel) rfl⟩
theorem jt_V_ok_59 : jt_VP ((6, 101), ((2, 63, 1), 0)) := ⟨_, _, _, rfl, rfl, rfl, by decide, by decide +kernel, jt_g 393 (by decide +kernel) rfl, jt_g 394 (by decide +kernel) rfl, jt_g 395 (by decide +kernel) rfl⟩
theorem jt_V_ok_60 : jt_VP ((0, 220), ((2, 64, 1), 2)) := ⟨_, _, _, rfl, rfl, rfl, by decide, by decide +kernel, jt_g 397 (by decide +kernel) rfl, jt_g 398 (by decide +kernel) rfl, jt_g 399 (by decide +kernel) rfl⟩
theorem jt_V_ok_61 : jt_VP ((6, 25), ((2, 67, 3), 5)) := ⟨_, _, _, rfl, rfl, rfl, by decide, by decide +kernel, jt_g 502 (by decide +kernel) rfl, jt_g 503 (by decide +kernel) rfl, jt_g 504 (by decide +kernel) rfl⟩
theorem jt_V_ok_62 : jt_VP ((5, 123), ((2, 69, 2), 5)) := ⟨_, _, _, rfl, rfl, rfl, by decide, by decide +kernel, jt_g 509 (by decide +kernel) rfl, jt_g 511 (by decide +kernel) rfl, jt_s 23 (by decide +kernel) rfl⟩
theorem jt_V_ok_63 : jt_VP ((6, 30), ((2, 70, 4), 5)) := ⟨_, _, _, rfl, rfl, rfl, by decide, by decide +kernel, jt_g 513 (by decide +kernel) rfl, jt_g 514 (by decide +kernel) rfl, jt_g 515 (by decide +kernel) rfl⟩
theorem jt_V_ok_64 : jt_VP ((5, 127), ((2, 71, 2), 5)) := ⟨_, _, _, rfl, rfl, rfl, by decide, by decide +kernel, jt_g 517 (by decide +kernel) rfl, jt_g 519 (by decide +kernel) rfl, jt_s 24 (by decide +kernel) rfl⟩
theorem jt_V_ok_65 : jt_VP ((5, 108), ((2, 72, 5), 5)) := ⟨_, _, _, rfl, rfl, rfl, by decide, by decide +kernel, jt_g 521 (by decide +kernel) rfl, jt_g 523 (by decide +kernel) rfl, jt_s 25 (by decide +kernel) rfl⟩
theorem jt_V_ok_66 : jt_VP ((5, 130), ((2, 74, 6), 5)) := ⟨_, _, _, rfl, rfl, rfl, by decide, by decide +kernel, jt_g 529 (by decide +kernel) rfl, jt_g 531 (by decide +kernel) rfl, jt_s 26 (by decide +kernel) rfl⟩
theorem jt_V_ok_67 : jt_VP ((6, 35), ((2, 75, 6), 5)) := ⟨_, _, _, rfl, rfl, rfl, by decide, by decide +kernel, jt_g 533 (by decide +kernel) rfl, jt_g 534 (by decide +kernel) rfl, jt_g 535 (by decide +kernel) rfl⟩
theorem jt_V_ok_68 : jt_VP ((6, 40), ((2, 76, 3), 5)) := ⟨_, _, _, rfl, rfl, rfl, by decide, by decide +kernel, jt_g 537 (by decide +kernel) rfl, jt_g 538 (by decide +kernel) rfl, jt_g 539 (by decide +kernel) rfl⟩
theorem jt_V_ok_69 : jt_VP ((5, 138), ((2, 77, 2), 5)) := ⟨_, _, _, rfl, rfl, rfl, by decide, by decide +kernel, jt_g 541 (by decide +kernel) rfl, jt_g 543 (by decide +kernel) rfl, jt_s 27 (by decide +kernel) rfl⟩
theorem jt_V_ok_70 : jt_VP ((5, 134), ((2, 78, 2), 5)) := ⟨_, _, _, rfl, rfl, rfl, by decide, by decide +kernel, jt_g 545 (by decide +kernel) rfl, jt_g 547 (by decide +kernel) rfl, jt_s 28 (by decide +kernel) rfl⟩
theorem jt_V_ok_71 : jt_VP ((6, 45), ((2, 79, 2), 5)) := ⟨_, _, _, rfl, rfl, rfl, by decide, by decide +kernel, jt_g 549 (by decide +kernel) rfl, jt_g 550 (by decide +kernel) rfl, jt_g 551 (by decide +kernel) rfl⟩
theorem jt_V_ok_72 : jt_VP ((5, 104), ((2, 80, 2), 5)) := ⟨_, _, _, rfl, rfl, rfl, by decide, by decide +kernel, jt_g 553 (by decide +kernel) rfl, jt_g 555 (by decide +kernel) rfl, jt_s 29 (by decide +kernel) rfl⟩
theorem jt_V_ok_73 : jt_VP ((6, 49), ((2, 81, 3), 5)) := ⟨_, _, _, rfl, rfl, rfl, by decide, by decide +kernel, jt_g 557 (by decide +kernel) rfl, jt_g 558 (by decide +kernel) rfl, jt_g 559 (by decide +kernel) rfl⟩
theorem jt_V_ok_74 : jt_VP ((5, 141), ((2, 82, 2), 5)) := ⟨_, _, _, rfl, rfl, rfl, by decide, by decide +kernel, jt_g 561 (by decide +kernel) rfl, jt_g 563 (by decide +kernel) rfl, jt_s 30 (by decide +kernel) rfl⟩
theorem jt_V_ok_75 : jt_VP ((5, 116), ((2, 83, 4), 5)) := ⟨_, _, _, rfl, rfl, rfl, by decide, by decide +kernel, jt_g 565 (by decide +kernel) rfl, jt_g 567 (by decide +kernel) rfl, jt_s 31 (by decide +kernel) rfl⟩
theorem jt_V_ok_76 : jt_VP ((5, 112), ((2, 84, 3), 5)) := ⟨_, _, _, rfl, rfl, rfl, by decide, by decide +kernel, jt_g 569 (by decide +kernel) rfl, jt_g 571 (by decide +kernel) rfl, jt_s 32 (by decide +kernel) rfl⟩
theorem jt_V_ok_77 : jt_VP ((6, 54), ((2, 85, 4), 5)) := ⟨_, _, _, rfl, rfl, rfl, by decide, by decide +kernel, jt_g 573 (by decide +kernel) rfl, jt_g 574 (by decide +kernel) rfl, jt_g 575 (by decide +kernel) rfl⟩
theorem jt_V_ok_78 : jt_VP ((6, 58), ((2, 86, 4), 5)) := ⟨_, _, _, rfl, rfl, rfl, by decide, by decide +kernel, jt_g 577 (by decide +kernel) rfl, jt_g 578 (by decide +kernel) rfl, jt_g 579 (by decide +kernel) rfl⟩
theorem jt_V_ok_79 : jt_VP ((5, 147), ((2, 87, 4), 5)) := ⟨_, _, _, rfl, rfl, rfl, by decide, by decide +kernel, jt_g 581 (by decide +kernel) rfl, jt_g 583 (by decide +kernel) rfl, jt_s 33 (by decide +kernel) rfl⟩
theorem jt_V_ok_80 : jt_VP ((5, 150), ((2, 88, 3), 5)) := ⟨_, _, _, rfl, rfl, rfl, by decide, by decide +kernel, jt_g 585 (by decide +kernel) rfl, jt_g 587 (by decide +kernel) rfl, jt_s 34 (by decide +kernel) rfl⟩
theorem jt_V_ok_81 : jt_VP ((6, 62), ((2, 89, 4), 5)) := ⟨_, _, _, rfl, rfl, rfl, by decide, by decide +kernel, jt_g 589 (by decide +kernel) rfl, jt_g 590 (by decide +kernel) rfl, jt_g 591 (by decide +kernel) rfl⟩
theorem jt_V_ok_82 : jt_VP ((6, 66), ((2, 90, 4), 5)) := ⟨_, _, _, rfl, rfl, rfl, by decide, by decide +kernel, jt_g 593 (by decide +kernel) rfl, jt_g 594 (by decide +kernel) rfl, jt_g 595 (by decide +kernel) rfl⟩
theorem jt_V_ok_83 : jt_VP ((6, 70), ((2, 91, 4), 5)) := ⟨_, _, _, rfl, rfl, rfl, by decide, by decide +kernel, jt_g 597 (by decide +kernel) rfl, jt_g 598 (by decide +kernel) rfl, jt_g 599 (by decide +kernel) rfl⟩
theorem jt_V_ok_84 : jt_VP ((6, 75), ((2, 92, 2), 5)) := ⟨_, _, _, rfl, rfl, rfl, by decide, by decide +kernel, jt_g 601 (by decide +kernel) rfl, jt_g 602 (by decide +kernel) rfl, jt_g 603 (by decide +kernel) rfl⟩
theorem jt_V_ok_85 : jt_VP ((6, 79), ((2, 93, 2), 5)) := ⟨_, _, _, rfl, rfl, rfl, by decide, by decide +kernel, jt_g 605 (by decide +kernel) rfl, jt_g 606 (by decide +kernel) rfl, jt_g 607 (by decide +kernel) rfl⟩
theorem jt_V_ok_86 : jt_VP ((5, 176), ((2, 94, 4), 5)) := ⟨_, _, _, rfl, rfl, rfl, by decide, by decide +kernel, jt_g 609 (by decide +kernel) rfl, jt_g 611 (by decide +kernel) rfl, jt_s 35 (by decide +kernel) rfl⟩
theorem jt_V_ok_87 : jt_VP ((5, 154), ((2, 95, 2), 5)) := ⟨_, _, _, rfl, rfl, rfl, by decide, by decide +kernel, jt_g 613 (by decide +kernel) rfl, jt_g 615 (by decide +kernel) rfl, jt_s 36 (by decide +kernel) rfl⟩
theorem jt_V_ok_88 : jt_VP ((5, 157), ((2, 85, 4), 5)) := ⟨_, _, _, rfl, rfl, rfl, by decide, by decide +kernel, jt_g 617 (by decide +kernel) rfl, jt_g 574 (by decide +kernel) rfl, jt_g 575 (by decide +kernel) rfl⟩
theorem jt_V_ok_89 : jt_VP ((5, 160), ((2, 96, 3), 5)) := ⟨_, _, _, rfl, rfl, rfl, by decide, by decide +kernel, jt_g 618 (by decide +kernel) rfl, jt_g 620 (by decide +kernel) rfl, jt_s 37 (by decide +kernel) rfl⟩
theorem jt_V_ok_90 : jt_VP ((5, 164), ((2, 91, 4), 5)) := ⟨_, _, _, rfl, rfl, rfl, by decide, by decide +kernel, jt_g 622 (by decide +kernel) rfl, jt_g 598 (by decide +kernel) rfl, jt_g 599 (by decide +kernel) rfl⟩
theorem jt_V_ok_91 : jt_VP ((5, 167), ((2, 86, 4), 5)) := ⟨_, _, _, rfl, rfl, rfl, by decide, by decide +kernel, jt_g 623 (by decide +kernel) rfl, jt_g 578 (by decide +kernel) rfl, jt_g 579 (by decide +kernel) rfl⟩
theorem jt_V_ok_92 : jt_VP ((5, 170), ((2, 89, 4), 5)) := ⟨_, _, _, rfl, rfl, rfl, by decide, by decide +kernel, jt_g 624 (by decide +kernel) rfl, jt_g 590 (by decide +kernel) rfl, jt_g 591 (by decide +kernel) rfl⟩
theorem jt_V_ok_93 : jt_VP ((5, 173), ((2, 90, 4), 5)) := ⟨_, _, _, rfl, rfl, rfl, by decide, by decide +kernel, jt_g 625 (by decide +kernel) rfl, jt_g 594 (by decide +kernel) rfl, jt_g 595 (by decide +kernel) rfl⟩
theorem jt_V_ok_94 : jt_VP ((6, 83), ((2, 97, 2), 5)) := ⟨_, _, _, rfl, rfl, rfl, by decide, by decide +kernel, jt_g 626 (by decide +kernel) rfl, jt_g 627 (by decide +kernel) rfl, jt_g 628 (by decide +kernel) rfl⟩
theorem jt_V_ok_95 : jt_VP ((6, 87), ((2, 98, 3), 5)) := ⟨_, _, _, rfl, rfl, rfl, by decide, by decide +kernel, jt_g 630 (by decide +kernel) rfl, jt_g 631 (by decide +kernel) rfl, jt_g 632 (by decide +kernel) rfl⟩
theorem jt_V_ok_96 : jt_VP ((6, 91), ((2, 99, 3), 5)) := ⟨_, _, _, rfl, rfl, rfl, by decide, by decide +kernel, jt_g 634 (by decide +kernel) rfl, jt_g 635 (by decide +kernel) rfl, jt_g 636 (by decide +kernel) rfl⟩
theorem jt_V_ok_97 : jt_VP ((5, 179), ((2, 100, 2), 5)) := ⟨_, _, _, rfl, rfl, rfl, by decide, by decide +kernel, jt_g 638 (by decide +kernel) rfl, jt_g 640 (by decide +kernel) rfl, jt_s 38 (by decide +kernel) rfl⟩
theorem jt_V_ok_98 : jt_VP ((6, 95), ((2, 101, 3), 5)) := ⟨_, _, _, rfl, rfl, rfl, by decide, by decide +kernel, jt_g 642 (by decide +kernel) rfl, jt_g 643 (by decide +kernel) rfl, jt_g 644 (by decide +kernel) rfl⟩
theorem jt_V_ok_99 : jt_VP ((5, 188), ((2, 102, 3), 5)) := ⟨_, _, _, rfl, rfl, rfl, by decide, by decide +kernel, jt_g 646 (by decide +kernel) rfl, jt_g 648 (by decide +kernel) rfl, jt_s 39 (by decide +kernel) rfl⟩
theorem jt_V_ok_100 : jt_VP ((5, 182), ((2, 103, 3), 5)) := ⟨_, _, _, rfl, rfl, rfl, by decide, by decide +kernel, jt_g 650 (by decide +kernel) rfl, jt_g 652 (by decide +kernel) rfl, jt_s 40 (by decide +kernel) rfl⟩
theorem jt_V_ok_101 : jt_VP ((6, 100), ((2, 105, 7), 5)) := ⟨_, _, _, rfl, rfl, rfl, by decide, by decide +kernel, jt_g 657 (by decide +kernel) rfl, jt_g 658 (by decide +kernel) rfl, jt_g 659 (by decide +kernel) rfl⟩
theorem jt_V_ok_102 : jt_VP ((6, 105), ((2, 106, 1), 5)) := ⟨_, _, _, rfl, rfl, rfl, by decide, by decide +kernel, jt_g 661 (by decide +kernel) rfl, jt_g 662 (by decide +kernel) rfl, jt_g 663 (by decide +kernel) rfl⟩
theorem jt_V_ok : ∀ e ∈ jt_V, jt_VP e := List.forall_mem_cons.mpr ⟨jt_V_ok_0, List.forall_mem_cons.mpr ⟨jt_V_ok_1, List.forall_mem_cons.mpr ⟨jt_V_ok_2, List.forall_mem_cons.mpr ⟨jt_V_ok_3, List.forall_mem_cons.mpr ⟨jt_V_ok_4, List.forall_mem_cons.mpr ⟨jt_V_ok_5, List.forall_mem_cons.mpr ⟨jt_V_ok_6, List.forall_mem_cons.mpr ⟨jt_V_ok_7, List.forall_mem_cons.mpr ⟨jt_V_ok_8, List.forall_mem_cons.mpr ⟨jt_V_ok_9, List.forall_mem_cons.mpr ⟨jt_V_ok_10, List.forall_mem_cons.mpr ⟨jt_V_ok_11, List.forall_mem_cons.mpr ⟨jt_V_ok_12, List.forall_mem_cons.mpr ⟨jt_V_ok_13, List.forall_mem_cons.mpr ⟨jt_V_ok_14, List.forall_mem_cons.mpr ⟨jt_V_ok_15, List.forall_mem_cons.mpr ⟨jt_V_ok_16, List.forall_mem_cons.mpr ⟨jt_V_ok_17, List.forall_mem_cons.mpr ⟨jt_V_ok_18, List.forall_mem_cons.mpr ⟨jt_V_ok_19, List.forall_mem_cons.mpr ⟨jt_V_ok_20, List.forall_mem_cons.mpr ⟨jt_V_ok_21, List.forall_mem_cons.mpr ⟨jt_V_ok_22, List.forall_mem_cons.mpr ⟨jt_V_ok_23, List.forall_mem_cons.mpr ⟨jt_V_ok_24, List.forall_mem_cons.mpr ⟨jt_V_ok_25, List.forall_mem_cons.mpr ⟨jt_V_ok_26, List.forall_mem_cons.mpr ⟨jt_V_ok_27, List.forall_mem_cons.mpr ⟨jt_V_ok_28, List.forall_mem_cons.mpr ⟨jt_V_ok_29, List.forall_mem_cons.mpr ⟨jt_V_ok_30, List.forall_mem_cons.mpr ⟨jt_V_ok_31, List.forall_mem_cons.mpr ⟨jt_V_ok_32, List.forall_mem_cons.mpr ⟨jt_V_ok_33, List.forall_mem_cons.mpr ⟨jt_V_ok_34, List.forall_mem_cons.mpr ⟨jt_V_ok_35, List.forall_mem_cons.mpr ⟨jt_V_ok_36, List.forall_mem_cons.mpr ⟨jt_V_ok_37, List.forall_mem_cons.mpr ⟨jt_V_ok_38, List.forall_mem_cons.mpr ⟨jt_V_ok_39, List.forall_mem_cons.mpr ⟨jt_V_ok_40, List.forall_mem_cons.mpr ⟨jt_V_ok_41, List.forall_mem_cons.mpr ⟨jt_V_ok_42, List.forall_mem_cons.mpr ⟨jt_V_ok_43, List.forall_mem_cons.mpr ⟨jt_V_ok_44, List.forall_mem_cons.mpr ⟨jt_V_ok_45, List.forall_mem_cons.mpr ⟨jt_V_ok_46, List.forall_mem_cons.mpr ⟨jt_V_ok_47, List.forall_mem_cons.mpr ⟨jt_V_ok_48, List.forall_mem_cons.mpr ⟨jt_V_ok_49, List.forall_mem_cons.mpr ⟨jt_V_ok_50, List.forall_mem_cons.mpr ⟨jt_V_ok_51, List.forall_mem_cons.mpr ⟨jt_V_ok_52, List.forall_mem_cons.mpr ⟨jt_V_ok_53, List.forall_mem_cons.mpr ⟨jt_V_ok_54, List.forall_mem_cons.mpr ⟨jt_V_ok_55, List.forall_mem_cons.mpr ⟨jt_V_ok_56, List.forall_mem_cons.mpr ⟨jt_V_ok_57, List.forall_mem_cons.mpr ⟨jt_V_ok_58, List.forall_mem_cons.mpr ⟨jt_V_ok_59, List.forall_mem_cons.mpr ⟨jt_V_ok_60, List.forall_mem_cons.mpr ⟨jt_V_ok_61, List.forall_mem_cons.mpr ⟨jt_V_ok_62, List.forall_mem_cons.mpr ⟨jt_V_ok_63, List.forall_mem_cons.mpr ⟨jt_V_ok_64, List.forall_mem_cons.mpr ⟨jt_V_ok_65, List.forall_mem_cons.mpr ⟨jt_V_ok_66, List.forall_mem_cons.mpr ⟨jt_V_ok_67, List.forall_mem_cons.mpr ⟨jt_V_ok_68, List.forall_mem_cons.mpr ⟨jt_V_ok_69, List.forall_mem_cons.mpr ⟨jt_V_ok_70, List.forall_mem_cons.mpr ⟨jt_V_ok_71, List.forall_mem_cons.mpr ⟨jt_V_ok_72, List.forall_mem_cons.mpr ⟨jt_V_ok_73, List.forall_mem_cons.mpr ⟨jt_V_ok_74, List.forall_mem_cons.mpr ⟨jt_V_ok_75, List.forall_mem_cons.mpr ⟨jt_V_ok_76, List.forall_mem_cons.mpr ⟨jt_V_ok_77, List.forall_mem_cons.mpr ⟨jt_V_ok_78, List.forall_mem_cons.mpr ⟨jt_V_ok_79, List.forall_mem_cons.mpr ⟨jt_V_ok_80, List.forall_mem_cons.mpr ⟨jt_V_ok_81, List.forall_mem_cons.mpr ⟨jt_V_ok_82, List.forall_mem_cons.mpr ⟨jt_V_ok_83, List.forall_mem_cons.mpr ⟨jt_V_ok_84, List.forall_mem_cons.mpr ⟨jt_V_ok_85, List.forall_mem_cons.mpr ⟨jt_V_ok_86, List.forall_mem_cons.mpr ⟨jt_V_ok_87, List.forall_mem_cons.mpr ⟨jt_V_ok_88, List.forall_mem_cons.mpr ⟨jt_V_ok_89, List.forall_mem_cons.mpr ⟨jt_V_ok_90, List.forall_mem_cons.mpr ⟨jt_V_ok_91, List.forall_mem_cons.mpr ⟨jt_V_ok_92, List.forall_mem_cons.mpr ⟨jt_V_ok_93, List.forall_mem_cons.mpr ⟨jt_V_ok_94, List.forall_mem_cons.mpr ⟨jt_V_ok_95, List.forall_mem_cons.mpr ⟨jt_V_ok_96, List.forall_mem_cons.mpr ⟨jt_V_ok_97, List.forall_mem_cons.mpr ⟨jt_V_ok_98, List.forall_mem_cons.mpr ⟨jt_V_ok_99, List.forall_mem_cons.mpr ⟨jt_V_ok_100, List.forall_mem_cons.mpr ⟨jt_V_ok_101, List.forall_mem_cons.mpr ⟨jt_V_ok_102, fun _ h => absurd h List.not_mem_nil⟩⟩⟩⟩⟩⟩⟩⟩⟩⟩⟩⟩⟩⟩⟩⟩⟩⟩⟩⟩⟩⟩⟩⟩⟩⟩⟩⟩⟩⟩⟩⟩⟩⟩⟩⟩⟩⟩⟩⟩⟩⟩⟩⟩⟩⟩⟩⟩⟩⟩⟩⟩⟩⟩⟩⟩⟩⟩⟩⟩⟩⟩⟩⟩⟩⟩⟩⟩⟩⟩⟩⟩⟩⟩⟩⟩⟩⟩⟩⟩⟩⟩⟩⟩⟩⟩⟩⟩⟩⟩⟩⟩⟩⟩⟩⟩⟩⟩⟩⟩⟩⟩⟩
def jt_NQ (c k : Nat) (q : Nat × Nat × Nat) : Prop := ∃ (y : MethodName) (X : jx_X) (n : Nat), jt_M q.2.1 = some (y, X, n + 1) ∧ q.2.2 = n + 1 ∧ y.name = "<init>" ∧ X.2.2.2.1 = none ∧ (parseMethodDescriptor y.desc).map (fun d => d.parameters.length) = some n ∧ Cond.instanceMethod y ∈ jt_G ∧ ((q.1 = 3 ∧ Cond.methodLink (jt_cn c) k y ∈ jt_G) ∨ (q.1 = 4 ∧ ∃ h, Cond.methodLinkNest (jt_cn c) k y h ∈ jt_nw))
def jt_NP (e : (Nat × Nat) × Option (Nat × Nat × Nat)) : Prop := match e.2 with
  | none => Cond.methodLink (jt_cn e.1.1) e.1.2 Lib.objectInit ∈ jt_G
  | some q => jt_NQ e.1.1 e.1.2 q
theorem jt_N_ok_0 : jt_NP ((6, 15), some (3, 0, 3)) := ⟨_, _, _, rfl, rfl, rfl, rfl, by decide +kernel, jt_g 11 (by decide +kernel) rfl, Or.inl ⟨rfl, jt_g 10 (by decide +kernel) rfl⟩⟩
theorem jt_N_ok_1 : jt_NP ((0, 1), none) := jt_g 13 (by decide +kernel) rfl
theorem jt_N_ok_2 : jt_NP ((0, 63), some (3, 3, 2)) := ⟨_, _, _, rfl, rfl, rfl, rfl, by decide +kernel, jt_g 72 (by decide +kernel) rfl, Or.inl ⟨rfl, jt_g 71 (by decide +kernel) rfl⟩⟩
theorem jt_N_ok_3 : jt_NP ((1, 1), none) := jt_g 74 (by decide +kernel) rfl
theorem jt_N_ok_4 : jt_NP ((2, 3), none) := jt_g 80 (by decide +kernel) rfl
theorem jt_N_ok_5 : jt_NP ((0, 70), some (3, 6, 2)) := ⟨_, _, _, rfl, rfl, rfl, rfl, by decide +kernel, jt_g 123 (by decide +kernel) rfl, Or.inl ⟨rfl, jt_g 122 (by decide +kernel) rfl⟩⟩
theorem jt_N_ok_6 : jt_NP ((3, 3), none) := jt_g 125 (by decide +kernel) rfl
theorem jt_N_ok_7 : jt_NP ((0, 80), some (3, 8, 7)) := ⟨_, _, _, rfl, rfl, rfl, rfl, by decide +kernel, jt_g 145 (by decide +kernel) rfl, Or.inl ⟨rfl, jt_g 144 (by decide +kernel) rfl⟩⟩
theorem jt_N_ok_8 : jt_NP ((4, 1), none) := jt_g 147 (by decide +kernel) rfl
theorem jt_N_ok_9 : jt_NP ((6, 20), some (3, 66, 3)) := ⟨_, _, _, rfl, rfl, rfl, rfl, by decide +kernel, jt_g 407 (by decide +kernel) rfl, Or.inl ⟨rfl, jt_g 406 (by decide +kernel) rfl⟩⟩
theorem jt_N_ok_10 : jt_NP ((5, 1), none) := jt_g 409 (by decide +kernel) rfl
theorem jt_N_ok_11 : jt_NP ((1, 9), some (4, 4, 1)) := ⟨_, _, _, rfl, rfl, rfl, rfl, by decide +kernel, jt_g 78 (by decide +kernel) rfl, Or.inr ⟨rfl, _, List.mem_of_getElem? (i := 0) rfl⟩⟩
theorem jt_N_ok : ∀ e ∈ jt_N, jt_NP e := List.forall_mem_cons.mpr ⟨jt_N_ok_0, List.forall_mem_cons.mpr ⟨jt_N_ok_1, List.forall_mem_cons.mpr ⟨jt_N_ok_2, List.forall_mem_cons.mpr ⟨jt_N_ok_3, List.forall_mem_cons.mpr ⟨jt_N_ok_4, List.forall_mem_cons.mpr ⟨jt_N_ok_5, List.forall_mem_cons.mpr ⟨jt_N_ok_6, List.forall_mem_cons.mpr ⟨jt_N_ok_7, List.forall_mem_cons.mpr ⟨jt_N_ok_8, List.forall_mem_cons.mpr ⟨jt_N_ok_9, List.forall_mem_cons.mpr ⟨jt_N_ok_10, List.forall_mem_cons.mpr ⟨jt_N_ok_11, fun _ h => absurd h List.not_mem_nil⟩⟩⟩⟩⟩⟩⟩⟩⟩⟩⟩⟩
theorem jt_mv_ok {c k ci : Nat} {q : Nat × Nat × Nat} (h : jt_mv c k = some (q, ci)) : jt_VP ((c, k), (q, ci)) := jt_V_ok _ (jt_look h)
theorem jt_mi_ok {c k : Nat} {q : Nat × Nat × Nat} (h : jt_mi c k = some (some q)) : jt_NQ c k q := jt_N_ok _ (jt_look h)
theorem jt_mi_o {c k : Nat} (h : jt_mi c k = some none) : Cond.methodLink (jt_cn c) k Lib.objectInit ∈ jt_G := jt_N_ok _ (jt_look h)
theorem jt_ms_l {c k : Nat} {q : Nat × Nat × Nat} (h : jt_ms c k = some (.inl q)) : jt_SP ((c, k), q) := by
  unfold jt_ms at h
  split at h
  · rename_i q0 h0
    cases h
    exact jt_S_ok _ (jt_look h0)
  · cases hx : jt_SX.lookup (c, k) with
    | none => rw [hx] at h; cases h
    | some b => rw [hx] at h; cases h
theorem jt_obj : Cond.instanceMethod Lib.objectInit ∈ jt_G ∧ Cond.code Lib.objectInit ⟨#[0xb1]⟩ 1 none ∈ jt_G := ⟨jt_g 14 (by decide +kernel) rfl, jt_g 15 (by decide +kernel) rfl⟩
theorem jt_max : Cond.static Lib.Math.max.name ∈ jt_G ∧ Cond.initialized "java/lang/Math" ∈ jt_G ∧ Cond.code Lib.Math.max.name Lib.Math.max.code 2 (some .int) ∈ jt_G := ⟨jt_g 26 (by decide +kernel) rfl, jt_g 2 (by decide +kernel) rfl, jt_g 27 (by decide +kernel) rfl⟩
theorem jt_min : Cond.static Lib.Math.min.name ∈ jt_G ∧ Cond.code Lib.Math.min.name Lib.Math.min.code 2 (some .int) ∈ jt_G := ⟨jt_g 23 (by decide +kernel) rfl, jt_g 24 (by decide +kernel) rfl⟩
def jt_XP (e : (Nat × Nat) × Bool) : Prop := Cond.methodLink (jt_cn e.1.1) e.1.2 (if e.2 = true then Lib.Math.max.name else Lib.Math.min.name) ∈ jt_G
theorem jt_X_ok_0 : jt_XP ((0, 41), false) := jt_g 22 (by decide +kernel) rfl
theorem jt_X_ok_1 : jt_XP ((0, 47), true) := jt_g 25 (by decide +kernel) rfl
theorem jt_X_ok : ∀ e ∈ jt_SX, jt_XP e := List.forall_mem_cons.mpr ⟨jt_X_ok_0, List.forall_mem_cons.mpr ⟨jt_X_ok_1, fun _ h => absurd h List.not_mem_nil⟩⟩
theorem jt_ms_r {c k : Nat} {b : Bool} (h : jt_ms c k = some (.inr b)) : Cond.methodLink (jt_cn c) k (if b = true then Lib.Math.max.name else Lib.Math.min.name) ∈ jt_G := by
  unfold jt_ms at h
  split at h
  · cases h
  · cases hx : jt_SX.lookup (c, k) with
    | none => rw [hx] at h; cases h
    | some b0 => rw [hx] at h; cases h; exact jt_X_ok _ (jt_look hx)
def jt_nk : Nat := 5
def jt_el (t : Nat) : Option Nat := match t with
  | 2 => some 1
  | 3 => some 3
  | 4 => some 4
  | _ => none
def jt_tys (kA : Nat → ClassId) : List (ClassId × FieldType) := [(kA 0, .int), (kA 1, .boolean), (kA 2, .object "CoinChild$Coin"), (kA 3, .object "CoinChild$Block"), (kA 4, .object "CoinChild$Entry")]
def jt_ao : List String := ["CoinChild$Coin", "CoinChild$Block", "CoinChild$Entry"]
theorem jt_ao_in : ∀ C ∈ jt_ao, Cond.arrayOver (.object C) ∈ lw_tbl := List.forall_mem_cons.mpr ⟨jt_in 17 (by decide +kernel), List.forall_mem_cons.mpr ⟨jt_in 19 (by decide +kernel), List.forall_mem_cons.mpr ⟨jt_in 21 (by decide +kernel), fun _ h => absurd h List.not_mem_nil⟩⟩⟩
theorem jt_ac : Cond.arrayClass .int ∈ jt_G ∧ Cond.arrayClass .boolean ∈ jt_G := ⟨jt_g 62 (by decide +kernel) rfl, jt_g 501 (by decide +kernel) rfl⟩
def jt_na (ty : ArrayType) : Option Nat := match ty with
  | .int => some 0
  | .boolean => some 1
  | _ => none
def jt_L : List ((Nat × Nat) × Nat) := [((6, 7), 0), ((0, 16), 1), ((0, 22), 3), ((0, 28), 4), ((1, 7), 2), ((3, 9), 4), ((6, 18), 5)]
def jt_LP (e : (Nat × Nat) × Nat) : Prop := Cond.classLink (jt_cn e.1.1) e.1.2 (jt_cn e.2) ∈ jt_G ∧ e.2 < 6
theorem jt_L_ok_0 : jt_LP ((6, 7), 0) := ⟨jt_g 8 (by decide +kernel) rfl, by decide⟩
theorem jt_L_ok_1 : jt_LP ((0, 16), 1) := ⟨jt_g 16 (by decide +kernel) rfl, by decide⟩
theorem jt_L_ok_2 : jt_LP ((0, 22), 3) := ⟨jt_g 18 (by decide +kernel) rfl, by decide⟩
theorem jt_L_ok_3 : jt_LP ((0, 28), 4) := ⟨jt_g 20 (by decide +kernel) rfl, by decide⟩
theorem jt_L_ok_4 : jt_LP ((1, 7), 2) := ⟨jt_g 75 (by decide +kernel) rfl, by decide⟩
theorem jt_L_ok_5 : jt_LP ((3, 9), 4) := ⟨jt_g 126 (by decide +kernel) rfl, by decide⟩
theorem jt_L_ok_6 : jt_LP ((6, 18), 5) := ⟨jt_g 404 (by decide +kernel) rfl, by decide⟩
theorem jt_L_ok : ∀ e ∈ jt_L, jt_LP e := List.forall_mem_cons.mpr ⟨jt_L_ok_0, List.forall_mem_cons.mpr ⟨jt_L_ok_1, List.forall_mem_cons.mpr ⟨jt_L_ok_2, List.forall_mem_cons.mpr ⟨jt_L_ok_3, List.forall_mem_cons.mpr ⟨jt_L_ok_4, List.forall_mem_cons.mpr ⟨jt_L_ok_5, List.forall_mem_cons.mpr ⟨jt_L_ok_6, fun _ h => absurd h List.not_mem_nil⟩⟩⟩⟩⟩⟩⟩
def jt_df (ci : Nat) : List jx_V := match ci with
  | 0 => [.inl 0, .inl 0, .inr none, .inr none, .inr none, .inl 0, .inr none, .inl 0, .inr none, .inr none, .inl 0]
  | 1 => [.inl 0, .inl 0, .inr none]
  | 2 => [.inl 0, .inl 0, .inl 0, .inl 0, .inl 0, .inr none]
  | 3 => [.inr none, .inr none, .inl 0]
  | 4 => [.inl 0, .inl 0, .inl 0, .inl 0, .inl 0, .inl 0]
  | 5 => [.inl 0, .inl 0, .inl 0, .inr none, .inl 0, .inr none, .inr none, .inr none, .inl 0, .inr none, .inr none, .inr none, .inr none, .inr none, .inr none, .inr none, .inr none, .inr none, .inr none, .inr none, .inr none, .inr none, .inr none, .inr none, .inr none, .inr none, .inr none, .inr none, .inr none, .inr none]
  | _ => []
def jt_new (c k : Nat) : Option (Nat × List jx_V) := (jt_L.lookup (c, k)).map fun ci => (ci, jt_df ci)
def jt_tyl : List FieldType := [.int, .boolean, .object "CoinChild$Coin", .object "CoinChild$Block", .object "CoinChild$Entry"]
theorem jt_tyl_ok {FT : FieldType} (h : FT ∈ jt_tyl) : FT = .int ∨ FT = .boolean ∨ ∃ C, C ∈ jt_ao ∧ FT = .object C := by
  simp only [jt_tyl, List.mem_cons, List.not_mem_nil, or_false] at h
  rcases h with h | h | h | h | h
  · exact Or.inl h
  · exact Or.inr (Or.inl h)
  · exact Or.inr (Or.inr ⟨_, by decide, h⟩)
  · exact Or.inr (Or.inr ⟨_, by decide, h⟩)
  · exact Or.inr (Or.inr ⟨_, by decide, h⟩)
theorem jt_tys_q {kA : Nat → ClassId} : ∀ {k : Nat} {q : ClassId × FieldType}, (jt_tys kA)[k]? = some q → ∃ FT, jt_tyl[k]? = some FT ∧ q = (kA k, FT)
  | 0, _, h => ⟨_, rfl, (Option.some.inj h).symm⟩
  | 1, _, h => ⟨_, rfl, (Option.some.inj h).symm⟩
  | 2, _, h => ⟨_, rfl, (Option.some.inj h).symm⟩
  | 3, _, h => ⟨_, rfl, (Option.some.inj h).symm⟩
  | 4, _, h => ⟨_, rfl, (Option.some.inj h).symm⟩
  | n + 5, _, h => by simp [jt_tys] at h
def jt_ek (ci : Nat) : Option Nat := match ci with
  | 1 => some 2
  | 3 => some 3
  | 4 => some 4
  | _ => none
def jt_arr (c k : Nat) : Option Nat := (jt_L.lookup (c, k)).bind jt_ek
theorem jt_ek_ok {ci t : Nat} (h : jt_ek ci = some t) : jt_el t = some ci ∧ jt_cn ci ∈ jt_ao := by
  unfold jt_ek at h
  split at h <;> first | (cases h; exact ⟨rfl, by decide⟩) | cases h
theorem jt_arr_ok {c k t : Nat} (h : jt_arr c k = some t) : ∃ ci, Cond.classLink (jt_cn c) k (jt_cn ci) ∈ jt_G ∧ jt_el t = some ci ∧ jt_cn ci ∈ jt_ao := by
  unfold jt_arr at h
  cases hl : jt_L.lookup (c, k) with
  | none => rw [hl] at h; cases h
  | some ci =>
    rw [hl] at h
    exact ⟨ci, (jt_L_ok _ (jt_look hl)).1, jt_ek_ok h⟩
theorem jt_el_ok {kA : Nat → ClassId} {t ci : Nat} (h : jt_el t = some ci) : (jt_tys kA)[t]? = some (kA t, .object (jt_cn ci)) ∧ ∃ (T : u_T) (N : Nat), jt_Cl[ci]? = some (jt_cn ci, T, N) := by
  unfold jt_el at h
  split at h <;> first | (cases h; exact ⟨rfl, _, _, rfl⟩) | cases h
theorem jt_tys_ok {kA : Nat → ClassId} : ∀ {t : Nat}, t < jt_nk → ∃ FT : FieldType, (jt_tys kA)[t]? = some (kA t, FT)
  | 0, _ => ⟨_, rfl⟩
  | 1, _ => ⟨_, rfl⟩
  | 2, _ => ⟨_, rfl⟩
  | 3, _ => ⟨_, rfl⟩
  | 4, _ => ⟨_, rfl⟩
  | n + 5, h => absurd h (by unfold jt_nk; omega)
/-- a class by its number: it can be made -/
def jt_DP (ci : Nat) : Prop := ∃ (T : u_T) (N : Nat) (ty : Nat → FieldType), jt_Cl[ci]? = some (jt_cn ci, T, N) ∧ jt_CP (jt_cn ci) T N ty ∧ Cond.instantiable (jt_cn ci) N ∈ jt_G ∧ Cond.initialized (jt_cn ci) ∈ jt_G ∧ (jt_df ci).length = N ∧ ∀ j, j < N → defaultValue (ty j) = vp_V ((jt_df ci).map jx_v) j
theorem jt_d0 : jt_DP 0 := ⟨jt_T0, 11, jt_t0, rfl, jt_c0, jt_g 9 (by decide +kernel) rfl, jt_g 1 (by decide +kernel) rfl, rfl, by decide +kernel⟩
theorem jt_d1 : jt_DP 1 := ⟨jt_T1, 3, jt_t1, rfl, jt_c1, jt_g 70 (by decide +kernel) rfl, jt_g 4 (by decide +kernel) rfl, rfl, by decide +kernel⟩
theorem jt_d2 : jt_DP 2 := ⟨jt_T2, 6, jt_t2, rfl, jt_c2, jt_g 76 (by decide +kernel) rfl, jt_g 5 (by decide +kernel) rfl, rfl, by decide +kernel⟩
theorem jt_d3 : jt_DP 3 := ⟨jt_T3, 3, jt_t3, rfl, jt_c3, jt_g 121 (by decide +kernel) rfl, jt_g 6 (by decide +kernel) rfl, rfl, by decide +kernel⟩
theorem jt_d4 : jt_DP 4 := ⟨jt_T4, 6, jt_t4, rfl, jt_c4, jt_g 139 (by decide +kernel) rfl, jt_g 7 (by decide +kernel) rfl, rfl, by decide +kernel⟩
theorem jt_d5 : jt_DP 5 := ⟨jt_T5, 30, jt_t5, rfl, jt_c5, jt_g 405 (by decide +kernel) rfl, jt_g 3 (by decide +kernel) rfl, rfl, by decide +kernel⟩
theorem jt_D_ok : ∀ ci, ci < 6 → jt_DP ci
  | 0, _ => jt_d0
  | 1, _ => jt_d1
  | 2, _ => jt_d2
  | 3, _ => jt_d3
  | 4, _ => jt_d4
  | 5, _ => jt_d5
  | n + 6, h => absurd h (by omega)
theorem jt_new_ok {c k ci : Nat} {fs : List jx_V} (h : jt_new c k = some (ci, fs)) : Cond.classLink (jt_cn c) k (jt_cn ci) ∈ jt_G ∧ ∃ (T : u_T) (N : Nat) (ty : Nat → FieldType), jt_Cl[ci]? = some (jt_cn ci, T, N) ∧ jt_CP (jt_cn ci) T N ty ∧ Cond.instantiable (jt_cn ci) N ∈ jt_G ∧ Cond.initialized (jt_cn ci) ∈ jt_G ∧ fs.length = N ∧ ∀ j, j < N → defaultValue (ty j) = vp_V (fs.map jx_v) j := by
  unfold jt_new at h
  cases hl : jt_L.lookup (c, k) with
  | none => rw [hl] at h; cases h
  | some c0 =>
    rw [hl] at h
    cases h
    have h1 := jt_L_ok _ (jt_look hl)
    exact ⟨h1.1, jt_D_ok _ h1.2⟩
def jt_K : List ((Nat × Nat) × Int32) := [((0, 223), 1540483477), ((5, 93), 1540483477)]
def jt_cst (c k : Nat) : Option Int32 := jt_K.lookup (c, k)
def jt_KP (e : (Nat × Nat) × Int32) : Prop := Cond.constant (jt_cn e.1.1) e.1.2 e.2 ∈ jt_G
theorem jt_K_ok_0 : jt_KP ((0, 223), 1540483477) := jt_g 143 (by decide +kernel) rfl
theorem jt_K_ok_1 : jt_KP ((5, 93), 1540483477) := jt_g 528 (by decide +kernel) rfl
theorem jt_K_ok : ∀ e ∈ jt_K, jt_KP e := List.forall_mem_cons.mpr ⟨jt_K_ok_0, List.forall_mem_cons.mpr ⟨jt_K_ok_1, fun _ h => absurd h List.not_mem_nil⟩⟩
theorem jt_cst_ok {c k : Nat} {v : Int32} (h : jt_cst c k = some v) : Cond.constant (jt_cn c) k v ∈ jt_G := jt_K_ok _ (jt_look h)
end
section
/-! An interpreter over worlds of our own: it steps by 'decode', calls by number and depth; 'jx_run' is without fuel. It knows the program by the tables of part 10. -/
def jx_gF (w : jx_W) (a ci k : Nat) : Option jx_V := match w.1 a with
  | some (.inr (c, fs)) => if c = ci then fs[k]? else none
  | _ => none
def jx_sF (w : jx_W) (a ci k : Nat) (v : jx_V) : Option jx_W := match w.1 a with
  | some (.inr (c, fs)) => if c = ci ∧ k < fs.length then some (va_up w.1 a (some (.inr (c, fs.set k v))), w.2) else none
  | _ => none
def jx_gI (Z : jx_Sc) (t : Nat) (w : jx_W) (a : Nat) (i : Int32) : Option Int32 := match w.1 a with
  | some (.inl (t', n, .inl f)) => if t' = t ∧ ¬ (i < 0 ∨ n ≤ i.toNatClampNeg) then some (f i.toNatClampNeg) else none
  | none => if t = 0 ∧ a = Z.1 ∧ ¬ (i < 0 ∨ Z.2.1 ≤ i.toNatClampNeg) then some (Z.2.2 i.toNatClampNeg) else none
  | _ => none
def jx_sI (t : Nat) (w : jx_W) (a : Nat) (i x : Int32) : Option jx_W := match w.1 a with
  | some (.inl (t', n, .inl f)) => if t' = t ∧ ¬ (i < 0 ∨ n ≤ i.toNatClampNeg) then some (va_up w.1 a (some (.inl (t', n, .inl (va_up f i.toNatClampNeg x)))), w.2) else none
  | _ => none
def jx_gA (w : jx_W) (a : Nat) (i : Int32) : Option (Option Nat) := match w.1 a with
  | some (.inl (t, n, .inr f)) => if (jt_el t).isSome = true ∧ ¬ (i < 0 ∨ n ≤ i.toNatClampNeg) then some (f i.toNatClampNeg) else none
  | _ => none
/-- the object at v is of the class that the array of kind t holds -/
def jx_ok (w : jx_W) (t : Nat) (r : Option Nat) : Bool := match r with
  | none => (jt_el t).isSome
  | some v => match w.1 v with
    | some (.inr (ci, _)) => decide (jt_el t = some ci)
    | _ => false
def jx_sA (w : jx_W) (a : Nat) (i : Int32) (r : Option Nat) : Option jx_W := match w.1 a with
  | some (.inl (t, n, .inr f)) => if jx_ok w t r = true ∧ ¬ (i < 0 ∨ n ≤ i.toNatClampNeg) then some (va_up w.1 a (some (.inl (t, n, .inr (va_up f i.toNatClampNeg r)))), w.2) else none
  | _ => none
def jx_gL (Z : jx_Sc) (w : jx_W) (a : Nat) : Option Nat := match w.1 a with
  | some (.inl (t, n, _)) => if t < jt_nk then some n else none
  | none => if a = Z.1 then some Z.2.1 else none
  | _ => none
/-- a new cell of k slots -/
def jx_nw (w : jx_W) (c : jx_E) (k : Nat) : jx_W := (va_up w.1 w.2.1 (some c), w.2.1 + 1, w.2.2 + k)
def jx_is (w : jx_W) (a ci : Nat) : Bool := match w.1 a with
  | some (.inr (c, _)) => c == ci
  | _ => false
/-- whether a value is of the kind (0 int, 1 boolean, 2 reference) -/
def jx_fk (k : Nat) (v : jx_V) : Bool := match v with
  | .inl x => k == 0 || (k == 1 && decide (x = 0 ∨ x = 1))
  | .inr _ => k == 2
abbrev jx_O : Type := Option (jx_S ⊕ jx_T)
def jx_k {α : Type} (n k : Nat) (o : Option α) : Option α := if n = k then o else none
def jx_go (pc : Nat) (lv : jx_L) (st : List jx_V) (w : jx_W) : jx_O := some (.inl (pc, lv, st, w))
def jx_tg (pc : Nat) (off : Int) : Option Nat := if 0 ≤ (pc : Int) + off then some ((pc : Int) + off).toNat else none
def jx_cb (c : Jvm.ClassFile.Cond) (x y : Int32) : Bool := match c with
  | .eq => decide (x = y)
  | .ne => decide (¬ x = y)
  | .lt => decide (x < y)
  | .ge => decide (y ≤ x)
  | .gt => decide (y < x)
  | .le => decide (x ≤ y)
def jx_br (b : Bool) (pc : Nat) (off : Int) (lv : jx_L) (st : List jx_V) (w : jx_W) : jx_O := match jx_tg pc off with
  | some t => jx_go (if b = true then t else pc + 3) lv st w
  | none => none
def ja_li (i pc n : Nat) (lv : jx_L) (st : List jx_V) (w : jx_W) : jx_O := match lv[i]? with
  | some (some (.inl x)) => jx_go (pc + n) lv (.inl x :: st) w
  | _ => none
def ja_la (i pc n : Nat) (lv : jx_L) (st : List jx_V) (w : jx_W) : jx_O := match lv[i]? with
  | some (some (.inr r)) => jx_go (pc + n) lv (.inr r :: st) w
  | _ => none
def ja_si (nL i pc n : Nat) (lv : jx_L) (st : List jx_V) (w : jx_W) : jx_O := match st with
  | .inl x :: st => if i < nL then jx_go (pc + n) (lv.set i (some (.inl x))) st w else none
  | _ => none
def ja_sa (nL i pc n : Nat) (lv : jx_L) (st : List jx_V) (w : jx_W) : jx_O := match st with
  | .inr r :: st => if i < nL then jx_go (pc + n) (lv.set i (some (.inr r))) st w else none
  | _ => none
def ja_ii (nL k : Nat) (c : Int) (pc : Nat) (lv : jx_L) (st : List jx_V) (w : jx_W) : jx_O := match lv[k]? with
  | some (some (.inl x)) => if k < nL then jx_go (pc + 3) (lv.set k (some (.inl (x + Int32.ofInt c)))) st w else none
  | _ => none
def ja_b2 (g : Int32 → Int32 → Int32) (pc : Nat) (lv : jx_L) (st : List jx_V) (w : jx_W) : jx_O := match st with
  | .inl y :: .inl x :: st => jx_go (pc + 1) lv (.inl (g x y) :: st) w
  | _ => none
/-- a division: not by 0 -/
def ja_b0 (g : Int32 → Int32 → Int32) (pc : Nat) (lv : jx_L) (st : List jx_V) (w : jx_W) : jx_O := match st with
  | .inl y :: .inl x :: st => if y = 0 then none else jx_go (pc + 1) lv (.inl (g x y) :: st) w
  | _ => none
def ja_neg (pc : Nat) (lv : jx_L) (st : List jx_V) (w : jx_W) : jx_O := match st with
  | .inl x :: st => jx_go (pc + 1) lv (.inl (-x) :: st) w
  | _ => none
def ja_dup (pc : Nat) (lv : jx_L) (st : List jx_V) (w : jx_W) : jx_O := match st with
  | v :: st => jx_go (pc + 1) lv (v :: v :: st) w
  | _ => none
def ja_dup2 (pc : Nat) (lv : jx_L) (st : List jx_V) (w : jx_W) : jx_O := match st with
  | v :: u :: st => jx_go (pc + 1) lv (v :: u :: v :: u :: st) w
  | _ => none
def ja_pop (pc : Nat) (lv : jx_L) (st : List jx_V) (w : jx_W) : jx_O := match st with
  | _ :: st => jx_go (pc + 1) lv st w
  | _ => none
def ja_if (c : Jvm.ClassFile.Cond) (off : Int) (pc : Nat) (lv : jx_L) (st : List jx_V) (w : jx_W) : jx_O := match st with
  | .inl x :: st => jx_br (jx_cb c x 0) pc off lv st w
  | _ => none
def ja_ic (c : Jvm.ClassFile.Cond) (off : Int) (pc : Nat) (lv : jx_L) (st : List jx_V) (w : jx_W) : jx_O := match st with
  | .inl y :: .inl x :: st => jx_br (jx_cb c x y) pc off lv st w
  | _ => none
def ja_nl (off : Int) (pc : Nat) (lv : jx_L) (st : List jx_V) (w : jx_W) : jx_O := match st with
  | .inr r :: st => jx_br r.isNone pc off lv st w
  | _ => none
def ja_nn (off : Int) (pc : Nat) (lv : jx_L) (st : List jx_V) (w : jx_W) : jx_O := match st with
  | .inr r :: st => jx_br r.isSome pc off lv st w
  | _ => none
def ja_ts (d lo hi : Int) (offs : Array Int) (pc : Nat) (lv : jx_L) (st : List jx_V) (w : jx_W) : jx_O := match st with
  | .inl x :: st => if x.toInt < lo ∨ hi < x.toInt then jx_br true pc d lv st w else (match offs[(x.toInt - lo).toNat]? with
    | some off => jx_br true pc off lv st w
    | none => none)
  | _ => none
def ja_gf (X : jx_X) (k pc : Nat) (lv : jx_L) (st : List jx_V) (w : jx_W) : jx_O := match jt_fld X.1 k with
  | some (ci, f, _, _) => (match st with
    | .inr (some a) :: st => (match jx_gF w a ci f with
      | some v => jx_go (pc + 3) lv (v :: st) w
      | none => none)
    | _ => none)
  | none => none
def ja_pf (X : jx_X) (k pc : Nat) (lv : jx_L) (st : List jx_V) (w : jx_W) : jx_O := match jt_fld X.1 k with
  | some (ci, f, tk, pm) => (match st with
    | v :: .inr (some a) :: st => if jx_fk tk v = true ∧ (pm = 0 ∨ (pm = 1 ∧ X.2.2.2.2 = true)) then (match jx_sF w a ci f v with
      | some w => jx_go (pc + 3) lv st w
      | none => none) else none
    | _ => none)
  | none => none
def ja_al (Z : jx_Sc) (t pc : Nat) (lv : jx_L) (st : List jx_V) (w : jx_W) : jx_O := match st with
  | .inl i :: .inr (some a) :: st => (match jx_gI Z t w a i with
    | some x => jx_go (pc + 1) lv (.inl x :: st) w
    | none => none)
  | _ => none
def ja_as (t pc : Nat) (lv : jx_L) (st : List jx_V) (w : jx_W) : jx_O := match st with
  | .inl x :: .inl i :: .inr (some a) :: st => if t = 0 ∨ x = 0 ∨ x = 1 then (match jx_sI t w a i x with
    | some w => jx_go (pc + 1) lv st w
    | none => none) else none
  | _ => none
def ja_rl (pc : Nat) (lv : jx_L) (st : List jx_V) (w : jx_W) : jx_O := match st with
  | .inl i :: .inr (some a) :: st => (match jx_gA w a i with
    | some r => jx_go (pc + 1) lv (.inr r :: st) w
    | none => none)
  | _ => none
def ja_rs (pc : Nat) (lv : jx_L) (st : List jx_V) (w : jx_W) : jx_O := match st with
  | .inr r :: .inl i :: .inr (some a) :: st => (match jx_sA w a i r with
    | some w => jx_go (pc + 1) lv st w
    | none => none)
  | _ => none
def ja_len (Z : jx_Sc) (pc : Nat) (lv : jx_L) (st : List jx_V) (w : jx_W) : jx_O := match st with
  | .inr (some a) :: st => (match jx_gL Z w a with
    | some k => jx_go (pc + 1) lv (.inl (Int32.ofNat k) :: st) w
    | none => none)
  | _ => none
def ja_na (ty : ArrayType) (pc : Nat) (lv : jx_L) (st : List jx_V) (w : jx_W) : jx_O := match jt_na ty with
  | some t => (match st with
    | .inl x :: st => if x < 0 ∨ 65536 < x.toNatClampNeg then none else jx_go (pc + 2) lv (.inr (some w.2.1) :: st) (jx_nw w (.inl (t, x.toNatClampNeg, .inl (fun _ => 0))) x.toNatClampNeg)
    | _ => none)
  | none => none
def ja_ra (X : jx_X) (k pc : Nat) (lv : jx_L) (st : List jx_V) (w : jx_W) : jx_O := match jt_arr X.1 k with
  | some t => (match st with
    | .inl x :: st => if x < 0 ∨ 65536 < x.toNatClampNeg then none else jx_go (pc + 3) lv (.inr (some w.2.1) :: st) (jx_nw w (.inl (t, x.toNatClampNeg, .inr (fun _ => none))) x.toNatClampNeg)
    | _ => none)
  | none => none
def ja_nw (X : jx_X) (k pc : Nat) (lv : jx_L) (st : List jx_V) (w : jx_W) : jx_O := match jt_new X.1 k with
  | some (ci, fs) => jx_go (pc + 3) lv (.inr (some w.2.1) :: st) (jx_nw w (.inr (ci, fs)) fs.length)
  | none => none
def ja_lc (X : jx_X) (k pc : Nat) (lv : jx_L) (st : List jx_V) (w : jx_W) : jx_O := match jt_cst X.1 k with
  | some v => jx_go (pc + 2) lv (.inl v :: st) w
  | none => none
/-- a call: how (0 static of the own class, 1 static of a nest mate, 2 virtual, 3 <init>, 4 <init> of a nest mate), which method, with how many parameters -/
def jx_cl (call : jx_C) (q : Nat × Nat × Nat) (pc : Nat) (lv : jx_L) (st : List jx_V) (w : jx_W) : jx_O :=
  if q.2.2 ≤ st.length ∧ (st.drop q.2.2).length ≤ 8 then
    (match call q.2.1 (st.take q.2.2).reverse w with
    | some t => jx_go (pc + 3) lv (t.1.toList ++ st.drop q.2.2) t.2
    | none => none)
  else none
/-- the receiver: the last of the parameters on the stack -/
def jx_rv (q : Nat × Nat × Nat) (st : List jx_V) : Option Nat := match st[q.2.2 - 1]? with
  | some (.inr (some a)) => some a
  | _ => none
def ja_is (call : jx_C) (X : jx_X) (k pc : Nat) (lv : jx_L) (st : List jx_V) (w : jx_W) : jx_O := match jt_ms X.1 k with
  | some (.inl q) => jx_cl call q pc lv st w
  | some (.inr b) => (match st with
    | .inl y :: .inl x :: st => if st.length ≤ 8 then jx_go (pc + 3) lv (.inl (if b = true then (if x < y then y else x) else (if y < x then y else x)) :: st) w else none
    | _ => none)
  | none => none
def ja_iv (call : jx_C) (X : jx_X) (k pc : Nat) (lv : jx_L) (st : List jx_V) (w : jx_W) : jx_O := match jt_mv X.1 k with
  | some (q, ci) => (match jx_rv q st with
    | some a => if jx_is w a ci = true then jx_cl call q pc lv st w else none
    | none => none)
  | none => none
def ja_in (call : jx_C) (X : jx_X) (k pc : Nat) (lv : jx_L) (st : List jx_V) (w : jx_W) : jx_O := match jt_mi X.1 k with
  | some (some q) => (match jx_rv q st with
    | some _ => jx_cl call q pc lv st w
    | none => none)
  | some none => (match st with
    | .inr (some _) :: st => if st.length ≤ 8 then jx_go (pc + 3) lv st w else none
    | _ => none)
  | none => none
def ja_ir (X : jx_X) (st : List jx_V) (w : jx_W) : jx_O := match st with
  | [.inl x] => (match X.2.2.2.1 with
    | some .int => some (.inr (some (.inl x), w))
    | some .boolean => if x = 0 ∨ x = 1 then some (.inr (some (.inl x), w)) else none
    | _ => none)
  | _ => none
def ja_ar (X : jx_X) (st : List jx_V) (w : jx_W) : jx_O := match st with
  | [.inr r] => (match X.2.2.2.1 with
    | some (.object _) => some (.inr (some (.inr r), w))
    | _ => none)
  | _ => none
def ja_vr (X : jx_X) (st : List jx_V) (w : jx_W) : jx_O := match st with
  | [] => (match X.2.2.2.1 with
    | none => some (.inr (none, w))
    | _ => none)
  | _ => none
def jx_I (Z : jx_Sc) (X : jx_X) (call : jx_C) (i : Instr) (n pc : Nat) (lv : jx_L) (st : List jx_V) (w : jx_W) : jx_O :=
  match i with
  | .iconst c => jx_k n 1 (jx_go (pc + 1) lv (.inl (Int32.ofInt c) :: st) w)
  | .bipush c => jx_k n 2 (jx_go (pc + 2) lv (.inl (Int8.ofInt c).toInt32 :: st) w)
  | .sipush c => jx_k n 3 (jx_go (pc + 3) lv (.inl (Int16.ofInt c).toInt32 :: st) w)
  | .ldc k => jx_k n 2 (ja_lc X k pc lv st w)
  | .aconst_null => jx_k n 1 (jx_go (pc + 1) lv (.inr none :: st) w)
  | .iload_n k => jx_k n 1 (ja_li k.val pc 1 lv st w)
  | .iload k => jx_k n 2 (ja_li k pc 2 lv st w)
  | .aload_n k => jx_k n 1 (ja_la k.val pc 1 lv st w)
  | .aload k => jx_k n 2 (ja_la k pc 2 lv st w)
  | .istore_n k => jx_k n 1 (ja_si X.2.2.1 k.val pc 1 lv st w)
  | .istore k => jx_k n 2 (ja_si X.2.2.1 k pc 2 lv st w)
  | .astore_n k => jx_k n 1 (ja_sa X.2.2.1 k.val pc 1 lv st w)
  | .astore k => jx_k n 2 (ja_sa X.2.2.1 k pc 2 lv st w)
  | .iinc k c => jx_k n 3 (ja_ii X.2.2.1 k c pc lv st w)
  | .iadd => jx_k n 1 (ja_b2 (fun x y => x + y) pc lv st w)
  | .isub => jx_k n 1 (ja_b2 (fun x y => x - y) pc lv st w)
  | .imul => jx_k n 1 (ja_b2 (fun x y => x * y) pc lv st w)
  | .iand => jx_k n 1 (ja_b2 (fun x y => x &&& y) pc lv st w)
  | .ior => jx_k n 1 (ja_b2 (fun x y => x ||| y) pc lv st w)
  | .ixor => jx_k n 1 (ja_b2 (fun x y => x ^^^ y) pc lv st w)
  | .ishl => jx_k n 1 (ja_b2 (fun x y => x <<< (y &&& 31)) pc lv st w)
  | .ishr => jx_k n 1 (ja_b2 (fun x y => x >>> (y &&& 31)) pc lv st w)
  | .iushr => jx_k n 1 (ja_b2 (fun x y => (x.toUInt32 >>> (y.toUInt32 &&& Int32.toUInt32 31)).toInt32) pc lv st w)
  | .idiv => jx_k n 1 (ja_b0 (fun x y => x / y) pc lv st w)
  | .irem => jx_k n 1 (ja_b0 (fun x y => x - x / y * y) pc lv st w)
  | .ineg => jx_k n 1 (ja_neg pc lv st w)
  | .dup => jx_k n 1 (ja_dup pc lv st w)
  | .dup2 => jx_k n 1 (ja_dup2 pc lv st w)
  | .pop => jx_k n 1 (ja_pop pc lv st w)
  | .ifCond c off => jx_k n 3 (ja_if c off pc lv st w)
  | .if_icmp c off => jx_k n 3 (ja_ic c off pc lv st w)
  | .ifnull off => jx_k n 3 (ja_nl off pc lv st w)
  | .ifnonnull off => jx_k n 3 (ja_nn off pc lv st w)
  | .goto off => jx_k n 3 (jx_br true pc off lv st w)
  | .tableswitch d lo hi offs => ja_ts d lo hi offs pc lv st w
  | .getfield k => jx_k n 3 (ja_gf X k pc lv st w)
  | .putfield k => jx_k n 3 (ja_pf X k pc lv st w)
  | .iaload => jx_k n 1 (ja_al Z 0 pc lv st w)
  | .iastore => jx_k n 1 (ja_as 0 pc lv st w)
  | .baload => jx_k n 1 (ja_al Z 1 pc lv st w)
  | .bastore => jx_k n 1 (ja_as 1 pc lv st w)
  | .aaload => jx_k n 1 (ja_rl pc lv st w)
  | .aastore => jx_k n 1 (ja_rs pc lv st w)
  | .arraylength => jx_k n 1 (ja_len Z pc lv st w)
  | .newarray ty => jx_k n 2 (ja_na ty pc lv st w)
  | .anewarray k => jx_k n 3 (ja_ra X k pc lv st w)
  | .new k => jx_k n 3 (ja_nw X k pc lv st w)
  | .invokestatic k => jx_k n 3 (ja_is call X k pc lv st w)
  | .invokevirtual k => jx_k n 3 (ja_iv call X k pc lv st w)
  | .invokespecial k => jx_k n 3 (ja_in call X k pc lv st w)
  | .ireturn => jx_k n 1 (ja_ir X st w)
  | .areturn => jx_k n 1 (ja_ar X st w)
  | .return_ => jx_k n 1 (ja_vr X st w)
  | _ => none
def jx_nxt (Z : jx_Sc) (X : jx_X) (call : jx_C) (s : jx_S) : jx_O := match decode X.2.1 s.1 with
  | .ok (i, n) => jx_I Z X call i n s.1 s.2.1 s.2.2.1 s.2.2.2
  | .error _ => none
def jx_ex (Z : jx_Sc) (X : jx_X) (call : jx_C) : Nat → jx_S → Option jx_T
  | 0, _ => none
  | f + 1, s => match jx_nxt Z X call s with
    | none => none
    | some (.inl s') => jx_ex Z X call f s'
    | some (.inr r) => some r
theorem jx_ex_up {Z : jx_Sc} {X : jx_X} {call : jx_C} : ∀ (f : Nat) (s : jx_S) (r : jx_T), jx_ex Z X call f s = some r → ∀ g, f ≤ g → jx_ex Z X call g s = some r
  | 0, s, r, h, g, hg => by simp [jx_ex] at h
  | f + 1, s, r, h, 0, hg => by omega
  | f + 1, s, r, h, g + 1, hg => by
    simp only [jx_ex] at h ⊢
    cases hn : jx_nxt Z X call s with
    | none => rw [hn] at h; cases h
    | some q =>
      rw [hn] at h
      cases q with
      | inl s' => exact jx_ex_up f s' r h g (by omega)
      | inr t => exact h
noncomputable def jx_run (Z : jx_Sc) (X : jx_X) (call : jx_C) (s : jx_S) : Option jx_T :=
  @dite (Option jx_T) (∃ r f, jx_ex Z X call f s = some r) (Classical.propDecidable _) (fun h => some h.choose) (fun _ => none)
theorem jx_run_iff {Z : jx_Sc} {X : jx_X} {call : jx_C} {s : jx_S} {r : jx_T} : jx_run Z X call s = some r ↔ ∃ f, jx_ex Z X call f s = some r := by
  unfold jx_run
  constructor
  · intro h
    by_cases hx : ∃ r f, jx_ex Z X call f s = some r
    · rw [dif_pos hx] at h
      have := hx.choose_spec
      rw [Option.some.inj h] at this
      exact this
    · rw [dif_neg hx] at h; cases h
  · rintro ⟨f, hf⟩
    have hx : ∃ r f, jx_ex Z X call f s = some r := ⟨r, f, hf⟩
    rw [dif_pos hx]
    obtain ⟨g, hg⟩ := hx.choose_spec
    have h1 := jx_ex_up f s r hf (max f g) (by omega)
    have h2 := jx_ex_up g s _ hg (max f g) (by omega)
    rw [h1] at h2
    exact h2.symm
theorem jx_run_in {Z : jx_Sc} {X : jx_X} {call : jx_C} {s s' : jx_S} (hn : jx_nxt Z X call s = some (.inl s')) : jx_run Z X call s = jx_run Z X call s' := by
  cases hr : jx_run Z X call s' with
  | some r =>
    obtain ⟨f, hf⟩ := jx_run_iff.mp hr
    exact jx_run_iff.mpr ⟨f + 1, by simp only [jx_ex, hn]; exact hf⟩
  | none =>
    cases hr2 : jx_run Z X call s with
    | none => rfl
    | some r =>
      obtain ⟨f, hf⟩ := jx_run_iff.mp hr2
      cases f with
      | zero => simp [jx_ex] at hf
      | succ f =>
        simp only [jx_ex, hn] at hf
        have := jx_run_iff.mpr ⟨f, hf⟩
        rw [hr] at this
        cases this
theorem jx_run_out {Z : jx_Sc} {X : jx_X} {call : jx_C} {s : jx_S} {t : jx_T} (hn : jx_nxt Z X call s = some (.inr t)) : jx_run Z X call s = some t :=
  jx_run_iff.mpr ⟨1, by simp only [jx_ex, hn]⟩
theorem jx_run_no {Z : jx_Sc} {X : jx_X} {call : jx_C} {s : jx_S} (hn : jx_nxt Z X call s = none) : jx_run Z X call s = none := by
  cases hr : jx_run Z X call s with
  | none => rfl
  | some r =>
    obtain ⟨f, hf⟩ := jx_run_iff.mp hr
    cases f with
    | zero => simp [jx_ex] at hf
    | succ f => simp [jx_ex, hn] at hf
/-- a method by its number, at most d deep -/
noncomputable def jx_m (Z : jx_Sc) : Nat → jx_C
  | 0, _, _, _ => none
  | d + 1, k, as, w => match jt_M k with
    | none => none
    | some (_, X, n) => if as.length = n then jx_run Z X (jx_m Z d) (0, as.map some ++ List.replicate (X.2.2.1 - as.length) none, [], w) else none
theorem jx_m_some {Z : jx_Sc} {d k : Nat} {as : List jx_V} {w : jx_W} {t : jx_T} (h : jx_m Z d k as w = some t) : ∃ d' y X n, d = d' + 1 ∧ jt_M k = some (y, X, n) ∧ as.length = n ∧ jx_run Z X (jx_m Z d') (0, as.map some ++ List.replicate (X.2.2.1 - as.length) none, [], w) = some t := by
  cases d with
  | zero => simp [jx_m] at h
  | succ d =>
    simp only [jx_m] at h
    cases hM : jt_M k with
    | none => rw [hM] at h; cases h
    | some q =>
      obtain ⟨y, X, n⟩ := q
      rw [hM] at h
      dsimp only at h
      split at h
      · exact ⟨d, y, X, n, rfl, by first | exact hM | rfl, by assumption, h⟩
      · cases h
end
section
/-! The interpreter is sound: what jx_m answers, the machine does (Met), for every method of the tables. Here: locals, heaps, and how a step is lifted. -/
theorem jx_cat (v : jx_V) : (jx_v v).category = 1 := by
  rcases v with x | (_ | a) <;> rfl
theorem jx_sum : ∀ st : List jx_V, ((st.map jx_v).map fun v => v.category).sum = st.length
  | [] => rfl
  | v :: st => by
    have h := jx_sum st
    have h1 := jx_cat v
    simp only [List.map_cons, List.sum_cons, List.length_cons]
    rw [h, h1]
    omega
/-- the locals that are known -/
def jx_ps : Nat → jx_L → List (Nat × Value)
  | _, [] => []
  | i, none :: l => jx_ps (i + 1) l
  | i, some v :: l => (i, jx_v v) :: jx_ps (i + 1) l
theorem jx_ps_in : ∀ (l : jx_L) (i k : Nat) (v : jx_V), l[k]? = some (some v) → (i + k, jx_v v) ∈ jx_ps i l
  | [], i, k, v, h => by simp at h
  | none :: l, i, 0, v, h => by simp at h
  | some u :: l, i, 0, v, h => by
    simp only [List.getElem?_cons_zero, Option.some.injEq] at h
    subst h
    exact List.mem_cons_self
  | none :: l, i, k + 1, v, h => by
    rw [List.getElem?_cons_succ] at h
    have := jx_ps_in l (i + 1) k v h
    rw [show i + (k + 1) = i + 1 + k by omega]
    exact this
  | some u :: l, i, k + 1, v, h => by
    rw [List.getElem?_cons_succ] at h
    have := jx_ps_in l (i + 1) k v h
    rw [show i + (k + 1) = i + 1 + k by omega]
    exact List.mem_cons_of_mem _ this
theorem jx_ps_of : ∀ (l : jx_L) (i : Nat) (q : Nat × Value), q ∈ jx_ps i l → ∃ k v, l[k]? = some (some v) ∧ q = (i + k, jx_v v)
  | [], i, q, h => by simp [jx_ps] at h
  | none :: l, i, q, h => by
    obtain ⟨k, v, h1, h2⟩ := jx_ps_of l (i + 1) q h
    exact ⟨k + 1, v, by rw [List.getElem?_cons_succ]; exact h1, by rw [h2, show i + 1 + k = i + (k + 1) by omega]⟩
  | some u :: l, i, q, h => by
    rcases List.mem_cons.mp h with h | h
    · exact ⟨0, u, rfl, h⟩
    · obtain ⟨k, v, h1, h2⟩ := jx_ps_of l (i + 1) q h
      exact ⟨k + 1, v, by rw [List.getElem?_cons_succ]; exact h1, by rw [h2, show i + 1 + k = i + (k + 1) by omega]⟩
theorem jx_at {ls : Array Slot} {nL k : Nat} {lv : jx_L} {v : jx_V} (h : lv_has ls nL (jx_ps 0 lv)) (hk : lv[k]? = some (some v)) : ls[k]? = some (.val (jx_v v)) := by
  have := h.2.2 _ (jx_ps_in lv 0 k v hk)
  simpa using this
theorem jx_set {ls : Array Slot} {nL i : Nat} {lv : jx_L} {v : jx_V} (h : lv_has ls nL ((i, jx_v v) :: (jx_ps 0 lv).filter (fun q => !(q.1 == i) && !(q.1 + 1 == i && q.2.category == 2)))) : lv_has ls nL (jx_ps 0 (lv.set i (some v))) := by
  refine ⟨h.1, h.2.1, fun q hq => ?_⟩
  obtain ⟨k, u, hk, rfl⟩ := jx_ps_of _ _ _ hq
  by_cases e : k = i
  · subst e
    have hu : u = v := by
      rw [List.getElem?_set] at hk
      simp only [if_true] at hk
      split at hk
      · cases hk; rfl
      · cases hk
    subst hu
    rw [Nat.zero_add]
    exact h.2.2 _ List.mem_cons_self
  · rw [List.getElem?_set_ne (Ne.symm e)] at hk
    refine h.2.2 _ (List.mem_cons_of_mem _ (List.mem_filter.mpr ⟨jx_ps_in lv 0 k u hk, ?_⟩))
    simp [e, jx_cat]
theorem jx_ps_none : ∀ (k i : Nat), jx_ps i (List.replicate k none) = []
  | 0, i => rfl
  | k + 1, i => by rw [List.replicate_succ]; exact jx_ps_none k (i + 1)
theorem jx_ps_args : ∀ (as : List jx_V) (k i : Nat), jx_ps i (as.map some ++ List.replicate k none) = lv_args i (as.map jx_v)
  | [], k, i => jx_ps_none k i
  | v :: as, k, i => by
    have h := jx_ps_args as k (i + 1)
    show (i, jx_v v) :: jx_ps (i + 1) (as.map some ++ List.replicate k none) = (i, jx_v v) :: lv_args (if (jx_v v).category = 2 then i + 2 else i + 1) (as.map jx_v)
    rw [h, jx_cat, if_neg (by decide)]
theorem jx_sl : ∀ as : List jx_V, (lg_sl (as.map jx_v)).length = as.length
  | [] => rfl
  | v :: as => by
    have h := jx_sl as
    unfold lg_sl at h ⊢
    rw [List.map_cons, List.flatMap_cons, List.length_append, h, jx_cat, if_neg (by decide)]
    simp only [List.length_cons, List.length_nil]
    omega
/-! what the heap holds -/
def jx_R (b0 : Nat) (D : va_G) (kA : Nat → ClassId) (w : jx_W) (H : Heap) : Prop := H.size = w.2.1 ∧ b0 ≤ w.2.1 ∧ ∀ (a : Nat) (c : jx_E), w.1 a = some c → b0 ≤ a ∧ va_at D jt_Cl (a, jx_e kA c) H
theorem jx_R.lt {b0 : Nat} {D : va_G} {kA : Nat → ClassId} {w : jx_W} {H : Heap} (h : jx_R b0 D kA w H) {a : Nat} {c : jx_E} (ha : w.1 a = some c) : a < H.size := (h.2.2 a c ha).2.lt
theorem jx_R.one {b0 : Nat} {D : va_G} {kA : Nat → ClassId} {w : jx_W} {H : Heap} (h : jx_R b0 D kA w H) {a : Nat} {c : jx_E} (ha : w.1 a = some c) : va_P D jt_Cl [(a, jx_e kA c)] H := by
  intro k q hk
  cases k with
  | zero => cases hk; exact (h.2.2 a c ha).2
  | succ k => simp at hk
theorem jx_R.set {b0 : Nat} {D : va_G} {kA : Nat → ClassId} {w : jx_W} {H H1 : Heap} (h : jx_R b0 D kA w H) {a : Nat} {c c' : jx_E} (ha : w.1 a = some c) (h1 : va_at D jt_Cl (a, jx_e kA c') H1) (hz : H1.size = H.size) (ho : ∀ q : Nat, q ≠ a → H1[q]? = H[q]?) : jx_R b0 D kA (va_up w.1 a (some c'), w.2) H1 := by
  refine ⟨hz.trans h.1, h.2.1, fun q x hq => ?_⟩
  by_cases e : q = a
  · subst e
    have hx : some c' = some x := by rw [← hq]; exact (va_up_self _ _ _).symm
    cases hx
    exact ⟨(h.2.2 _ _ ha).1, h1⟩
  · have hq : w.1 q = some x := by rw [← hq]; exact (va_up_ne _ _ e).symm
    exact ⟨(h.2.2 _ _ hq).1, (h.2.2 _ _ hq).2.kept (ho q e)⟩
theorem jx_R.push {b0 : Nat} {D : va_G} {kA : Nat → ClassId} {w : jx_W} {H H1 : Heap} (h : jx_R b0 D kA w H) {c : jx_E} {k : Nat} (h1 : va_at D jt_Cl (H.size, jx_e kA c) H1) (hz : H1.size = H.size + 1) (ho : ∀ q : Nat, q < H.size → H1[q]? = H[q]?) : jx_R b0 D kA (jx_nw w c k) H1 := by
  refine ⟨by rw [hz, h.1]; rfl, Nat.le_succ_of_le h.2.1, fun q x hq => ?_⟩
  have hn := h.1
  by_cases e : q = w.2.1
  · subst e
    have hx : some c = some x := by rw [← hq]; exact (va_up_self _ _ _).symm
    cases hx
    exact ⟨h.2.1, by rw [← hn]; exact h1⟩
  · have hq : w.1 q = some x := by rw [← hq]; exact (va_up_ne _ _ e).symm
    exact ⟨(h.2.2 _ _ hq).1, (h.2.2 _ _ hq).2.kept (ho q (h.lt hq))⟩
theorem jx_Sp {b0 : Nat} {H0 H H1 : Heap} {locs : List Loc} (h : va_S (fun q => b0 ≤ q) H0 H locs) (z : H1.size = H.size + 1) (o : ∀ q : Nat, q < H.size → H1[q]? = H[q]?) : va_S (fun q => b0 ≤ q) H0 H1 locs :=
  ⟨Nat.le_trans h.1 (by omega), fun x h1 h2 => (o x (Nat.lt_of_lt_of_le h1 h.1)).trans (h.2.1 x h1 h2), h.2.2⟩
/-! what the tables are -/
def jx_K (D : va_G) (kA : Nat → ClassId) (U : State) : Prop := va_K D jt_Cl (jt_tys kA) U ∧ (∀ c ∈ jt_nw, va_Nw c U) ∧ ∀ C ∈ jt_ao, va_AO C U
theorem jx_K.moved {D : va_G} {kA : Nat → ClassId} {s U : State} (hW : s.WarmedH U.vm) (h : jx_K D kA s) : jx_K D kA U := by
  refine ⟨h.1.moved hW.alike, fun c hc => ?_, fun C hC => (h.2.2 C hC).moved hW.alike⟩
  obtain ⟨a, i, x, hh, rfl⟩ := jt_nw_sh c hc
  exact va_Nw.warmM hW (h.2.1 _ hc)
def jx_B (b0 : Nat) (Z : jx_Sc) (D : va_G) (kA : Nat → ClassId) (w : jx_W) (U : State) : Prop := jx_R b0 D kA w U.heap ∧ jx_K D kA U ∧ va_X Z.1 Z.2.1 Z.2.2 U U.heap
theorem jx_blind {b0 : Nat} {Z : jx_Sc} {D : va_G} {kA : Nat → ClassId} {w : jx_W} {av : List Value} : FrameBlind (va_Pc av (jx_B b0 Z D kA w)) := by
  intro a U g mk h
  obtain ⟨h1, h2, ⟨h3, h4, h5⟩, h6⟩ := h
  exact ⟨h1, h2, ⟨h3.moved (Vm.Alike.refl U.vm), fun c hc => va_Nw.same (u := U) (U := U.calling g mk a) (jt_nw_on c hc) rfl (h4 c hc), fun C hC => (h5 C hC).moved (Vm.Alike.refl U.vm)⟩, h6.moved (Vm.Alike.refl U.vm)⟩
def jx_Q (b0 : Nat) (D : va_G) (kA : Nat → ClassId) (t : jx_T) : Array Value → State → Outcome → State → Prop := fun _ st o u => o = .returned (t.1.map jx_v) ∧ jx_R b0 D kA t.2 u.heap ∧ va_F (fun a => b0 ≤ a) st u
def jx_Fx (d b0 : Nat) (Z : jx_Sc) (D : va_G) (kA : Nat → ClassId) (X : jx_X) (p : Program) (R : Room) (s : State) (m : MethodId) (args : Array Value) (meth : Method) (c : Code) : Prop :=
  p.tables.exec = Jvm.exec ∧ c.code = X.2.1 ∧ c.maxLocals = X.2.2.1 ∧ s.vm.findClass (jt_cn X.1) = some m.cls ∧ (∀ w ∈ jt_G, w.before args s = true) ∧ (X.2.2.2.2 = true → meth.name = "<init>") ∧ jx_K D kA s ∧ d + 1 ≤ R.frames ∧ 38 * (d + 1) ≤ R.locals ∧ b0 ≤ s.heap.size ∧ va_X Z.1 Z.2.1 Z.2.2 s s.heap ∧ Z.1 < b0
/-- from the state the machine comes to the answer t -/
def jx_Go (p : Program) (l : Launch) (e : Env) (R : Room) (s : State) (m : MethodId) (args : Array Value) (below : List Frame) (meth : Method) (c : Code) (Qf : State → Prop) (b0 : Nat) (D : va_G) (kA : Nat → ClassId) (X : jx_X) (t : jx_T) (pc : Nat) (lv : jx_L) (st : List jx_V) (w : jx_W) : Prop :=
  w.2.1 ≤ t.2.2.1 ∧ w.2.2 ≤ t.2.2.2 ∧ ∀ (ls : Array Slot) (H : Heap) (locs : List Loc) (cells slots : Nat), lv_has ls X.2.2.1 (jx_ps 0 lv) → jx_R b0 D kA w H → va_S (fun a => b0 ≤ a) s.heap H locs → cells + (t.2.2.1 - w.2.1) = R.cells → slots + (t.2.2.2 - w.2.2) = R.slots →
    W p l e R s m args below meth c H locs cells slots Qf (F0 m pc ls (st.map jx_v))
def jx_To (p : Program) (l : Launch) (e : Env) (R : Room) (s : State) (m : MethodId) (args : Array Value) (below : List Frame) (meth : Method) (c : Code) (Qf : State → Prop) (b0 : Nat) (D : va_G) (kA : Nat → ClassId) (X : jx_X) (t : jx_T) (q : jx_S ⊕ jx_T) : Prop := match q with
  | .inl q => jx_Go p l e R s m args below meth c Qf b0 D kA X t q.1 q.2.1 q.2.2.1 q.2.2.2
  | .inr _ => False
section JS
variable {p : Program} {l : Launch} {e : Env} {R : Room} {s : State} {m : MethodId} {args : Array Value} {below : List Frame} {meth : Method} {c : Code} {Qf : State → Prop}
variable {d b0 : Nat} {Z : jx_Sc} {D : va_G} {kA : Nat → ClassId} {X : jx_X} {t : jx_T} {pc n : Nat} {lv : jx_L} {st : List jx_V} {w : jx_W} {q : jx_S ⊕ jx_T}
/-- a row that leaves locals and world -/
theorem jx_lift {pc' : Nat} {st' : List jx_V} (hG : jx_To p l e R s m args below meth c Qf b0 D kA X t (.inl (pc', lv, st', w)))
    (hrow : ∀ (ls : Array Slot) (H : Heap) (locs : List Loc) (cells slots : Nat), lv_has ls X.2.2.1 (jx_ps 0 lv) → jx_R b0 D kA w H → va_S (fun a => b0 ≤ a) s.heap H locs → cells ≤ R.cells → slots ≤ R.slots → W p l e R s m args below meth c H locs cells slots Qf (F0 m pc' ls (st'.map jx_v)) → W p l e R s m args below meth c H locs cells slots Qf (F0 m pc ls (st.map jx_v))) :
    jx_Go p l e R s m args below meth c Qf b0 D kA X t pc lv st w :=
  ⟨hG.1, hG.2.1, fun ls H locs cells slots hl hR hS hc hs => hrow ls H locs cells slots hl hR hS (Nat.le.intro hc) (Nat.le.intro hs) (hG.2.2 ls H locs cells slots hl hR hS hc hs)⟩
/-- a row that stores a local -/
theorem jx_lifl {pc' i : Nat} {st' : List jx_V} {v : jx_V} (hG : jx_To p l e R s m args below meth c Qf b0 D kA X t (.inl (pc', lv.set i (some v), st', w)))
    (hrow : ∀ (ls : Array Slot) (H : Heap) (locs : List Loc) (cells slots : Nat), lv_has ls X.2.2.1 (jx_ps 0 lv) → (∀ ls' : Array Slot, lv_has ls' X.2.2.1 ((i, jx_v v) :: (jx_ps 0 lv).filter (fun q => !(q.1 == i) && !(q.1 + 1 == i && q.2.category == 2))) → W p l e R s m args below meth c H locs cells slots Qf (F0 m pc' ls' (st'.map jx_v))) → W p l e R s m args below meth c H locs cells slots Qf (F0 m pc ls (st.map jx_v))) :
    jx_Go p l e R s m args below meth c Qf b0 D kA X t pc lv st w :=
  ⟨hG.1, hG.2.1, fun ls H locs cells slots hl hR hS hc hs => hrow ls H locs cells slots hl (fun ls' h' => hG.2.2 ls' H locs cells slots (jx_set h') hR hS hc hs)⟩
/-- a row that writes a cell -/
theorem jx_lifw {pc' a : Nat} {st' : List jx_V} {c0 c' : jx_E} (hG : jx_To p l e R s m args below meth c Qf b0 D kA X t (.inl (pc', lv, st', (va_up w.1 a (some c'), w.2)))) (ha : w.1 a = some c0)
    (hrow : ∀ (ls : Array Slot) (H : Heap) (locs : List Loc) (cells slots : Nat), lv_has ls X.2.2.1 (jx_ps 0 lv) → jx_R b0 D kA w H → (∀ (H1 : Heap) (k : Nat), va_at D jt_Cl (a, jx_e kA c') H1 → H1.size = H.size → (∀ q : Nat, q ≠ a → H1[q]? = H[q]?) → W p l e R s m args below meth c H1 (locs ++ [⟨a, k⟩]) cells slots Qf (F0 m pc' ls (st'.map jx_v))) → W p l e R s m args below meth c H locs cells slots Qf (F0 m pc ls (st.map jx_v))) :
    jx_Go p l e R s m args below meth c Qf b0 D kA X t pc lv st w :=
  ⟨hG.1, hG.2.1, fun ls H locs cells slots hl hR hS hc hs => hrow ls H locs cells slots hl hR (fun H1 k h1 hz ho => hG.2.2 ls H1 _ cells slots hl (hR.set ha h1 hz ho) (va_S.put hS hz ho (hR.2.2 _ _ ha).1) hc hs)⟩
/-- a row that makes a cell -/
theorem jx_lifn {pc' k : Nat} {st' : List jx_V} {c' : jx_E} (hG : jx_To p l e R s m args below meth c Qf b0 D kA X t (.inl (pc', lv, st', jx_nw w c' k)))
    (hrow : ∀ (ls : Array Slot) (H : Heap) (locs : List Loc) (cells slots : Nat), lv_has ls X.2.2.1 (jx_ps 0 lv) → H.size = w.2.1 → cells + 1 ≤ R.cells → slots + k ≤ R.slots → (∀ H1 : Heap, va_at D jt_Cl (H.size, jx_e kA c') H1 → H1.size = H.size + 1 → (∀ q : Nat, q < H.size → H1[q]? = H[q]?) → W p l e R s m args below meth c H1 locs (cells + 1) (slots + k) Qf (F0 m pc' ls (st'.map jx_v))) → W p l e R s m args below meth c H locs cells slots Qf (F0 m pc ls (st.map jx_v))) :
    jx_Go p l e R s m args below meth c Qf b0 D kA X t pc lv st w := by
  have h1 : w.2.1 + 1 ≤ t.2.2.1 := hG.1
  have h2 : w.2.2 + k ≤ t.2.2.2 := hG.2.1
  refine ⟨by omega, by omega, fun ls H locs cells slots hl hR hS hc hs => hrow ls H locs cells slots hl hR.1 (by omega) (by omega) (fun H1 g1 gz go => hG.2.2 ls H1 locs (cells + 1) (slots + k) hl (hR.push g1 gz go) (jx_Sp hS gz go) ?_ ?_)⟩
  · show cells + 1 + (t.2.2.1 - (w.2.1 + 1)) = R.cells
    omega
  · show slots + k + (t.2.2.2 - (w.2.2 + k)) = R.slots
    omega
theorem jx_two {b : Bool} {tg : Nat} {st' : List jx_V} (hq : jx_To p l e R s m args below meth c Qf b0 D kA X t (.inl (if b = true then tg else pc + 3, lv, st', w)))
    (hrow : ∀ (ls : Array Slot) (H : Heap) (locs : List Loc) (cells slots : Nat), (b = true → W p l e R s m args below meth c H locs cells slots Qf (F0 m tg ls (st'.map jx_v))) → (¬ b = true → W p l e R s m args below meth c H locs cells slots Qf (F0 m (pc + 3) ls (st'.map jx_v))) → W p l e R s m args below meth c H locs cells slots Qf (F0 m pc ls (st.map jx_v))) :
    jx_Go p l e R s m args below meth c Qf b0 D kA X t pc lv st w := by
  refine ⟨hq.1, hq.2.1, fun ls H locs cells slots hl hR hS hc hs => hrow ls H locs cells slots (fun hb => ?_) (fun hb => ?_)⟩
  · have := hq.2.2 ls H locs cells slots hl hR hS hc hs
    dsimp only at this
    rwa [if_pos hb] at this
  · have := hq.2.2 ls H locs cells slots hl hR hS hc hs
    dsimp only at this
    rwa [if_neg hb] at this
end JS
end
section
/-! what an arm's answer says, and the step rows that are uniform (by gen_sound.py) -/
theorem jx_k_some {α : Type} {n k : Nat} {o : Option α} {q : α} (h : jx_k n k o = some q) : n = k ∧ o = some q := by
  unfold jx_k at h
  split at h
  · exact ⟨by assumption, h⟩
  · cases h
theorem jx_go_some {pc : Nat} {lv : jx_L} {st : List jx_V} {w : jx_W} {q : jx_S ⊕ jx_T} (h : jx_go pc lv st w = some q) : q = .inl (pc, lv, st, w) := (Option.some.inj h).symm
theorem jx_tg_some {pc t : Nat} {off : Int} (h : jx_tg pc off = some t) : (pc : Int) + off = (t : Int) := by
  unfold jx_tg at h
  split at h
  · cases h; omega
  · cases h
theorem jx_br_some {b : Bool} {pc : Nat} {off : Int} {lv : jx_L} {st : List jx_V} {w : jx_W} {q : jx_S ⊕ jx_T} (h : jx_br b pc off lv st w = some q) : ∃ t : Nat, (pc : Int) + off = (t : Int) ∧ q = .inl (if b = true then t else pc + 3, lv, st, w) := by
  unfold jx_br at h
  split at h
  · rename_i t ht
    exact ⟨t, jx_tg_some ht, jx_go_some h⟩
  · cases h
theorem ja_li_some {i pc n : Nat} {lv : jx_L} {st : List jx_V} {w : jx_W} {q : jx_S ⊕ jx_T} (h : ja_li i pc n lv st w = some q) : ∃ x, lv[i]? = some (some (.inl x)) ∧ q = .inl (pc + n, lv, .inl x :: st, w) := by
  unfold ja_li at h
  split at h
  · exact ⟨_, by assumption, jx_go_some h⟩
  · cases h
theorem ja_la_some {i pc n : Nat} {lv : jx_L} {st : List jx_V} {w : jx_W} {q : jx_S ⊕ jx_T} (h : ja_la i pc n lv st w = some q) : ∃ r, lv[i]? = some (some (.inr r)) ∧ q = .inl (pc + n, lv, .inr r :: st, w) := by
  unfold ja_la at h
  split at h
  · exact ⟨_, by assumption, jx_go_some h⟩
  · cases h
theorem ja_si_some {nL i pc n : Nat} {lv : jx_L} {st : List jx_V} {w : jx_W} {q : jx_S ⊕ jx_T} (h : ja_si nL i pc n lv st w = some q) : ∃ x st0, st = .inl x :: st0 ∧ i < nL ∧ q = .inl (pc + n, lv.set i (some (.inl x)), st0, w) := by
  unfold ja_si at h
  split at h
  · split at h
    · exact ⟨_, _, rfl, by assumption, jx_go_some h⟩
    · cases h
  · cases h
theorem ja_sa_some {nL i pc n : Nat} {lv : jx_L} {st : List jx_V} {w : jx_W} {q : jx_S ⊕ jx_T} (h : ja_sa nL i pc n lv st w = some q) : ∃ r st0, st = .inr r :: st0 ∧ i < nL ∧ q = .inl (pc + n, lv.set i (some (.inr r)), st0, w) := by
  unfold ja_sa at h
  split at h
  · split at h
    · exact ⟨_, _, rfl, by assumption, jx_go_some h⟩
    · cases h
  · cases h
theorem ja_ii_some {nL k : Nat} {c : Int} {pc : Nat} {lv : jx_L} {st : List jx_V} {w : jx_W} {q : jx_S ⊕ jx_T} (h : ja_ii nL k c pc lv st w = some q) : ∃ x, lv[k]? = some (some (.inl x)) ∧ k < nL ∧ q = .inl (pc + 3, lv.set k (some (.inl (x + Int32.ofInt c))), st, w) := by
  unfold ja_ii at h
  split at h
  · split at h
    · exact ⟨_, by assumption, by assumption, jx_go_some h⟩
    · cases h
  · cases h
theorem ja_b2_some {g : Int32 → Int32 → Int32} {pc : Nat} {lv : jx_L} {st : List jx_V} {w : jx_W} {q : jx_S ⊕ jx_T} (h : ja_b2 g pc lv st w = some q) : ∃ x y st0, st = .inl y :: .inl x :: st0 ∧ q = .inl (pc + 1, lv, .inl (g x y) :: st0, w) := by
  unfold ja_b2 at h
  split at h
  · exact ⟨_, _, _, rfl, jx_go_some h⟩
  · cases h
theorem ja_b0_some {g : Int32 → Int32 → Int32} {pc : Nat} {lv : jx_L} {st : List jx_V} {w : jx_W} {q : jx_S ⊕ jx_T} (h : ja_b0 g pc lv st w = some q) : ∃ x y st0, st = .inl y :: .inl x :: st0 ∧ ¬ y = 0 ∧ q = .inl (pc + 1, lv, .inl (g x y) :: st0, w) := by
  unfold ja_b0 at h
  split at h
  · split at h
    · cases h
    · exact ⟨_, _, _, rfl, by assumption, jx_go_some h⟩
  · cases h
theorem ja_neg_some {pc : Nat} {lv : jx_L} {st : List jx_V} {w : jx_W} {q : jx_S ⊕ jx_T} (h : ja_neg pc lv st w = some q) : ∃ x st0, st = .inl x :: st0 ∧ q = .inl (pc + 1, lv, .inl (-x) :: st0, w) := by
  unfold ja_neg at h
  split at h
  · exact ⟨_, _, rfl, jx_go_some h⟩
  · cases h
theorem ja_dup_some {pc : Nat} {lv : jx_L} {st : List jx_V} {w : jx_W} {q : jx_S ⊕ jx_T} (h : ja_dup pc lv st w = some q) : ∃ v st0, st = v :: st0 ∧ q = .inl (pc + 1, lv, v :: v :: st0, w) := by
  unfold ja_dup at h
  split at h
  · exact ⟨_, _, rfl, jx_go_some h⟩
  · cases h
theorem ja_dup2_some {pc : Nat} {lv : jx_L} {st : List jx_V} {w : jx_W} {q : jx_S ⊕ jx_T} (h : ja_dup2 pc lv st w = some q) : ∃ v u st0, st = v :: u :: st0 ∧ q = .inl (pc + 1, lv, v :: u :: v :: u :: st0, w) := by
  unfold ja_dup2 at h
  split at h
  · exact ⟨_, _, _, rfl, jx_go_some h⟩
  · cases h
theorem ja_pop_some {pc : Nat} {lv : jx_L} {st : List jx_V} {w : jx_W} {q : jx_S ⊕ jx_T} (h : ja_pop pc lv st w = some q) : ∃ v st0, st = v :: st0 ∧ q = .inl (pc + 1, lv, st0, w) := by
  unfold ja_pop at h
  split at h
  · exact ⟨_, _, rfl, jx_go_some h⟩
  · cases h
theorem ja_if_some {c : Jvm.ClassFile.Cond} {off : Int} {pc : Nat} {lv : jx_L} {st : List jx_V} {w : jx_W} {q : jx_S ⊕ jx_T} (h : ja_if c off pc lv st w = some q) : ∃ x st0, st = .inl x :: st0 ∧ ∃ t : Nat, (pc : Int) + off = (t : Int) ∧ q = .inl (if jx_cb c x 0 = true then t else pc + 3, lv, st0, w) := by
  unfold ja_if at h
  split at h
  · exact ⟨_, _, rfl, jx_br_some h⟩
  · cases h
theorem ja_ic_some {c : Jvm.ClassFile.Cond} {off : Int} {pc : Nat} {lv : jx_L} {st : List jx_V} {w : jx_W} {q : jx_S ⊕ jx_T} (h : ja_ic c off pc lv st w = some q) : ∃ x y st0, st = .inl y :: .inl x :: st0 ∧ ∃ t : Nat, (pc : Int) + off = (t : Int) ∧ q = .inl (if jx_cb c x y = true then t else pc + 3, lv, st0, w) := by
  unfold ja_ic at h
  split at h
  · exact ⟨_, _, _, rfl, jx_br_some h⟩
  · cases h
theorem ja_nl_some {off : Int} {pc : Nat} {lv : jx_L} {st : List jx_V} {w : jx_W} {q : jx_S ⊕ jx_T} (h : ja_nl off pc lv st w = some q) : ∃ r st0, st = .inr r :: st0 ∧ ∃ t : Nat, (pc : Int) + off = (t : Int) ∧ q = .inl (if r.isNone = true then t else pc + 3, lv, st0, w) := by
  unfold ja_nl at h
  split at h
  · exact ⟨_, _, rfl, jx_br_some h⟩
  · cases h
theorem ja_nn_some {off : Int} {pc : Nat} {lv : jx_L} {st : List jx_V} {w : jx_W} {q : jx_S ⊕ jx_T} (h : ja_nn off pc lv st w = some q) : ∃ r st0, st = .inr r :: st0 ∧ ∃ t : Nat, (pc : Int) + off = (t : Int) ∧ q = .inl (if r.isSome = true then t else pc + 3, lv, st0, w) := by
  unfold ja_nn at h
  split at h
  · exact ⟨_, _, rfl, jx_br_some h⟩
  · cases h
theorem ja_lc_some {X : jx_X} {k : Nat} {pc : Nat} {lv : jx_L} {st : List jx_V} {w : jx_W} {q : jx_S ⊕ jx_T} (h : ja_lc X k pc lv st w = some q) : ∃ v, jt_cst X.1 k = some v ∧ q = .inl (pc + 2, lv, .inl v :: st, w) := by
  unfold ja_lc at h
  split at h
  · exact ⟨_, by assumption, jx_go_some h⟩
  · cases h
theorem ja_ts_some {dd lo hi : Int} {offs : Array Int} {pc : Nat} {lv : jx_L} {st : List jx_V} {w : jx_W} {q : jx_S ⊕ jx_T} (h : ja_ts dd lo hi offs pc lv st w = some q) : ∃ x st0, st = .inl x :: st0 ∧ ∃ off : Int, (((x.toInt < lo ∨ hi < x.toInt) ∧ off = dd) ∨ (¬ x.toInt < lo ∧ ¬ hi < x.toInt ∧ offs[(x.toInt - lo).toNat]? = some off)) ∧ ∃ t : Nat, (pc : Int) + off = (t : Int) ∧ q = .inl (t, lv, st0, w) := by
  unfold ja_ts at h
  split at h
  · rename_i x st0
    split at h
    · rename_i hx
      obtain ⟨t, h1, h2⟩ := jx_br_some h
      exact ⟨_, _, rfl, dd, Or.inl ⟨hx, rfl⟩, t, h1, h2⟩
    · rename_i hx
      split at h
      · rename_i off ho
        obtain ⟨t, h1, h2⟩ := jx_br_some h
        exact ⟨_, _, rfl, off, Or.inr ⟨fun g => hx (Or.inl g), fun g => hx (Or.inr g), ho⟩, t, h1, h2⟩
      · cases h
  · cases h
section JB
variable {p : Program} {l : Launch} {e : Env} {R : Room} {s : State} {m : MethodId} {args : Array Value} {below : List Frame} {meth : Method} {c : Code} {Qf : State → Prop}
variable {d b0 : Nat} {Z : jx_Sc} {D : va_G} {kA : Nat → ClassId} {X : jx_X} {t : jx_T} {pc n : Nat} {lv : jx_L} {st : List jx_V} {w : jx_W} {q : jx_S ⊕ jx_T}
theorem js_iadd (hF : jx_Fx d b0 Z D kA X p R s m args meth c) (hd : decode X.2.1 pc = .ok (.iadd, n)) (h : jx_k n 1 (ja_b2 (fun x y => x + y) pc lv st w) = some q) (hq : jx_To p l e R s m args below meth c Qf b0 D kA X t q) : jx_Go p l e R s m args below meth c Qf b0 D kA X t pc lv st w := by
  obtain ⟨rfl, h⟩ := jx_k_some h
  obtain ⟨x, y, st0, rfl, rfl⟩ := ja_b2_some h
  exact jx_lift hq (fun ls H locs cells slots hl _ _ _ _ k => lv_iadd hF.1 hF.2.1 hd k)
theorem js_isub (hF : jx_Fx d b0 Z D kA X p R s m args meth c) (hd : decode X.2.1 pc = .ok (.isub, n)) (h : jx_k n 1 (ja_b2 (fun x y => x - y) pc lv st w) = some q) (hq : jx_To p l e R s m args below meth c Qf b0 D kA X t q) : jx_Go p l e R s m args below meth c Qf b0 D kA X t pc lv st w := by
  obtain ⟨rfl, h⟩ := jx_k_some h
  obtain ⟨x, y, st0, rfl, rfl⟩ := ja_b2_some h
  exact jx_lift hq (fun ls H locs cells slots hl _ _ _ _ k => lv_isub hF.1 hF.2.1 hd k)
theorem js_imul (hF : jx_Fx d b0 Z D kA X p R s m args meth c) (hd : decode X.2.1 pc = .ok (.imul, n)) (h : jx_k n 1 (ja_b2 (fun x y => x * y) pc lv st w) = some q) (hq : jx_To p l e R s m args below meth c Qf b0 D kA X t q) : jx_Go p l e R s m args below meth c Qf b0 D kA X t pc lv st w := by
  obtain ⟨rfl, h⟩ := jx_k_some h
  obtain ⟨x, y, st0, rfl, rfl⟩ := ja_b2_some h
  exact jx_lift hq (fun ls H locs cells slots hl _ _ _ _ k => lv_imul hF.1 hF.2.1 hd k)
theorem js_iand (hF : jx_Fx d b0 Z D kA X p R s m args meth c) (hd : decode X.2.1 pc = .ok (.iand, n)) (h : jx_k n 1 (ja_b2 (fun x y => x &&& y) pc lv st w) = some q) (hq : jx_To p l e R s m args below meth c Qf b0 D kA X t q) : jx_Go p l e R s m args below meth c Qf b0 D kA X t pc lv st w := by
  obtain ⟨rfl, h⟩ := jx_k_some h
  obtain ⟨x, y, st0, rfl, rfl⟩ := ja_b2_some h
  exact jx_lift hq (fun ls H locs cells slots hl _ _ _ _ k => lv_iand hF.1 hF.2.1 hd k)
theorem js_ior (hF : jx_Fx d b0 Z D kA X p R s m args meth c) (hd : decode X.2.1 pc = .ok (.ior, n)) (h : jx_k n 1 (ja_b2 (fun x y => x ||| y) pc lv st w) = some q) (hq : jx_To p l e R s m args below meth c Qf b0 D kA X t q) : jx_Go p l e R s m args below meth c Qf b0 D kA X t pc lv st w := by
  obtain ⟨rfl, h⟩ := jx_k_some h
  obtain ⟨x, y, st0, rfl, rfl⟩ := ja_b2_some h
  exact jx_lift hq (fun ls H locs cells slots hl _ _ _ _ k => lv_ior hF.1 hF.2.1 hd k)
theorem js_ixor (hF : jx_Fx d b0 Z D kA X p R s m args meth c) (hd : decode X.2.1 pc = .ok (.ixor, n)) (h : jx_k n 1 (ja_b2 (fun x y => x ^^^ y) pc lv st w) = some q) (hq : jx_To p l e R s m args below meth c Qf b0 D kA X t q) : jx_Go p l e R s m args below meth c Qf b0 D kA X t pc lv st w := by
  obtain ⟨rfl, h⟩ := jx_k_some h
  obtain ⟨x, y, st0, rfl, rfl⟩ := ja_b2_some h
  exact jx_lift hq (fun ls H locs cells slots hl _ _ _ _ k => lv_ixor hF.1 hF.2.1 hd k)
theorem js_ishl (hF : jx_Fx d b0 Z D kA X p R s m args meth c) (hd : decode X.2.1 pc = .ok (.ishl, n)) (h : jx_k n 1 (ja_b2 (fun x y => x <<< (y &&& 31)) pc lv st w) = some q) (hq : jx_To p l e R s m args below meth c Qf b0 D kA X t q) : jx_Go p l e R s m args below meth c Qf b0 D kA X t pc lv st w := by
  obtain ⟨rfl, h⟩ := jx_k_some h
  obtain ⟨x, y, st0, rfl, rfl⟩ := ja_b2_some h
  exact jx_lift hq (fun ls H locs cells slots hl _ _ _ _ k => lv_ishl hF.1 hF.2.1 hd k)
theorem js_ishr (hF : jx_Fx d b0 Z D kA X p R s m args meth c) (hd : decode X.2.1 pc = .ok (.ishr, n)) (h : jx_k n 1 (ja_b2 (fun x y => x >>> (y &&& 31)) pc lv st w) = some q) (hq : jx_To p l e R s m args below meth c Qf b0 D kA X t q) : jx_Go p l e R s m args below meth c Qf b0 D kA X t pc lv st w := by
  obtain ⟨rfl, h⟩ := jx_k_some h
  obtain ⟨x, y, st0, rfl, rfl⟩ := ja_b2_some h
  exact jx_lift hq (fun ls H locs cells slots hl _ _ _ _ k => lv_ishr hF.1 hF.2.1 hd k)
theorem js_iushr (hF : jx_Fx d b0 Z D kA X p R s m args meth c) (hd : decode X.2.1 pc = .ok (.iushr, n)) (h : jx_k n 1 (ja_b2 (fun x y => (x.toUInt32 >>> (y.toUInt32 &&& Int32.toUInt32 31)).toInt32) pc lv st w) = some q) (hq : jx_To p l e R s m args below meth c Qf b0 D kA X t q) : jx_Go p l e R s m args below meth c Qf b0 D kA X t pc lv st w := by
  obtain ⟨rfl, h⟩ := jx_k_some h
  obtain ⟨x, y, st0, rfl, rfl⟩ := ja_b2_some h
  exact jx_lift hq (fun ls H locs cells slots hl _ _ _ _ k => lv_iushr hF.1 hF.2.1 hd rfl k)
theorem js_idiv (hF : jx_Fx d b0 Z D kA X p R s m args meth c) (hd : decode X.2.1 pc = .ok (.idiv, n)) (h : jx_k n 1 (ja_b0 (fun x y => x / y) pc lv st w) = some q) (hq : jx_To p l e R s m args below meth c Qf b0 D kA X t q) : jx_Go p l e R s m args below meth c Qf b0 D kA X t pc lv st w := by
  obtain ⟨rfl, h⟩ := jx_k_some h
  obtain ⟨x, y, st0, rfl, h0, rfl⟩ := ja_b0_some h
  exact jx_lift hq (fun ls H locs cells slots hl _ _ _ _ k => lv_idiv hF.1 hF.2.1 hd h0 k)
theorem js_irem (hF : jx_Fx d b0 Z D kA X p R s m args meth c) (hd : decode X.2.1 pc = .ok (.irem, n)) (h : jx_k n 1 (ja_b0 (fun x y => x - x / y * y) pc lv st w) = some q) (hq : jx_To p l e R s m args below meth c Qf b0 D kA X t q) : jx_Go p l e R s m args below meth c Qf b0 D kA X t pc lv st w := by
  obtain ⟨rfl, h⟩ := jx_k_some h
  obtain ⟨x, y, st0, rfl, h0, rfl⟩ := ja_b0_some h
  exact jx_lift hq (fun ls H locs cells slots hl _ _ _ _ k => lv_irem hF.1 hF.2.1 hd h0 k)
theorem js_iconst {i : Int} (hF : jx_Fx d b0 Z D kA X p R s m args meth c) (hd : decode X.2.1 pc = .ok (.iconst i, n)) (h : jx_k n 1 (jx_go (pc + 1) lv (.inl (Int32.ofInt i) :: st) w) = some q) (hq : jx_To p l e R s m args below meth c Qf b0 D kA X t q) : jx_Go p l e R s m args below meth c Qf b0 D kA X t pc lv st w := by
  obtain ⟨rfl, h⟩ := jx_k_some h
  cases jx_go_some h
  exact jx_lift hq (fun ls H locs cells slots hl _ _ _ _ k => lv_iconst hF.1 hF.2.1 hd rfl k)
theorem js_bipush {i : Int} (hF : jx_Fx d b0 Z D kA X p R s m args meth c) (hd : decode X.2.1 pc = .ok (.bipush i, n)) (h : jx_k n 2 (jx_go (pc + 2) lv (.inl ((Int8.ofInt i).toInt32) :: st) w) = some q) (hq : jx_To p l e R s m args below meth c Qf b0 D kA X t q) : jx_Go p l e R s m args below meth c Qf b0 D kA X t pc lv st w := by
  obtain ⟨rfl, h⟩ := jx_k_some h
  cases jx_go_some h
  exact jx_lift hq (fun ls H locs cells slots hl _ _ _ _ k => lv_bipush hF.1 hF.2.1 hd rfl k)
theorem js_sipush {i : Int} (hF : jx_Fx d b0 Z D kA X p R s m args meth c) (hd : decode X.2.1 pc = .ok (.sipush i, n)) (h : jx_k n 3 (jx_go (pc + 3) lv (.inl ((Int16.ofInt i).toInt32) :: st) w) = some q) (hq : jx_To p l e R s m args below meth c Qf b0 D kA X t q) : jx_Go p l e R s m args below meth c Qf b0 D kA X t pc lv st w := by
  obtain ⟨rfl, h⟩ := jx_k_some h
  cases jx_go_some h
  exact jx_lift hq (fun ls H locs cells slots hl _ _ _ _ k => lv_sipush hF.1 hF.2.1 hd rfl k)
theorem js_aconst_null (hF : jx_Fx d b0 Z D kA X p R s m args meth c) (hd : decode X.2.1 pc = .ok (.aconst_null, n)) (h : jx_k n 1 (jx_go (pc + 1) lv (.inr none :: st) w) = some q) (hq : jx_To p l e R s m args below meth c Qf b0 D kA X t q) : jx_Go p l e R s m args below meth c Qf b0 D kA X t pc lv st w := by
  obtain ⟨rfl, h⟩ := jx_k_some h
  cases jx_go_some h
  exact jx_lift hq (fun ls H locs cells slots hl _ _ _ _ k => lv_null hF.1 hF.2.1 hd k)
theorem js_iload_n {i : Fin 4} (hF : jx_Fx d b0 Z D kA X p R s m args meth c) (hd : decode X.2.1 pc = .ok (.iload_n i, n)) (h : jx_k n 1 (ja_li i.val pc 1 lv st w) = some q) (hq : jx_To p l e R s m args below meth c Qf b0 D kA X t q) : jx_Go p l e R s m args below meth c Qf b0 D kA X t pc lv st w := by
  obtain ⟨rfl, h⟩ := jx_k_some h
  obtain ⟨x, hx, rfl⟩ := ja_li_some h
  exact jx_lift hq (fun ls H locs cells slots hl _ _ _ _ k => lv_iload_n hF.1 hF.2.1 hd rfl (jx_at hl hx) k)
theorem js_iload {i : Nat} (hF : jx_Fx d b0 Z D kA X p R s m args meth c) (hd : decode X.2.1 pc = .ok (.iload i, n)) (h : jx_k n 2 (ja_li i pc 2 lv st w) = some q) (hq : jx_To p l e R s m args below meth c Qf b0 D kA X t q) : jx_Go p l e R s m args below meth c Qf b0 D kA X t pc lv st w := by
  obtain ⟨rfl, h⟩ := jx_k_some h
  obtain ⟨x, hx, rfl⟩ := ja_li_some h
  exact jx_lift hq (fun ls H locs cells slots hl _ _ _ _ k => lv_iload hF.1 hF.2.1 hd (jx_at hl hx) k)
theorem js_aload_n {i : Fin 4} (hF : jx_Fx d b0 Z D kA X p R s m args meth c) (hd : decode X.2.1 pc = .ok (.aload_n i, n)) (h : jx_k n 1 (ja_la i.val pc 1 lv st w) = some q) (hq : jx_To p l e R s m args below meth c Qf b0 D kA X t q) : jx_Go p l e R s m args below meth c Qf b0 D kA X t pc lv st w := by
  obtain ⟨rfl, h⟩ := jx_k_some h
  obtain ⟨r, hx, rfl⟩ := ja_la_some h
  cases r with
  | none => exact jx_lift hq (fun ls H locs cells slots hl _ _ _ _ k => lv_aload_nN hF.1 hF.2.1 hd rfl (jx_at hl hx) k)
  | some a => exact jx_lift hq (fun ls H locs cells slots hl _ _ _ _ k => lv_aload_n hF.1 hF.2.1 hd rfl (jx_at hl hx) k)
theorem js_aload {i : Nat} (hF : jx_Fx d b0 Z D kA X p R s m args meth c) (hd : decode X.2.1 pc = .ok (.aload i, n)) (h : jx_k n 2 (ja_la i pc 2 lv st w) = some q) (hq : jx_To p l e R s m args below meth c Qf b0 D kA X t q) : jx_Go p l e R s m args below meth c Qf b0 D kA X t pc lv st w := by
  obtain ⟨rfl, h⟩ := jx_k_some h
  obtain ⟨r, hx, rfl⟩ := ja_la_some h
  cases r with
  | none => exact jx_lift hq (fun ls H locs cells slots hl _ _ _ _ k => lv_aloadN hF.1 hF.2.1 hd (jx_at hl hx) k)
  | some a => exact jx_lift hq (fun ls H locs cells slots hl _ _ _ _ k => lv_aload hF.1 hF.2.1 hd (jx_at hl hx) k)
theorem js_istore_n {i : Fin 4} (hF : jx_Fx d b0 Z D kA X p R s m args meth c) (hd : decode X.2.1 pc = .ok (.istore_n i, n)) (h : jx_k n 1 (ja_si X.2.2.1 i.val pc 1 lv st w) = some q) (hq : jx_To p l e R s m args below meth c Qf b0 D kA X t q) : jx_Go p l e R s m args below meth c Qf b0 D kA X t pc lv st w := by
  obtain ⟨rfl, h⟩ := jx_k_some h
  obtain ⟨x, st0, rfl, hi, rfl⟩ := ja_si_some h
  exact jx_lifl hq (fun ls H locs cells slots hl k => lv_istore_n hF.1 hF.2.1 hd rfl hl hi rfl k)
theorem js_istore {i : Nat} (hF : jx_Fx d b0 Z D kA X p R s m args meth c) (hd : decode X.2.1 pc = .ok (.istore i, n)) (h : jx_k n 2 (ja_si X.2.2.1 i pc 2 lv st w) = some q) (hq : jx_To p l e R s m args below meth c Qf b0 D kA X t q) : jx_Go p l e R s m args below meth c Qf b0 D kA X t pc lv st w := by
  obtain ⟨rfl, h⟩ := jx_k_some h
  obtain ⟨x, st0, rfl, hi, rfl⟩ := ja_si_some h
  exact jx_lifl hq (fun ls H locs cells slots hl k => lv_istore hF.1 hF.2.1 hd hl hi rfl k)
theorem js_astore_n {i : Fin 4} (hF : jx_Fx d b0 Z D kA X p R s m args meth c) (hd : decode X.2.1 pc = .ok (.astore_n i, n)) (h : jx_k n 1 (ja_sa X.2.2.1 i.val pc 1 lv st w) = some q) (hq : jx_To p l e R s m args below meth c Qf b0 D kA X t q) : jx_Go p l e R s m args below meth c Qf b0 D kA X t pc lv st w := by
  obtain ⟨rfl, h⟩ := jx_k_some h
  obtain ⟨r, st0, rfl, hi, rfl⟩ := ja_sa_some h
  cases r with
  | none => exact jx_lifl hq (fun ls H locs cells slots hl k => lv_astore_nN hF.1 hF.2.1 hd rfl hl hi rfl k)
  | some a => exact jx_lifl hq (fun ls H locs cells slots hl k => lv_astore_n hF.1 hF.2.1 hd rfl hl hi rfl k)
theorem js_astore {i : Nat} (hF : jx_Fx d b0 Z D kA X p R s m args meth c) (hd : decode X.2.1 pc = .ok (.astore i, n)) (h : jx_k n 2 (ja_sa X.2.2.1 i pc 2 lv st w) = some q) (hq : jx_To p l e R s m args below meth c Qf b0 D kA X t q) : jx_Go p l e R s m args below meth c Qf b0 D kA X t pc lv st w := by
  obtain ⟨rfl, h⟩ := jx_k_some h
  obtain ⟨r, st0, rfl, hi, rfl⟩ := ja_sa_some h
  cases r with
  | none => exact jx_lifl hq (fun ls H locs cells slots hl k => lv_astoreN hF.1 hF.2.1 hd hl hi rfl k)
  | some a => exact jx_lifl hq (fun ls H locs cells slots hl k => lv_astore hF.1 hF.2.1 hd hl hi rfl k)
theorem js_iinc {i : Nat} {x : Int} (hF : jx_Fx d b0 Z D kA X p R s m args meth c) (hd : decode X.2.1 pc = .ok (.iinc i x, n)) (h : jx_k n 3 (ja_ii X.2.2.1 i x pc lv st w) = some q) (hq : jx_To p l e R s m args below meth c Qf b0 D kA X t q) : jx_Go p l e R s m args below meth c Qf b0 D kA X t pc lv st w := by
  obtain ⟨rfl, h⟩ := jx_k_some h
  obtain ⟨v, hx, hi, rfl⟩ := ja_ii_some h
  obtain ⟨k0, hk0⟩ := List.getElem?_of_mem (jx_ps_in lv 0 i _ hx)
  rw [Nat.zero_add] at hk0
  exact jx_lifl hq (fun ls H locs cells slots hl k => lv_iinc hF.1 hF.2.1 hd hl hk0 rfl hi rfl k)
theorem js_ineg (hF : jx_Fx d b0 Z D kA X p R s m args meth c) (hd : decode X.2.1 pc = .ok (.ineg, n)) (h : jx_k n 1 (ja_neg pc lv st w) = some q) (hq : jx_To p l e R s m args below meth c Qf b0 D kA X t q) : jx_Go p l e R s m args below meth c Qf b0 D kA X t pc lv st w := by
  obtain ⟨rfl, h⟩ := jx_k_some h
  obtain ⟨x, st0, rfl, rfl⟩ := ja_neg_some h
  exact jx_lift hq (fun ls H locs cells slots hl _ _ _ _ k => lv_ineg hF.1 hF.2.1 hd k)
theorem js_dup (hF : jx_Fx d b0 Z D kA X p R s m args meth c) (hd : decode X.2.1 pc = .ok (.dup, n)) (h : jx_k n 1 (ja_dup pc lv st w) = some q) (hq : jx_To p l e R s m args below meth c Qf b0 D kA X t q) : jx_Go p l e R s m args below meth c Qf b0 D kA X t pc lv st w := by
  obtain ⟨rfl, h⟩ := jx_k_some h
  obtain ⟨v, st0, rfl, rfl⟩ := ja_dup_some h
  exact jx_lift hq (fun ls H locs cells slots hl _ _ _ _ k => lv_dup hF.1 hF.2.1 hd (jx_cat _) k)
theorem js_dup2 (hF : jx_Fx d b0 Z D kA X p R s m args meth c) (hd : decode X.2.1 pc = .ok (.dup2, n)) (h : jx_k n 1 (ja_dup2 pc lv st w) = some q) (hq : jx_To p l e R s m args below meth c Qf b0 D kA X t q) : jx_Go p l e R s m args below meth c Qf b0 D kA X t pc lv st w := by
  obtain ⟨rfl, h⟩ := jx_k_some h
  obtain ⟨v, u, st0, rfl, rfl⟩ := ja_dup2_some h
  exact jx_lift hq (fun ls H locs cells slots hl _ _ _ _ k => lv_dup2_11 hF.1 hF.2.1 hd (jx_cat _) (jx_cat _) k)
theorem js_pop (hF : jx_Fx d b0 Z D kA X p R s m args meth c) (hd : decode X.2.1 pc = .ok (.pop, n)) (h : jx_k n 1 (ja_pop pc lv st w) = some q) (hq : jx_To p l e R s m args below meth c Qf b0 D kA X t q) : jx_Go p l e R s m args below meth c Qf b0 D kA X t pc lv st w := by
  obtain ⟨rfl, h⟩ := jx_k_some h
  obtain ⟨v, st0, rfl, rfl⟩ := ja_pop_some h
  exact jx_lift hq (fun ls H locs cells slots hl _ _ _ _ k => lv_pop hF.1 hF.2.1 hd (jx_cat _) k)
theorem js_if_eq {off : Int} (hF : jx_Fx d b0 Z D kA X p R s m args meth c) (hd : decode X.2.1 pc = .ok (.ifCond .eq off, n)) (h : jx_k n 3 (ja_if .eq off pc lv st w) = some q) (hq : jx_To p l e R s m args below meth c Qf b0 D kA X t q) : jx_Go p l e R s m args below meth c Qf b0 D kA X t pc lv st w := by
  obtain ⟨rfl, h⟩ := jx_k_some h
  obtain ⟨x, st0, rfl, tg, ht, rfl⟩ := ja_if_some h
  exact jx_two hq (fun ls H locs cells slots kt kf => lv_if_eq hF.1 hF.2.1 hd ht (fun hc => kt (decide_eq_true hc)) (fun hc => kf (fun q => hc (of_decide_eq_true q))))
theorem js_icmp_eq {off : Int} (hF : jx_Fx d b0 Z D kA X p R s m args meth c) (hd : decode X.2.1 pc = .ok (.if_icmp .eq off, n)) (h : jx_k n 3 (ja_ic .eq off pc lv st w) = some q) (hq : jx_To p l e R s m args below meth c Qf b0 D kA X t q) : jx_Go p l e R s m args below meth c Qf b0 D kA X t pc lv st w := by
  obtain ⟨rfl, h⟩ := jx_k_some h
  obtain ⟨x, y, st0, rfl, tg, ht, rfl⟩ := ja_ic_some h
  exact jx_two hq (fun ls H locs cells slots kt kf => lv_icmp_eq hF.1 hF.2.1 hd ht (fun hc => kt (decide_eq_true hc)) (fun hc => kf (fun q => hc (of_decide_eq_true q))))
theorem js_if_ne {off : Int} (hF : jx_Fx d b0 Z D kA X p R s m args meth c) (hd : decode X.2.1 pc = .ok (.ifCond .ne off, n)) (h : jx_k n 3 (ja_if .ne off pc lv st w) = some q) (hq : jx_To p l e R s m args below meth c Qf b0 D kA X t q) : jx_Go p l e R s m args below meth c Qf b0 D kA X t pc lv st w := by
  obtain ⟨rfl, h⟩ := jx_k_some h
  obtain ⟨x, st0, rfl, tg, ht, rfl⟩ := ja_if_some h
  exact jx_two hq (fun ls H locs cells slots kt kf => lv_if_ne hF.1 hF.2.1 hd ht (fun hc => kt (decide_eq_true hc)) (fun hc => kf (fun q => (of_decide_eq_true q) hc)))
theorem js_icmp_ne {off : Int} (hF : jx_Fx d b0 Z D kA X p R s m args meth c) (hd : decode X.2.1 pc = .ok (.if_icmp .ne off, n)) (h : jx_k n 3 (ja_ic .ne off pc lv st w) = some q) (hq : jx_To p l e R s m args below meth c Qf b0 D kA X t q) : jx_Go p l e R s m args below meth c Qf b0 D kA X t pc lv st w := by
  obtain ⟨rfl, h⟩ := jx_k_some h
  obtain ⟨x, y, st0, rfl, tg, ht, rfl⟩ := ja_ic_some h
  exact jx_two hq (fun ls H locs cells slots kt kf => lv_icmp_ne hF.1 hF.2.1 hd ht (fun hc => kt (decide_eq_true hc)) (fun hc => kf (fun q => (of_decide_eq_true q) hc)))
theorem js_if_lt {off : Int} (hF : jx_Fx d b0 Z D kA X p R s m args meth c) (hd : decode X.2.1 pc = .ok (.ifCond .lt off, n)) (h : jx_k n 3 (ja_if .lt off pc lv st w) = some q) (hq : jx_To p l e R s m args below meth c Qf b0 D kA X t q) : jx_Go p l e R s m args below meth c Qf b0 D kA X t pc lv st w := by
  obtain ⟨rfl, h⟩ := jx_k_some h
  obtain ⟨x, st0, rfl, tg, ht, rfl⟩ := ja_if_some h
  exact jx_two hq (fun ls H locs cells slots kt kf => lv_if_lt hF.1 hF.2.1 hd ht (fun hc => kt (decide_eq_true hc)) (fun hc => kf (fun q => hc (of_decide_eq_true q))))
theorem js_icmp_lt {off : Int} (hF : jx_Fx d b0 Z D kA X p R s m args meth c) (hd : decode X.2.1 pc = .ok (.if_icmp .lt off, n)) (h : jx_k n 3 (ja_ic .lt off pc lv st w) = some q) (hq : jx_To p l e R s m args below meth c Qf b0 D kA X t q) : jx_Go p l e R s m args below meth c Qf b0 D kA X t pc lv st w := by
  obtain ⟨rfl, h⟩ := jx_k_some h
  obtain ⟨x, y, st0, rfl, tg, ht, rfl⟩ := ja_ic_some h
  exact jx_two hq (fun ls H locs cells slots kt kf => lv_icmp_lt hF.1 hF.2.1 hd ht (fun hc => kt (decide_eq_true hc)) (fun hc => kf (fun q => hc (of_decide_eq_true q))))
theorem js_if_ge {off : Int} (hF : jx_Fx d b0 Z D kA X p R s m args meth c) (hd : decode X.2.1 pc = .ok (.ifCond .ge off, n)) (h : jx_k n 3 (ja_if .ge off pc lv st w) = some q) (hq : jx_To p l e R s m args below meth c Qf b0 D kA X t q) : jx_Go p l e R s m args below meth c Qf b0 D kA X t pc lv st w := by
  obtain ⟨rfl, h⟩ := jx_k_some h
  obtain ⟨x, st0, rfl, tg, ht, rfl⟩ := ja_if_some h
  exact jx_two hq (fun ls H locs cells slots kt kf => lv_if_ge hF.1 hF.2.1 hd ht (fun hc => kt (decide_eq_true hc)) (fun hc => kf (fun q => hc (of_decide_eq_true q))))
theorem js_icmp_ge {off : Int} (hF : jx_Fx d b0 Z D kA X p R s m args meth c) (hd : decode X.2.1 pc = .ok (.if_icmp .ge off, n)) (h : jx_k n 3 (ja_ic .ge off pc lv st w) = some q) (hq : jx_To p l e R s m args below meth c Qf b0 D kA X t q) : jx_Go p l e R s m args below meth c Qf b0 D kA X t pc lv st w := by
  obtain ⟨rfl, h⟩ := jx_k_some h
  obtain ⟨x, y, st0, rfl, tg, ht, rfl⟩ := ja_ic_some h
  exact jx_two hq (fun ls H locs cells slots kt kf => lv_icmp_ge hF.1 hF.2.1 hd ht (fun hc => kt (decide_eq_true hc)) (fun hc => kf (fun q => hc (of_decide_eq_true q))))
theorem js_if_gt {off : Int} (hF : jx_Fx d b0 Z D kA X p R s m args meth c) (hd : decode X.2.1 pc = .ok (.ifCond .gt off, n)) (h : jx_k n 3 (ja_if .gt off pc lv st w) = some q) (hq : jx_To p l e R s m args below meth c Qf b0 D kA X t q) : jx_Go p l e R s m args below meth c Qf b0 D kA X t pc lv st w := by
  obtain ⟨rfl, h⟩ := jx_k_some h
  obtain ⟨x, st0, rfl, tg, ht, rfl⟩ := ja_if_some h
  exact jx_two hq (fun ls H locs cells slots kt kf => lv_if_gt hF.1 hF.2.1 hd ht (fun hc => kt (decide_eq_true hc)) (fun hc => kf (fun q => hc (of_decide_eq_true q))))
theorem js_icmp_gt {off : Int} (hF : jx_Fx d b0 Z D kA X p R s m args meth c) (hd : decode X.2.1 pc = .ok (.if_icmp .gt off, n)) (h : jx_k n 3 (ja_ic .gt off pc lv st w) = some q) (hq : jx_To p l e R s m args below meth c Qf b0 D kA X t q) : jx_Go p l e R s m args below meth c Qf b0 D kA X t pc lv st w := by
  obtain ⟨rfl, h⟩ := jx_k_some h
  obtain ⟨x, y, st0, rfl, tg, ht, rfl⟩ := ja_ic_some h
  exact jx_two hq (fun ls H locs cells slots kt kf => lv_icmp_gt hF.1 hF.2.1 hd ht (fun hc => kt (decide_eq_true hc)) (fun hc => kf (fun q => hc (of_decide_eq_true q))))
theorem js_if_le {off : Int} (hF : jx_Fx d b0 Z D kA X p R s m args meth c) (hd : decode X.2.1 pc = .ok (.ifCond .le off, n)) (h : jx_k n 3 (ja_if .le off pc lv st w) = some q) (hq : jx_To p l e R s m args below meth c Qf b0 D kA X t q) : jx_Go p l e R s m args below meth c Qf b0 D kA X t pc lv st w := by
  obtain ⟨rfl, h⟩ := jx_k_some h
  obtain ⟨x, st0, rfl, tg, ht, rfl⟩ := ja_if_some h
  exact jx_two hq (fun ls H locs cells slots kt kf => lv_if_le hF.1 hF.2.1 hd ht (fun hc => kt (decide_eq_true hc)) (fun hc => kf (fun q => hc (of_decide_eq_true q))))
theorem js_icmp_le {off : Int} (hF : jx_Fx d b0 Z D kA X p R s m args meth c) (hd : decode X.2.1 pc = .ok (.if_icmp .le off, n)) (h : jx_k n 3 (ja_ic .le off pc lv st w) = some q) (hq : jx_To p l e R s m args below meth c Qf b0 D kA X t q) : jx_Go p l e R s m args below meth c Qf b0 D kA X t pc lv st w := by
  obtain ⟨rfl, h⟩ := jx_k_some h
  obtain ⟨x, y, st0, rfl, tg, ht, rfl⟩ := ja_ic_some h
  exact jx_two hq (fun ls H locs cells slots kt kf => lv_icmp_le hF.1 hF.2.1 hd ht (fun hc => kt (decide_eq_true hc)) (fun hc => kf (fun q => hc (of_decide_eq_true q))))
theorem js_ifnull {off : Int} (hF : jx_Fx d b0 Z D kA X p R s m args meth c) (hd : decode X.2.1 pc = .ok (.ifnull off, n)) (h : jx_k n 3 (ja_nl off pc lv st w) = some q) (hq : jx_To p l e R s m args below meth c Qf b0 D kA X t q) : jx_Go p l e R s m args below meth c Qf b0 D kA X t pc lv st w := by
  obtain ⟨rfl, h⟩ := jx_k_some h
  obtain ⟨r, st0, rfl, tg, ht, rfl⟩ := ja_nl_some h
  cases r with
  | none => exact jx_two hq (fun ls H locs cells slots kt kf => lv_ifnullN hF.1 hF.2.1 hd ht (kt rfl))
  | some a => exact jx_two hq (fun ls H locs cells slots kt kf => lv_ifnull hF.1 hF.2.1 hd (kf (by simp)))
theorem js_ifnonnull {off : Int} (hF : jx_Fx d b0 Z D kA X p R s m args meth c) (hd : decode X.2.1 pc = .ok (.ifnonnull off, n)) (h : jx_k n 3 (ja_nn off pc lv st w) = some q) (hq : jx_To p l e R s m args below meth c Qf b0 D kA X t q) : jx_Go p l e R s m args below meth c Qf b0 D kA X t pc lv st w := by
  obtain ⟨rfl, h⟩ := jx_k_some h
  obtain ⟨r, st0, rfl, tg, ht, rfl⟩ := ja_nn_some h
  cases r with
  | none => exact jx_two hq (fun ls H locs cells slots kt kf => lv_ifnonnullN hF.1 hF.2.1 hd (kf (by simp)))
  | some a => exact jx_two hq (fun ls H locs cells slots kt kf => lv_ifnonnull hF.1 hF.2.1 hd ht (kt rfl))
theorem js_goto {off : Int} (hF : jx_Fx d b0 Z D kA X p R s m args meth c) (hd : decode X.2.1 pc = .ok (.goto off, n)) (h : jx_k n 3 (jx_br true pc off lv st w) = some q) (hq : jx_To p l e R s m args below meth c Qf b0 D kA X t q) : jx_Go p l e R s m args below meth c Qf b0 D kA X t pc lv st w := by
  obtain ⟨rfl, h⟩ := jx_k_some h
  obtain ⟨tg, ht, rfl⟩ := jx_br_some h
  exact jx_two hq (fun ls H locs cells slots kt kf => lv_goto hF.1 hF.2.1 hd ht (kt rfl))
theorem js_tableswitch {dd lo hi : Int} {offs : Array Int} (hF : jx_Fx d b0 Z D kA X p R s m args meth c) (hd : decode X.2.1 pc = .ok (.tableswitch dd lo hi offs, n)) (h : ja_ts dd lo hi offs pc lv st w = some q) (hq : jx_To p l e R s m args below meth c Qf b0 D kA X t q) : jx_Go p l e R s m args below meth c Qf b0 D kA X t pc lv st w := by
  obtain ⟨x, st0, rfl, off, ho, tg, ht, rfl⟩ := ja_ts_some h
  rcases ho with ⟨ho, rfl⟩ | ⟨h1, h2, h3⟩
  · exact jx_lift hq (fun ls H locs cells slots hl _ _ _ _ k => lv_tableOut hF.1 hF.2.1 hd ho ht k)
  · exact jx_lift hq (fun ls H locs cells slots hl _ _ _ _ k => lv_tableIn hF.1 hF.2.1 hd h1 h2 h3 ht k)
theorem js_ldc {k : Nat} (hF : jx_Fx d b0 Z D kA X p R s m args meth c) (hd : decode X.2.1 pc = .ok (.ldc k, n)) (h : jx_k n 2 (ja_lc X k pc lv st w) = some q) (hq : jx_To p l e R s m args below meth c Qf b0 D kA X t q) : jx_Go p l e R s m args below meth c Qf b0 D kA X t pc lv st w := by
  obtain ⟨rfl, h⟩ := jx_k_some h
  obtain ⟨v, hv, rfl⟩ := ja_lc_some h
  exact jx_lift hq (fun ls H locs cells slots hl _ _ _ _ kk => lv_ldc hF.1 hF.2.1 hF.2.2.2.1 (hF.2.2.2.2.1 _ (jt_cst_ok hv)) hd kk)
end JB
end
section
/-! the step rows that touch the heap -/
theorem jx_gF_some {w : jx_W} {a ci k : Nat} {v : jx_V} (h : jx_gF w a ci k = some v) : ∃ fs, w.1 a = some (.inr (ci, fs)) ∧ fs[k]? = some v := by
  unfold jx_gF at h
  split at h
  · rename_i c0 fs hc
    split at h
    · rename_i e
      subst e
      exact ⟨fs, hc, h⟩
    · cases h
  · cases h
theorem jx_sF_some {w w' : jx_W} {a ci k : Nat} {v : jx_V} (h : jx_sF w a ci k v = some w') : ∃ fs, w.1 a = some (.inr (ci, fs)) ∧ k < fs.length ∧ w' = (va_up w.1 a (some (.inr (ci, fs.set k v))), w.2) := by
  unfold jx_sF at h
  split at h
  · rename_i c0 fs hc
    split at h
    · rename_i e
      obtain ⟨e, hk⟩ := e
      subst e
      exact ⟨fs, hc, hk, (Option.some.inj h).symm⟩
    · cases h
  · cases h
theorem jx_gI_some {Z : jx_Sc} {t : Nat} {w : jx_W} {a : Nat} {i x : Int32} (h : jx_gI Z t w a i = some x) : (∃ n f, w.1 a = some (.inl (t, n, .inl f)) ∧ vp_in i n ∧ x = f i.toNatClampNeg) ∨ (t = 0 ∧ a = Z.1 ∧ vp_in i Z.2.1 ∧ x = Z.2.2 i.toNatClampNeg) := by
  unfold jx_gI at h
  split at h
  · rename_i t' n f hc
    split at h
    · rename_i e
      obtain ⟨e, hi⟩ := e
      subst e
      exact Or.inl ⟨n, f, hc, hi, (Option.some.inj h).symm⟩
    · cases h
  · split at h
    · rename_i e
      exact Or.inr ⟨e.1, e.2.1, e.2.2, (Option.some.inj h).symm⟩
    · cases h
  · cases h
theorem jx_sI_some {t : Nat} {w w' : jx_W} {a : Nat} {i x : Int32} (h : jx_sI t w a i x = some w') : ∃ n f, w.1 a = some (.inl (t, n, .inl f)) ∧ vp_in i n ∧ w' = (va_up w.1 a (some (.inl (t, n, .inl (va_up f i.toNatClampNeg x)))), w.2) := by
  unfold jx_sI at h
  split at h
  · rename_i t' n f hc
    split at h
    · rename_i e
      obtain ⟨e, hi⟩ := e
      subst e
      exact ⟨n, f, hc, hi, (Option.some.inj h).symm⟩
    · cases h
  · cases h
theorem jx_gA_some {w : jx_W} {a : Nat} {i : Int32} {r : Option Nat} (h : jx_gA w a i = some r) : ∃ t n f, w.1 a = some (.inl (t, n, .inr f)) ∧ (jt_el t).isSome = true ∧ vp_in i n ∧ r = f i.toNatClampNeg := by
  unfold jx_gA at h
  split at h
  · rename_i t n f hc
    split at h
    · rename_i e
      exact ⟨t, n, f, hc, e.1, e.2, (Option.some.inj h).symm⟩
    · cases h
  · cases h
theorem jx_sA_some {w w' : jx_W} {a : Nat} {i : Int32} {r : Option Nat} (h : jx_sA w a i r = some w') : ∃ t n f, w.1 a = some (.inl (t, n, .inr f)) ∧ jx_ok w t r = true ∧ vp_in i n ∧ w' = (va_up w.1 a (some (.inl (t, n, .inr (va_up f i.toNatClampNeg r)))), w.2) := by
  unfold jx_sA at h
  split at h
  · rename_i t n f hc
    split at h
    · rename_i e
      exact ⟨t, n, f, hc, e.1, e.2, (Option.some.inj h).symm⟩
    · cases h
  · cases h
theorem jx_gL_some {Z : jx_Sc} {w : jx_W} {a k : Nat} (h : jx_gL Z w a = some k) : (∃ t x, w.1 a = some (.inl (t, k, x)) ∧ t < jt_nk) ∨ (a = Z.1 ∧ k = Z.2.1) := by
  unfold jx_gL at h
  split at h
  · rename_i t n x hc
    split at h
    · cases h
      exact Or.inl ⟨t, x, hc, by assumption⟩
    · cases h
  · split at h
    · cases h
      exact Or.inr ⟨by assumption, rfl⟩
    · cases h
  · cases h
theorem jx_ok_some {w : jx_W} {t v : Nat} (h : jx_ok w t (some v) = true) : ∃ ci fs, w.1 v = some (.inr (ci, fs)) ∧ jt_el t = some ci := by
  unfold jx_ok at h
  dsimp only at h
  split at h
  · rename_i ci fs hc
    exact ⟨ci, fs, hc, of_decide_eq_true h⟩
  · cases h
theorem jx_fit {ty : FieldType} {v : jx_V} (h : jx_fk (jt_tk ty) v = true) : narrow ty (jx_v v) = jx_v v ∧ fits ty (jx_v v) = true := by
  rcases v with x | r
  · cases ty with
    | int => exact ⟨rfl, rfl⟩
    | boolean =>
      have h : x = 0 ∨ x = 1 := by simpa [jx_fk, jt_tk] using h
      rcases h with rfl | rfl
      · exact ⟨by first | rfl | decide, by first | rfl | decide⟩
      · exact ⟨by first | rfl | decide, by first | rfl | decide⟩
    | _ => simp [jx_fk, jt_tk] at h
  · cases ty with
    | object C => cases r <;> exact ⟨rfl, rfl⟩
    | array u => cases r <;> exact ⟨rfl, rfl⟩
    | _ => simp [jx_fk, jt_tk] at h
theorem ja_gf_some {X : jx_X} {k pc : Nat} {lv : jx_L} {st : List jx_V} {w : jx_W} {q : jx_S ⊕ jx_T} (h : ja_gf X k pc lv st w = some q) : ∃ ci f tk pm a st0 v, jt_fld X.1 k = some (ci, f, tk, pm) ∧ st = .inr (some a) :: st0 ∧ jx_gF w a ci f = some v ∧ q = .inl (pc + 3, lv, v :: st0, w) := by
  unfold ja_gf at h
  split at h
  · rename_i ci f tk pm hf
    split at h
    · split at h
      · exact ⟨ci, f, tk, pm, _, _, _, hf, rfl, by assumption, jx_go_some h⟩
      · cases h
    · cases h
  · cases h
theorem ja_pf_some {X : jx_X} {k pc : Nat} {lv : jx_L} {st : List jx_V} {w : jx_W} {q : jx_S ⊕ jx_T} (h : ja_pf X k pc lv st w = some q) : ∃ ci f tk pm a st0 v w', jt_fld X.1 k = some (ci, f, tk, pm) ∧ st = v :: .inr (some a) :: st0 ∧ jx_fk tk v = true ∧ (pm = 0 ∨ (pm = 1 ∧ X.2.2.2.2 = true)) ∧ jx_sF w a ci f v = some w' ∧ q = .inl (pc + 3, lv, st0, w') := by
  unfold ja_pf at h
  split at h
  · rename_i ci f tk pm hf
    split at h
    · split at h
      · rename_i hp
        split at h
        · exact ⟨ci, f, tk, pm, _, _, _, _, hf, rfl, hp.1, hp.2, by assumption, jx_go_some h⟩
        · cases h
      · cases h
    · cases h
  · cases h
theorem ja_al_some {Z : jx_Sc} {t pc : Nat} {lv : jx_L} {st : List jx_V} {w : jx_W} {q : jx_S ⊕ jx_T} (h : ja_al Z t pc lv st w = some q) : ∃ i a st0 x, st = .inl i :: .inr (some a) :: st0 ∧ jx_gI Z t w a i = some x ∧ q = .inl (pc + 1, lv, .inl x :: st0, w) := by
  unfold ja_al at h
  split at h
  · split at h
    · exact ⟨_, _, _, _, rfl, by assumption, jx_go_some h⟩
    · cases h
  · cases h
theorem ja_as_some {t pc : Nat} {lv : jx_L} {st : List jx_V} {w : jx_W} {q : jx_S ⊕ jx_T} (h : ja_as t pc lv st w = some q) : ∃ x i a st0 w', st = .inl x :: .inl i :: .inr (some a) :: st0 ∧ (t = 0 ∨ x = 0 ∨ x = 1) ∧ jx_sI t w a i x = some w' ∧ q = .inl (pc + 1, lv, st0, w') := by
  unfold ja_as at h
  split at h
  · split at h
    · rename_i ht
      split at h
      · exact ⟨_, _, _, _, _, rfl, ht, by assumption, jx_go_some h⟩
      · cases h
    · cases h
  · cases h
theorem ja_rl_some {pc : Nat} {lv : jx_L} {st : List jx_V} {w : jx_W} {q : jx_S ⊕ jx_T} (h : ja_rl pc lv st w = some q) : ∃ i a st0 r, st = .inl i :: .inr (some a) :: st0 ∧ jx_gA w a i = some r ∧ q = .inl (pc + 1, lv, .inr r :: st0, w) := by
  unfold ja_rl at h
  split at h
  · split at h
    · exact ⟨_, _, _, _, rfl, by assumption, jx_go_some h⟩
    · cases h
  · cases h
theorem ja_rs_some {pc : Nat} {lv : jx_L} {st : List jx_V} {w : jx_W} {q : jx_S ⊕ jx_T} (h : ja_rs pc lv st w = some q) : ∃ r i a st0 w', st = .inr r :: .inl i :: .inr (some a) :: st0 ∧ jx_sA w a i r = some w' ∧ q = .inl (pc + 1, lv, st0, w') := by
  unfold ja_rs at h
  split at h
  · split at h
    · exact ⟨_, _, _, _, _, rfl, by assumption, jx_go_some h⟩
    · cases h
  · cases h
theorem ja_len_some {Z : jx_Sc} {pc : Nat} {lv : jx_L} {st : List jx_V} {w : jx_W} {q : jx_S ⊕ jx_T} (h : ja_len Z pc lv st w = some q) : ∃ a st0 k, st = .inr (some a) :: st0 ∧ jx_gL Z w a = some k ∧ q = .inl (pc + 1, lv, .inl (Int32.ofNat k) :: st0, w) := by
  unfold ja_len at h
  split at h
  · split at h
    · exact ⟨_, _, _, rfl, by assumption, jx_go_some h⟩
    · cases h
  · cases h
theorem ja_na_some {ty : ArrayType} {pc : Nat} {lv : jx_L} {st : List jx_V} {w : jx_W} {q : jx_S ⊕ jx_T} (h : ja_na ty pc lv st w = some q) : ∃ t x st0, jt_na ty = some t ∧ st = .inl x :: st0 ∧ ¬ x < 0 ∧ x.toNatClampNeg ≤ 65536 ∧ q = .inl (pc + 2, lv, .inr (some w.2.1) :: st0, jx_nw w (.inl (t, x.toNatClampNeg, .inl (fun _ => 0))) x.toNatClampNeg) := by
  unfold ja_na at h
  split at h
  · rename_i t ht
    split at h
    · rename_i x st0
      split at h
      · cases h
      · rename_i hx
        exact ⟨t, x, st0, ht, rfl, fun g => hx (Or.inl g), Nat.le_of_not_lt fun g => hx (Or.inr g), jx_go_some h⟩
    · cases h
  · cases h
theorem ja_ra_some {X : jx_X} {k pc : Nat} {lv : jx_L} {st : List jx_V} {w : jx_W} {q : jx_S ⊕ jx_T} (h : ja_ra X k pc lv st w = some q) : ∃ t x st0, jt_arr X.1 k = some t ∧ st = .inl x :: st0 ∧ ¬ x < 0 ∧ x.toNatClampNeg ≤ 65536 ∧ q = .inl (pc + 3, lv, .inr (some w.2.1) :: st0, jx_nw w (.inl (t, x.toNatClampNeg, .inr (fun _ => none))) x.toNatClampNeg) := by
  unfold ja_ra at h
  split at h
  · rename_i t ht
    split at h
    · rename_i x st0
      split at h
      · cases h
      · rename_i hx
        exact ⟨t, x, st0, ht, rfl, fun g => hx (Or.inl g), Nat.le_of_not_lt fun g => hx (Or.inr g), jx_go_some h⟩
    · cases h
  · cases h
theorem ja_nw_some {X : jx_X} {k pc : Nat} {lv : jx_L} {st : List jx_V} {w : jx_W} {q : jx_S ⊕ jx_T} (h : ja_nw X k pc lv st w = some q) : ∃ ci fs, jt_new X.1 k = some (ci, fs) ∧ q = .inl (pc + 3, lv, .inr (some w.2.1) :: st, jx_nw w (.inr (ci, fs)) fs.length) := by
  unfold ja_nw at h
  split at h
  · exact ⟨_, _, by assumption, jx_go_some h⟩
  · cases h
theorem jx_upd {f : Nat → Int32} {i : Nat} {x : Int32} : updV (fun j => Value.int (f j)) i (.int x) = fun j => Value.int (va_up f i x j) := by
  funext j
  by_cases hj : j = i
  · subst hj; simp [updV, va_up]
  · simp [updV, va_up, hj]
theorem jx_updq {f : Nat → Option Nat} {i : Nat} {r : Option Nat} : updV (fun j => va_rf (f j)) i (va_rf r) = fun j => va_rf (va_up f i r j) := by
  funext j
  by_cases hj : j = i
  · subst hj; simp [updV, va_up]
  · simp [updV, va_up, hj]
section JC
variable {p : Program} {l : Launch} {e : Env} {R : Room} {s : State} {m : MethodId} {args : Array Value} {below : List Frame} {meth : Method} {c : Code} {Qf : State → Prop}
variable {d b0 : Nat} {Z : jx_Sc} {D : va_G} {kA : Nat → ClassId} {X : jx_X} {t : jx_T} {pc n : Nat} {lv : jx_L} {st : List jx_V} {w : jx_W} {q : jx_S ⊕ jx_T}
theorem js_getfield {k : Nat} (hF : jx_Fx d b0 Z D kA X p R s m args meth c) (hd : decode X.2.1 pc = .ok (.getfield k, n)) (h : jx_k n 3 (ja_gf X k pc lv st w) = some q) (hq : jx_To p l e R s m args below meth c Qf b0 D kA X t q) : jx_Go p l e R s m args below meth c Qf b0 D kA X t pc lv st w := by
  obtain ⟨rfl, h⟩ := jx_k_some h
  obtain ⟨hx, hb, hml, hown, hts, -, hK, -⟩ := hF
  obtain ⟨ci, f, tk, pm, a, st0, v, hfl, rfl, hv, rfl⟩ := ja_gf_some h
  obtain ⟨C, T, N, ty, hc, hk, hC, hlink, -⟩ := jt_fld_ok hfl
  obtain ⟨fs, ha, hv⟩ := jx_gF_some hv
  exact jx_lift hq (fun ls H locs cells slots hl hR _ _ _ kk => va_get (D := D) hx hb hts hC.1 hown hK.1 (hR.one ha) 0 rfl hc f hk (hts _ hlink) (fun _ h => h) (by rw [List.getElem?_map, hv]; rfl) hd kk)
theorem js_putfield {k : Nat} (hF : jx_Fx d b0 Z D kA X p R s m args meth c) (hd : decode X.2.1 pc = .ok (.putfield k, n)) (h : jx_k n 3 (ja_pf X k pc lv st w) = some q) (hq : jx_To p l e R s m args below meth c Qf b0 D kA X t q) : jx_Go p l e R s m args below meth c Qf b0 D kA X t pc lv st w := by
  obtain ⟨rfl, h⟩ := jx_k_some h
  obtain ⟨hx, hb, hml, hown, hts, hini, hK, -⟩ := hF
  obtain ⟨ci, f, tk, pm, a, st0, v, w', hfl, rfl, hfk, hpm, hw, rfl⟩ := ja_pf_some h
  obtain ⟨C, T, N, ty, hc, hk, ⟨hin, hty, hnm⟩, hlink, htk, hp0, hp1⟩ := jt_fld_ok hfl
  dsimp only at hc hk hlink htk hp0 hp1
  obtain ⟨fs, ha, hl, rfl⟩ := jx_sF_some hw
  obtain ⟨hd2, hd3⟩ := jx_fit (ty := ty f) (v := v) (by rw [htk]; exact hfk)
  have hd1 := hty f hk
  refine jx_lifw hq ha (fun ls H locs cells slots hlv hR kk => ?_)
  have hap := va_apart (own := jt_cn X.1) hts hin ty hty hnm hK.1 hc
  obtain ⟨r, h1, cell, q1, q2, q3, q4⟩ := (hR.one ha) 0 _ rfl
  have hr : r = (C, T, N) := Option.some.inj (h1.symm.trans hc)
  subst hr
  obtain ⟨hS, hfc, kC, hkC, hkind⟩ := hK.1.1 ci _ hc
  obtain ⟨cf, kf, fi, fd, hi, hsl⟩ := hS f hk
  have hst := (u_facts hfc hkC (u_lays hts hin hk) hi).1
  have hlay := hts _ (hin _ (u_in_lay hk))
  have fin : ∀ H1 : Heap, H1[a]? = some (cell.setSlot fd.slot (jx_v v)) → va_at D jt_Cl (a, jx_e kA (.inr (ci, fs.set f v))) H1 := by
    intro H1 e1
    refine ⟨_, hc, t_OB.to (V := updV (vp_V (fs.map jx_v)) f (jx_v v)) ⟨_, e1, q2, q3, ?_⟩ (fun j _ => ?_)⟩
    · rw [hsl]; exact t_set q4 hap hk (jx_v v)
    · rw [vp_updV_set (by rw [List.length_map]; exact hl) (jx_v v) j, List.map_set]
  rcases hpm with hpm | ⟨hpm, hi2⟩
  · have hfin := hp0 hpm
    unfold u_lay at hlay
    rw [if_neg (by rw [hfin]; decide)] at hlay
    have h6 := u_store hfc hkC hkind hlay hi hd1 hd2 hd3
    exact W.putK hx hb (f := fd) ⟨hown, hts _ hlink, ⟨_, _, _, hi⟩, hst⟩ (by rw [q2]; exact h6) q1 q3 (by rw [hsl]; exact k2_hasslot (q4 f hk)) rfl rfl hd (fun H' e1 e2 e3 => kk H' _ (fin H' e1) e2 e3)
  · obtain ⟨hfin, hdecl⟩ := hp1 hpm
    unfold u_lay at hlay
    rw [if_pos hfin] at hlay
    have hcf : m.cls = cf := by
      obtain ⟨_, _, c', _, _, _, -, -, hf', -, -, -, hown2, -⟩ := Cond.laysFinal_spec hlay
      have e1 : c' = cf := by have := hi.symm.trans hf'; simp at this; exact this.1.symm
      rw [hdecl] at hown2
      rw [← e1]; exact Option.some.inj (hown.symm.trans hown2)
    have h6 := u_fits hfc hkC hkind (Or.inr hlay) hi hd1 hd2 hd3
    exact W.putFinK hx hb hown (hts _ hlink) hi hst hcf (hini hi2) (by rw [q2]; exact h6) q1 q3 (by rw [hsl]; exact k2_hasslot (q4 f hk)) rfl rfl hd (fun H' e1 e2 e3 => kk H' _ (fin H' e1) e2 e3)
theorem js_iaload (hF : jx_Fx d b0 Z D kA X p R s m args meth c) (hd : decode X.2.1 pc = .ok (.iaload, n)) (h : jx_k n 1 (ja_al Z 0 pc lv st w) = some q) (hq : jx_To p l e R s m args below meth c Qf b0 D kA X t q) : jx_Go p l e R s m args below meth c Qf b0 D kA X t pc lv st w := by
  obtain ⟨rfl, h⟩ := jx_k_some h
  obtain ⟨hx, hb, hml, hown, hts, -, hK, -, -, hb0, hX, hZ⟩ := hF
  obtain ⟨i, a, st0, x, rfl, hv, rfl⟩ := ja_al_some h
  rcases jx_gI_some hv with ⟨k, f, ha, hi, rfl⟩ | ⟨-, rfl, hi, rfl⟩
  · exact jx_lift hq (fun ls H locs cells slots hl hR _ _ _ kk => va_iald hx hb hK.1 (hR.one ha) 0 0 rfl rfl hi hd kk)
  · exact jx_lift hq (fun ls H locs cells slots hl hR hS _ _ kk => va_sld hx hb hX (Nat.lt_of_lt_of_le hZ hb0) (Nat.not_le.mpr hZ) hS hi hd kk)
theorem js_baload (hF : jx_Fx d b0 Z D kA X p R s m args meth c) (hd : decode X.2.1 pc = .ok (.baload, n)) (h : jx_k n 1 (ja_al Z 1 pc lv st w) = some q) (hq : jx_To p l e R s m args below meth c Qf b0 D kA X t q) : jx_Go p l e R s m args below meth c Qf b0 D kA X t pc lv st w := by
  obtain ⟨rfl, h⟩ := jx_k_some h
  obtain ⟨hx, hb, hml, hown, hts, -, hK, -, -, hb0, hX, hZ⟩ := hF
  obtain ⟨i, a, st0, x, rfl, hv, rfl⟩ := ja_al_some h
  rcases jx_gI_some hv with ⟨k, f, ha, hi, rfl⟩ | ⟨h0, -, -, -⟩
  · exact jx_lift hq (fun ls H locs cells slots hl hR _ _ _ kk => va_zald hx hb hK.1 (hR.one ha) 0 1 rfl rfl hi hd kk)
  · exact absurd h0 (by decide)
theorem js_iastore (hF : jx_Fx d b0 Z D kA X p R s m args meth c) (hd : decode X.2.1 pc = .ok (.iastore, n)) (h : jx_k n 1 (ja_as 0 pc lv st w) = some q) (hq : jx_To p l e R s m args below meth c Qf b0 D kA X t q) : jx_Go p l e R s m args below meth c Qf b0 D kA X t pc lv st w := by
  obtain ⟨rfl, h⟩ := jx_k_some h
  obtain ⟨hx, hb, hml, hown, hts, -, hK, -⟩ := hF
  obtain ⟨x, i, a, st0, w', rfl, -, hw, rfl⟩ := ja_as_some h
  obtain ⟨k, f, ha, hi, rfl⟩ := jx_sI_some hw
  refine jx_lifw hq ha (fun ls H locs cells slots hl hR kk => ?_)
  refine W.iast hx hb (hR.2.2 _ _ ha).2 ((hK.1.2 0 _ rfl).1 k (fun j => .int (f j))) (fun z => by cases z) (by show ¬ (i < 0 ∨ (arrV _ _ _).slots.size ≤ _); rw [arrV_size]; exact hi) rfl rfl hd fun H1 e1 z oq => kk H1 _ ?_ z oq
  show H1[a]? = some (vp_cell _ _)
  rw [e1, vp_cell_i, vp_cell_i, arrV_store, jx_upd]
theorem js_bastore (hF : jx_Fx d b0 Z D kA X p R s m args meth c) (hd : decode X.2.1 pc = .ok (.bastore, n)) (h : jx_k n 1 (ja_as 1 pc lv st w) = some q) (hq : jx_To p l e R s m args below meth c Qf b0 D kA X t q) : jx_Go p l e R s m args below meth c Qf b0 D kA X t pc lv st w := by
  obtain ⟨rfl, h⟩ := jx_k_some h
  obtain ⟨hx, hb, hml, hown, hts, -, hK, -⟩ := hF
  obtain ⟨x, i, a, st0, w', rfl, h01, hw, rfl⟩ := ja_as_some h
  obtain ⟨k, f, ha, hi, rfl⟩ := jx_sI_some hw
  have hn : narrow .boolean (.int x) = .int x := by
    rcases h01 with h0 | h0 | h0
    · exact absurd h0 (by decide)
    · subst h0; first | rfl | decide
    · subst h0; first | rfl | decide
  refine jx_lifw hq ha (fun ls H locs cells slots hl hR kk => ?_)
  refine W.zast hx hb (hR.2.2 _ _ ha).2 ((hK.1.2 1 _ rfl).1 k (fun j => .int (f j))) (fun z => by cases z) (by show ¬ (i < 0 ∨ (arrV _ _ _).slots.size ≤ _); rw [arrV_size]; exact hi) rfl rfl hd fun H1 e1 z oq => kk H1 _ ?_ z oq
  show H1[a]? = some (vp_cell _ _)
  rw [e1, vp_cell_i, vp_cell_i, hn, arrV_store, jx_upd]
theorem js_aaload (hF : jx_Fx d b0 Z D kA X p R s m args meth c) (hd : decode X.2.1 pc = .ok (.aaload, n)) (h : jx_k n 1 (ja_rl pc lv st w) = some q) (hq : jx_To p l e R s m args below meth c Qf b0 D kA X t q) : jx_Go p l e R s m args below meth c Qf b0 D kA X t pc lv st w := by
  obtain ⟨rfl, h⟩ := jx_k_some h
  obtain ⟨hx, hb, hml, hown, hts, -, hK, -⟩ := hF
  obtain ⟨i, a, st0, r, rfl, hv, rfl⟩ := ja_rl_some h
  obtain ⟨ty, k, f, ha, hel, hi, rfl⟩ := jx_gA_some hv
  obtain ⟨ci, hci⟩ := Option.isSome_iff_exists.mp hel
  have hC := (jt_el_ok (kA := kA) hci).1
  exact jx_lift hq (fun ls H locs cells slots hl hR _ _ _ kk => va_aldq hx hb hK.1 (hR.one ha) 0 ty rfl hC hi hd kk)
theorem js_aastore (hF : jx_Fx d b0 Z D kA X p R s m args meth c) (hd : decode X.2.1 pc = .ok (.aastore, n)) (h : jx_k n 1 (ja_rs pc lv st w) = some q) (hq : jx_To p l e R s m args below meth c Qf b0 D kA X t q) : jx_Go p l e R s m args below meth c Qf b0 D kA X t pc lv st w := by
  obtain ⟨rfl, h⟩ := jx_k_some h
  obtain ⟨hx, hb, hml, hown, hts, -, hK, -⟩ := hF
  obtain ⟨r, i, a, st0, w', rfl, hw, rfl⟩ := ja_rs_some h
  obtain ⟨ty, k, f, ha, hok, hi, rfl⟩ := jx_sA_some hw
  refine jx_lifw hq ha (fun ls H locs cells slots hl hR kk => ?_)
  cases r with
  | none =>
    obtain ⟨ci, hci⟩ := Option.isSome_iff_exists.mp (show (jt_el ty).isSome = true from hok)
    have hC := (jt_el_ok (kA := kA) hci).1
    refine va_WaastN (C := jt_cn ci) hx hb (hR.2.2 _ _ ha).2 ((hK.1.2 ty _ hC).1 k (fun j => va_rf (f j))) (fun z => by cases z) (by show ¬ (i < 0 ∨ (arrV _ _ _).slots.size ≤ _); rw [arrV_size]; exact hi) rfl rfl hd fun H1 e1 z oq => kk H1 _ ?_ z oq
    show H1[a]? = some (vp_cell _ _)
    rw [e1, vp_cell_q, vp_cell_q, show Value.null = va_rf none from rfl, arrV_store, jx_updq]
  | some v =>
    obtain ⟨ci, fs, hv, hci⟩ := jx_ok_some hok
    obtain ⟨hC, T, N, hcl⟩ := jt_el_ok (kA := kA) hci
    have hlt : i.toNatClampNeg < k := Nat.not_le.mp fun q => hi (Or.inr q)
    have h0 : ¬ i < 0 := fun q => hi (Or.inl q)
    obtain ⟨r', hr', cellV, g1, g2, g3, -⟩ := (hR.one hv) 0 _ rfl
    have hcls := (hK.1.1 ci _ hcl).2
    obtain ⟨kA', comp, k1, k2, k3, -⟩ := (hK.1.2 ty _ hC).2
    have hcomp : comp = D.1 ci := Option.some.inj (k3.symm.trans hcls.1)
    subst hcomp
    obtain ⟨kC, hkC, -⟩ := hcls.2
    refine W.aast hx hb (hR.2.2 _ _ ha).2 (fun q h => by cases h) (fun h => by cases h) k1 k2 rfl hkC ⟨h0, by show _ < (arrV _ _ _).slots.size; rw [arrV_size]; exact hlt⟩ g1 (fun q h => by rw [g3] at h; cases h) (by rw [g2]; exact hkC) (by rw [g2]; exact va_assign hcls) rfl rfl hd fun H1 e1 z oq => kk H1 _ ?_ z oq
    show H1[a]? = some (vp_cell _ _)
    rw [e1, vp_cell_q, vp_cell_q, show Value.ref v = va_rf (some v) from rfl, arrV_store, jx_updq]
theorem js_arraylength (hF : jx_Fx d b0 Z D kA X p R s m args meth c) (hd : decode X.2.1 pc = .ok (.arraylength, n)) (h : jx_k n 1 (ja_len Z pc lv st w) = some q) (hq : jx_To p l e R s m args below meth c Qf b0 D kA X t q) : jx_Go p l e R s m args below meth c Qf b0 D kA X t pc lv st w := by
  obtain ⟨rfl, h⟩ := jx_k_some h
  obtain ⟨hx, hb, hml, hown, hts, -, hK, -, -, hb0, hX, hZ⟩ := hF
  obtain ⟨a, st0, k, rfl, hv, rfl⟩ := ja_len_some h
  rcases jx_gL_some hv with ⟨ty, x, ha, hty⟩ | ⟨rfl, rfl⟩
  · obtain ⟨FT, hFT⟩ := jt_tys_ok (kA := kA) hty
    rcases x with f | f
    · exact jx_lift hq (fun ls H locs cells slots hl hR _ _ _ kk => va_alen hx hb hK.1 (hR.one ha) 0 ty (x := (k, .inl f)) rfl hFT rfl hd kk)
    · exact jx_lift hq (fun ls H locs cells slots hl hR _ _ _ kk => va_alen hx hb hK.1 (hR.one ha) 0 ty (x := (k, .inr (.inr (.inr (.inr f))))) rfl hFT rfl hd kk)
  · exact jx_lift hq (fun ls H locs cells slots hl hR hS _ _ kk => va_slen hx hb hX (Nat.lt_of_lt_of_le hZ hb0) (Nat.not_le.mpr hZ) hS hd kk)
theorem js_newarray {ty : ArrayType} (hF : jx_Fx d b0 Z D kA X p R s m args meth c) (hd : decode X.2.1 pc = .ok (.newarray ty, n)) (h : jx_k n 2 (ja_na ty pc lv st w) = some q) (hq : jx_To p l e R s m args below meth c Qf b0 D kA X t q) : jx_Go p l e R s m args below meth c Qf b0 D kA X t pc lv st w := by
  obtain ⟨rfl, h⟩ := jx_k_some h
  obtain ⟨hx, hb, hml, hown, hts, -, hK, -⟩ := hF
  obtain ⟨ta, x, st0, hta, rfl, hx0, hx1, rfl⟩ := ja_na_some h
  have key : (Cond.arrayClass (newarray.typeOf ty)).before args s = true ∧ (jt_tys kA)[ta]? = some (kA ta, newarray.typeOf ty) ∧ componentBytes (newarray.typeOf ty) ≤ 4 ∧ defaultValue (newarray.typeOf ty) = .int 0 ∧ va_RA s (kA ta) (newarray.typeOf ty) = (s.vm.findClass ("[" ++ (newarray.typeOf ty).toString) = some (kA ta)) := by
    cases ty with
    | int => cases hta; exact ⟨hts _ jt_ac.1, rfl, by decide, rfl, rfl⟩
    | boolean => cases hta; exact ⟨hts _ jt_ac.2, rfl, by decide, rfl, rfl⟩
    | _ => cases hta
  obtain ⟨k1, k2, k3, k4, k5⟩ := key
  have hRA := (hK.1.2 ta _ k2).2
  dsimp only at hRA
  rw [k5] at hRA
  refine jx_lifn hq (fun ls H locs cells slots hlv hz hc1 hs1 kk => ?_)
  refine va_newaK hx hb k1 rfl hd rfl hx0 rfl (Nat.le_trans (Nat.mul_le_mul hx1 k3) (by decide)) hc1 hs1 rfl fun H1 cA e1 z1 o1 _ hfc => ?_
  have hcA : cA = kA ta := Option.some.inj (hfc.symm.trans hRA)
  subst hcA
  have := kk H1 (by show H1[H.size]? = some (vp_cell _ _); rw [e1, k4]; rfl) z1 o1
  rw [← hz] at this
  exact this
theorem js_anewarray {k : Nat} (hF : jx_Fx d b0 Z D kA X p R s m args meth c) (hd : decode X.2.1 pc = .ok (.anewarray k, n)) (h : jx_k n 3 (ja_ra X k pc lv st w) = some q) (hq : jx_To p l e R s m args below meth c Qf b0 D kA X t q) : jx_Go p l e R s m args below meth c Qf b0 D kA X t pc lv st w := by
  obtain ⟨rfl, h⟩ := jx_k_some h
  obtain ⟨hx, hb, hml, hown, hts, -, hK, -⟩ := hF
  obtain ⟨ta, x, st0, hta, rfl, hx0, hx1, rfl⟩ := ja_ra_some h
  obtain ⟨ci, hcl, hel, hao⟩ := jt_arr_ok hta
  have hC := (jt_el_ok (kA := kA) hel).1
  refine jx_lifn hq (fun ls H locs cells slots hlv hz hc1 hs1 kk => ?_)
  refine W.anew hx hb hown (hts _ hcl) (va_AO.use (hK.2.2 _ hao)) rfl hd rfl hx0 (Nat.le_trans (Nat.mul_le_mul hx1 (Nat.le_refl 4)) (by decide)) hc1 hs1 fun cA kA' comp f1 f2 f3 f4 => ?_
  obtain ⟨kA2, comp2, r1, r2, r3, r4⟩ := (hK.1.2 ta _ hC).2
  have hcA : cA = kA ta := Option.some.inj (f1.symm.trans r4)
  subst hcA
  have := kk (H.push { cls := kA ta, slots := Array.replicate x.toNatClampNeg .null, vm := .none }) (by show (H.push _)[H.size]? = some (vp_cell _ _); rw [Array.getElem?_push_size, arrV_new, vp_cell_q]; rfl) (by rw [Array.size_push]) (fun q hq => by rw [Array.getElem?_push, if_neg (Nat.ne_of_lt hq)])
  rw [← hz] at this
  exact this
theorem js_new {k : Nat} (hF : jx_Fx d b0 Z D kA X p R s m args meth c) (hd : decode X.2.1 pc = .ok (.new k, n)) (h : jx_k n 3 (ja_nw X k pc lv st w) = some q) (hq : jx_To p l e R s m args below meth c Qf b0 D kA X t q) : jx_Go p l e R s m args below meth c Qf b0 D kA X t pc lv st w := by
  obtain ⟨rfl, h⟩ := jx_k_some h
  obtain ⟨hx, hb, hml, hown, hts, -, hK, -⟩ := hF
  obtain ⟨ci, fs, hn, rfl⟩ := ja_nw_some h
  obtain ⟨hcl, T, N, ty, hc, ⟨hin, hty, -⟩, hinst, hini, hl, hfs⟩ := jt_new_ok hn
  refine jx_lifn hq (fun ls H locs cells slots hlv hz hc1 hs1 kk => ?_)
  have hKn := hK.1.1 ci _ hc
  rw [hl] at hs1 kk
  refine W.newcK hx hb hown (hts _ hcl) (hts _ hinst) (hts _ hini) rfl hd hc1 hs1 hKn.2.1 rfl fun H1 kC hkC e1 z1 o1 => ?_
  have := kk H1 ⟨_, hc, (u_born ty hts hin hKn hkC e1 hty).to hfs⟩ z1 o1
  rw [← hz] at this
  exact this
end JC
end
section
/-! calls -/
theorem jx_cl_some {call : jx_C} {qq : Nat × Nat × Nat} {pc : Nat} {lv : jx_L} {st : List jx_V} {w : jx_W} {q : jx_S ⊕ jx_T} (h : jx_cl call qq pc lv st w = some q) : ∃ t1, qq.2.2 ≤ st.length ∧ (st.drop qq.2.2).length ≤ 8 ∧ call qq.2.1 (st.take qq.2.2).reverse w = some t1 ∧ q = .inl (pc + 3, lv, t1.1.toList ++ st.drop qq.2.2, t1.2) := by
  unfold jx_cl at h
  split at h
  · rename_i hh
    split at h
    · rename_i t1 ht
      exact ⟨t1, hh.1, hh.2, ht, jx_go_some h⟩
    · cases h
  · cases h
theorem jx_rv_some {qq : Nat × Nat × Nat} {st : List jx_V} {a : Nat} (h : jx_rv qq st = some a) : st[qq.2.2 - 1]? = some (.inr (some a)) := by
  unfold jx_rv at h
  split at h
  · rename_i b hb
    cases h
    exact hb
  · cases h
theorem jx_is_some {w : jx_W} {a ci : Nat} (h : jx_is w a ci = true) : ∃ fs, w.1 a = some (.inr (ci, fs)) := by
  unfold jx_is at h
  split at h
  · rename_i c0 fs hc
    have : c0 = ci := by simpa using h
    subst this
    exact ⟨fs, hc⟩
  · cases h
/-- the stack at a call on an object -/
theorem jx_stk {st : List jx_V} {n a : Nat} (h : st[n]? = some (.inr (some a))) : (st.take (n + 1)).reverse = .inr (some a) :: (st.take n).reverse ∧ st = st.take n ++ .inr (some a) :: st.drop (n + 1) := by
  have h1 : st.take (n + 1) = st.take n ++ [.inr (some a)] := by rw [List.take_add_one, h]; rfl
  refine ⟨by rw [h1, List.reverse_append]; rfl, ?_⟩
  have h2 := List.take_append_drop (n + 1) st
  rw [h1, List.append_assoc] at h2
  exact h2.symm
theorem jx_gw {w : Cond} (h : goodWord w = true) : (w.onTables && w.keeps) = true ∨ ∃ ty, w = .arrayClass ty := by
  unfold goodWord at h
  split at h
  · exact Or.inr ⟨_, rfl⟩
  · exact Or.inl h
theorem jx_gi {ws : List Cond} (h : ∀ w ∈ ws, w ∈ jt_G) : GoodIn jt_G ws := fun w hw => ⟨h w hw, jx_gw (jt_good w (h w hw))⟩
theorem jx_in1 {w : Cond} {ws : List Cond} (h : w ∈ jt_G) (h2 : ∀ x ∈ ws, x ∈ jt_G) : ∀ x ∈ w :: ws, x ∈ jt_G := List.forall_mem_cons.mpr ⟨h, h2⟩
/-- what a call of method k with these values from this world comes to: its contract -/
def jx_Met (l : Launch) (d b0 : Nat) (Z : jx_Sc) (D : va_G) (kA : Nat → ClassId) (k : Nat) (as : List jx_V) (w : jx_W) (t : jx_T) : Prop :=
  w.2.1 ≤ t.2.2.1 ∧ w.2.2 ≤ t.2.2.2 ∧ ∀ (y : MethodName) (X : jx_X) (n : Nat), jt_M k = some (y, X, n) →
    Met l y (Cond.code y X.2.1 X.2.2.1 X.2.2.2.1 :: jt_G) { frames := d, cells := t.2.2.1 - w.2.1, slots := t.2.2.2 - w.2.2, locals := 38 * d } (va_Pc (as.map jx_v) (jx_B b0 Z D kA w)) (jx_Q b0 D kA t) (t.2.2.1 - w.2.1) (t.2.2.2 - w.2.2) (fun a => b0 ≤ a)
section JD
variable {p : Program} {l : Launch} {e : Env} {R : Room} {s : State} {m : MethodId} {args : Array Value} {below : List Frame} {meth : Method} {c : Code} {Qf : State → Prop}
variable {d b0 : Nat} {Z : jx_Sc} {D : va_G} {kA : Nat → ClassId} {X : jx_X} {t : jx_T} {pc n : Nat} {lv : jx_L} {st : List jx_V} {w : jx_W} {q : jx_S ⊕ jx_T} {call : jx_C}
/-- behind a call -/
theorem jx_after {H : Heap} {locs : List Loc} {cells slots mc ms : Nat} {ls : Array Slot} {st0 rest : List Value} {a : Array Value} {t1 : jx_T}
    (hr : va_Run p l e R s m args below meth c H locs cells slots mc ms (F0 m pc ls st0) rest (jx_Q b0 D kA t1 a) (fun a => b0 ≤ a)) (hS : va_S (fun a => b0 ≤ a) s.heap H locs)
    (kk : ∀ (H1 : Heap) (locs1 : List Loc), jx_R b0 D kA t1.2 H1 → va_S (fun a => b0 ≤ a) s.heap H1 locs1 → W p l e R s m args below meth c H1 locs1 (cells + mc) (slots + ms) Qf (F0 m (pc + 3) ls ((t1.1.map jx_v).toList ++ rest))) : W p l e R s m args below meth c H locs cells slots Qf (F0 m pc ls st0) := by
  intro T hT X'
  obtain ⟨v, st₀, u, T', L, h0, Y, hL, e1, e2, ⟨hv, hp, hz, hk⟩, go⟩ := hr T hT X'
  have hv : v = t1.1.map jx_v := by cases hv; rfl
  subst hv
  rw [h0] at hz hk
  obtain ⟨t2, a1, b1⟩ := kk T'.heap (locs ++ L) (by rw [e1]; exact hp)
    ⟨Nat.le_trans hS.1 (by rw [e1]; exact hz), fun x h1 h2 => by rw [e1, hk x (Nat.lt_of_lt_of_le h1 hS.1) h2]; exact hS.2.1 x h1 h2, fun x hx => by
      rcases List.mem_append.mp hx with h | h
      · exact hS.2.2 x h
      · exact hL x h⟩ T' rfl Y
  exact ⟨t2, go t2 a1, b1⟩
/-- a row that calls -/
theorem jx_lifc {st' : List jx_V} {t1 : jx_T} (hG : jx_To p l e R s m args below meth c Qf b0 D kA X t (.inl (pc + 3, lv, t1.1.toList ++ st', t1.2))) (h1 : w.2.1 ≤ t1.2.2.1) (h2 : w.2.2 ≤ t1.2.2.2)
    (hrow : ∀ (ls : Array Slot) (H : Heap) (locs : List Loc) (cells slots : Nat), lv_has ls X.2.2.1 (jx_ps 0 lv) → jx_R b0 D kA w H → va_S (fun a => b0 ≤ a) s.heap H locs → cells + (t1.2.2.1 - w.2.1) ≤ R.cells ∧ slots + (t1.2.2.2 - w.2.2) ≤ R.slots → ∃ a, va_Run p l e R s m args below meth c H locs cells slots (t1.2.2.1 - w.2.1) (t1.2.2.2 - w.2.2) (F0 m pc ls (st.map jx_v)) (st'.map jx_v) (jx_Q b0 D kA t1 a) (fun a => b0 ≤ a)) :
    jx_Go p l e R s m args below meth c Qf b0 D kA X t pc lv st w := by
  have g1 : t1.2.2.1 ≤ t.2.2.1 := hG.1
  have g2 : t1.2.2.2 ≤ t.2.2.2 := hG.2.1
  refine ⟨Nat.le_trans h1 g1, Nat.le_trans h2 g2, fun ls H locs cells slots hl hR hS hc hs => ?_⟩
  obtain ⟨a, hr⟩ := hrow ls H locs cells slots hl hR hS ⟨by omega, by omega⟩
  refine jx_after hr hS (fun H1 locs1 k1 k2 => ?_)
  have hk := hG.2.2 ls H1 locs1 (cells + (t1.2.2.1 - w.2.1)) (slots + (t1.2.2.2 - w.2.2)) hl k1 k2 (by show cells + (t1.2.2.1 - w.2.1) + (t.2.2.1 - t1.2.2.1) = R.cells; omega) (by show slots + (t1.2.2.2 - w.2.2) + (t.2.2.2 - t1.2.2.2) = R.slots; omega)
  have e1 : (t1.1.toList ++ st').map jx_v = (t1.1.map jx_v).toList ++ st'.map jx_v := by
    rw [List.map_append]
    cases t1.1 <;> rfl
  dsimp only at hk
  rw [e1] at hk
  exact hk
/-- what a callee is given -/
theorem jx_pre (hF : jx_Fx d b0 Z D kA X p R s m args meth c) {H : Heap} {locs : List Loc} (hR : jx_R b0 D kA w H) (hS : va_S (fun a => b0 ≤ a) s.heap H locs) {av : List Value} : PreS s H (va_Pc av (jx_B b0 Z D kA w)) av := by
  obtain ⟨-, -, -, -, -, -, hK, -, -, hb0, hX, hZ⟩ := hF
  refine ⟨jx_blind, fun U hU hW => ?_⟩
  subst hU
  exact ⟨rfl, hR, hK.moved hW, (hX.kept (hS.2.1 Z.1 (Nat.lt_of_lt_of_le hZ hb0) (Nat.not_le.mpr hZ))).moved hW.alike⟩
theorem js_static {qq : Nat × Nat × Nat} {k : Nat} (hF : jx_Fx d b0 Z D kA X p R s m args meth c) (hC : ∀ k as w t1, call k as w = some t1 → jx_Met l d b0 Z D kA k as w t1) (hd : decode X.2.1 pc = .ok (.invokestatic k, 3)) (hS0 : jt_SP ((X.1, k), qq)) (h : jx_cl call qq pc lv st w = some q) (hq : jx_To p l e R s m args below meth c Qf b0 D kA X t q) : jx_Go p l e R s m args below meth c Qf b0 D kA X t pc lv st w := by
  obtain ⟨t1, hlen, h8, hcall, rfl⟩ := jx_cl_some h
  obtain ⟨y, X', hM, hst, hdesc, hkind⟩ := hS0
  dsimp only at hM hdesc hkind
  obtain ⟨m1, m2, hmet⟩ := hC _ _ _ _ hcall
  have hmet := hmet y X' _ hM
  obtain ⟨-, hyc, -, hcode, hini, hcls, hml', -⟩ := jt_M_ok _ (List.mem_of_getElem? hM)
  dsimp only at hyc hcode hini hcls hml'
  have hF0 := hF
  obtain ⟨hx, hb, hml, hown, hts, -, hK, hfr, hlo, -⟩ := hF
  have hws : ∀ x ∈ Cond.code y X'.2.1 X'.2.2.1 X'.2.2.2.1 :: jt_G, x ∈ jt_G := jx_in1 hcode (fun _ h => h)
  refine jx_lifc hq m1 m2 (fun ls H locs cells slots hl hR hS hcs => ?_)
  have hAs : ((st.take qq.2.2).reverse.map jx_v).length = qq.2.2 := by rw [List.length_map, List.length_reverse, List.length_take]; omega
  have hstk : st.map jx_v = ((st.take qq.2.2).reverse.map jx_v).reverse ++ (st.drop qq.2.2).map jx_v := by rw [← List.map_reverse, List.reverse_reverse, ← List.map_append, List.take_append_drop]
  have h8' : (((st.drop qq.2.2).map jx_v).map fun v => v.category).sum ≤ 8 := by rw [jx_sum]; exact h8
  rcases hkind with ⟨-, hyo, hlink⟩ | ⟨-, host, hlink⟩
  · have cw := cwS (R := R) (own := jt_cn X.1) (index := k) (y := y) (bytes := X'.2.1) (maxL := X'.2.2.1) (ret := X'.2.2.2.1) (rm := { frames := d, cells := t1.2.2.1 - w.2.1, slots := t1.2.2.2 - w.2.2, locals := 38 * d }) qq.2.2 hts (jx_gi (jx_in1 hlink (jx_in1 hst (jx_in1 (by rw [← hyo]; exact hini) hws)))) rfl rfl rfl ⟨hyo, hcls.1, hcls.2, hdesc⟩ ⟨hfr, by show 8 + (X'.2.2.1 + 11) + 38 * d ≤ R.locals; omega⟩
    exact ⟨_, va_runS ⟨hx, hb, hml, hown, hts⟩ hmet cw (jx_pre hF0 hR hS) rfl hAs hl.1 hstk (lv_room h8') hd hcs⟩
  · have cw := va_cnB (R := R) (own := jt_cn X.1) (index := k) (y := y) (bytes := X'.2.1) (maxL := X'.2.2.1) (ret := X'.2.2.2.1) (rm := { frames := d, cells := t1.2.2.1 - w.2.1, slots := t1.2.2.2 - w.2.2, locals := 38 * d }) qq.2.2 hts (jx_gi hws) rfl rfl rfl (hK.2.1 _ hlink) (hts _ hini) ⟨hcls.1, hcls.2, hdesc⟩ ⟨hfr, by show 8 + (X'.2.2.1 + 11) + 38 * d ≤ R.locals; omega⟩
    exact ⟨_, va_runSN ⟨hx, hb, hml, hown, hts⟩ hmet ⟨cw, hts _ hst, trivial⟩ (jx_pre hF0 hR hS) rfl hAs hl.1 hstk (lv_room h8') hd hcs⟩
theorem ja_is_some {k : Nat} (h : ja_is call X k pc lv st w = some q) : (∃ qq, jt_ms X.1 k = some (.inl qq) ∧ jx_cl call qq pc lv st w = some q) ∨ ∃ b x y st0, jt_ms X.1 k = some (.inr b) ∧ st = .inl y :: .inl x :: st0 ∧ st0.length ≤ 8 ∧ q = .inl (pc + 3, lv, .inl (if b = true then (if x < y then y else x) else (if y < x then y else x)) :: st0, w) := by
  unfold ja_is at h
  split at h
  · exact Or.inl ⟨_, by assumption, h⟩
  · rename_i b hb
    split at h
    · split at h
      · exact Or.inr ⟨b, _, _, _, hb, rfl, by assumption, jx_go_some h⟩
      · cases h
    · cases h
  · cases h
theorem js_invokestatic {k : Nat} (hF : jx_Fx d b0 Z D kA X p R s m args meth c) (hC : ∀ k as w t1, call k as w = some t1 → jx_Met l d b0 Z D kA k as w t1) (hd : decode X.2.1 pc = .ok (.invokestatic k, n)) (h : jx_k n 3 (ja_is call X k pc lv st w) = some q) (hq : jx_To p l e R s m args below meth c Qf b0 D kA X t q) : jx_Go p l e R s m args below meth c Qf b0 D kA X t pc lv st w := by
  obtain ⟨rfl, h⟩ := jx_k_some h
  rcases ja_is_some h with ⟨qq, hm, h⟩ | ⟨b, x, y, st0, hm, rfl, h8, rfl⟩
  · exact js_static hF hC hd (jt_ms_l hm) h hq
  · have hl := jt_ms_r hm
    obtain ⟨hx, hb, hml, hown, hts, -, hK, hfr, hlo, -⟩ := hF
    have h8' : ((st0.map jx_v).map fun v => v.category).sum + 13 ≤ R.locals := by rw [jx_sum]; omega
    cases b with
    | true =>
      have hl : Cond.methodLink (jt_cn X.1) k Lib.Math.max.name ∈ jt_G := hl
      rw [if_pos rfl] at hq
      exact jx_lift hq (fun ls H locs cells slots hlv hR _ hc hs kk => va_mmax hx hb (hml.trans hlv.1.symm) hown (hts _ hl) (hts _ jt_max.1) (hts _ jt_max.2.1) (hts _ jt_max.2.2) (by omega) h8' hc hs hd kk)
    | false =>
      have hl : Cond.methodLink (jt_cn X.1) k Lib.Math.min.name ∈ jt_G := hl
      rw [if_neg (by decide)] at hq
      exact jx_lift hq (fun ls H locs cells slots hlv hR _ hc hs kk => va_mmin hx hb (hml.trans hlv.1.symm) hown (hts _ hl) (hts _ jt_min.1) (hts _ jt_max.2.1) (hts _ jt_min.2) (by omega) h8' hc hs hd kk)
theorem ja_iv_some {k : Nat} (h : ja_iv call X k pc lv st w = some q) : ∃ qq ci a, jt_mv X.1 k = some (qq, ci) ∧ jx_rv qq st = some a ∧ jx_is w a ci = true ∧ jx_cl call qq pc lv st w = some q := by
  unfold ja_iv at h
  split at h
  · rename_i qq ci hm
    split at h
    · rename_i a ha
      split at h
      · exact ⟨qq, ci, a, hm, ha, by assumption, h⟩
      · cases h
    · cases h
  · cases h
theorem js_invokevirtual {k : Nat} (hF : jx_Fx d b0 Z D kA X p R s m args meth c) (hC : ∀ k as w t1, call k as w = some t1 → jx_Met l d b0 Z D kA k as w t1) (hd : decode X.2.1 pc = .ok (.invokevirtual k, n)) (h : jx_k n 3 (ja_iv call X k pc lv st w) = some q) (hq : jx_To p l e R s m args below meth c Qf b0 D kA X t q) : jx_Go p l e R s m args below meth c Qf b0 D kA X t pc lv st w := by
  obtain ⟨rfl, h⟩ := jx_k_some h
  obtain ⟨qq, ci, a, hm, ha, his, h⟩ := ja_iv_some h
  obtain ⟨t1, hlen, h8, hcall, rfl⟩ := jx_cl_some h
  obtain ⟨y, X', n', hM, hnp, hyc0, hci, hdesc, hlink, hinst, hsel⟩ := jt_mv_ok hm
  dsimp only at hM hnp hyc0 hci hdesc hlink hinst hsel
  have ha := jx_rv_some ha
  rw [hnp] at hcall hlen h8 hq ha
  rw [Nat.add_sub_cancel] at ha
  obtain ⟨hs1, hs2⟩ := jx_stk ha
  obtain ⟨fs, hcell⟩ := jx_is_some his
  obtain ⟨m1, m2, hmet⟩ := hC _ _ _ _ hcall
  have hmet := hmet y X' _ hM
  rw [hs1, List.map_cons] at hmet
  obtain ⟨-, hyc, -, hcode, hini, hcls, hml', -⟩ := jt_M_ok _ (List.mem_of_getElem? hM)
  dsimp only at hyc hcode hini hcls hml'
  have hF0 := hF
  obtain ⟨hx, hb, hml, hown, hts, -, hK, hfr, hlo, -⟩ := hF
  have hws : ∀ x ∈ Cond.code y X'.2.1 X'.2.2.1 X'.2.2.2.1 :: jt_G, x ∈ jt_G := jx_in1 hcode (fun _ h => h)
  refine jx_lifc hq m1 m2 (fun ls H locs cells slots hl hR hS hcs => ?_)
  have hAs : ((st.take n').reverse.map jx_v).length = n' := by rw [List.length_map, List.length_reverse, List.length_take]; omega
  have hstk : st.map jx_v = ((st.take n').reverse.map jx_v).reverse ++ .ref a :: (st.drop (n' + 1)).map jx_v := by
    rw [← List.map_reverse, List.reverse_reverse]
    conv => lhs; rw [hs2]
    rw [List.map_append]
    rfl
  have h8' : (((st.drop (n' + 1)).map jx_v).map fun v => v.category).sum ≤ 8 := by rw [jx_sum]; exact h8
  obtain ⟨T, N, ty, hc, -⟩ := jt_D_ok ci hci
  have hrv := va_recv hK.1 (hR.one hcell) hc (q0 := 0) rfl
  rw [← hyc0] at hrv
  have hp := jx_pre (av := .ref a :: (st.take n').reverse.map jx_v) hF0 hR hS
  have cw := cwV (R := R) (own := jt_cn X.1) (C := y.cls) (index := k) (y := y) (bytes := X'.2.1) (maxL := X'.2.2.1) (ret := X'.2.2.2.1) (rm := { frames := d, cells := t1.2.2.1 - w.2.1, slots := t1.2.2.2 - w.2.2, locals := 38 * d }) n' hts (jx_gi (jx_in1 hlink (jx_in1 hinst (jx_in1 hsel (jx_in1 hini hws))))) rfl rfl rfl ⟨rfl, hcls.1, hcls.2, hdesc⟩ ⟨hfr, by show 8 + (X'.2.2.1 + 11) + 38 * d ≤ R.locals; omega⟩
  exact ⟨_, va_runV ⟨hx, hb, hml, hown, hts⟩ hmet cw ⟨hp.1, hrv, hp.2⟩ rfl hAs hl.1 hstk (lv_room h8') hd hcs⟩
theorem ja_in_some {k : Nat} (h : ja_in call X k pc lv st w = some q) : (∃ qq a, jt_mi X.1 k = some (some qq) ∧ jx_rv qq st = some a ∧ jx_cl call qq pc lv st w = some q) ∨ ∃ a st0, jt_mi X.1 k = some none ∧ st = .inr (some a) :: st0 ∧ st0.length ≤ 8 ∧ q = .inl (pc + 3, lv, st0, w) := by
  unfold ja_in at h
  split at h
  · rename_i qq hm
    split at h
    · rename_i a ha
      exact Or.inl ⟨qq, a, hm, ha, h⟩
    · cases h
  · rename_i hm
    split at h
    · split at h
      · exact Or.inr ⟨_, _, hm, rfl, by assumption, jx_go_some h⟩
      · cases h
    · cases h
  · cases h
theorem js_invokespecial {k : Nat} (hF : jx_Fx d b0 Z D kA X p R s m args meth c) (hC : ∀ k as w t1, call k as w = some t1 → jx_Met l d b0 Z D kA k as w t1) (hd : decode X.2.1 pc = .ok (.invokespecial k, n)) (h : jx_k n 3 (ja_in call X k pc lv st w) = some q) (hq : jx_To p l e R s m args below meth c Qf b0 D kA X t q) : jx_Go p l e R s m args below meth c Qf b0 D kA X t pc lv st w := by
  obtain ⟨rfl, h⟩ := jx_k_some h
  rcases ja_in_some h with ⟨qq, a, hm, ha, h⟩ | ⟨a, st0, hm, rfl, h8, rfl⟩
  · obtain ⟨t1, hlen, h8, hcall, rfl⟩ := jx_cl_some h
    obtain ⟨y, X', n', hM, hnp, hy1, hret, hdesc, hinst, hkind⟩ := jt_mi_ok hm
    have ha := jx_rv_some ha
    rw [hnp] at hcall hlen h8 hq ha
    rw [Nat.add_sub_cancel] at ha
    obtain ⟨hs1, hs2⟩ := jx_stk ha
    obtain ⟨m1, m2, hmet⟩ := hC _ _ _ _ hcall
    have hmet := hmet y X' _ hM
    rw [hs1, List.map_cons, hret] at hmet
    obtain ⟨-, hyc, -, hcode, hini, hcls, hml', -⟩ := jt_M_ok _ (List.mem_of_getElem? hM)
    dsimp only at hyc hcode hini hcls hml'
    rw [hret] at hcode
    have hF0 := hF
    obtain ⟨hx, hb, hml, hown, hts, -, hK, hfr, hlo, -⟩ := hF
    have hws : ∀ x ∈ Cond.code y X'.2.1 X'.2.2.1 none :: jt_G, x ∈ jt_G := jx_in1 hcode (fun _ h => h)
    refine jx_lifc hq m1 m2 (fun ls H locs cells slots hl hR hS hcs => ?_)
    have hAs : ((st.take n').reverse.map jx_v).length = n' := by rw [List.length_map, List.length_reverse, List.length_take]; omega
    have hstk : st.map jx_v = ((st.take n').reverse.map jx_v).reverse ++ .ref a :: (st.drop (n' + 1)).map jx_v := by
      rw [← List.map_reverse, List.reverse_reverse]
      conv => lhs; rw [hs2]
      rw [List.map_append]
      rfl
    have h8' : (((st.drop (n' + 1)).map jx_v).map fun v => v.category).sum ≤ 8 := by rw [jx_sum]; exact h8
    have hp := jx_pre (av := .ref a :: (st.take n').reverse.map jx_v) hF0 hR hS
    rcases hkind with ⟨-, hlink⟩ | ⟨-, host, hlink⟩
    · have cw := cwI (R := R) (own := jt_cn X.1) (index := k) (y := y) (bytes := X'.2.1) (maxL := X'.2.2.1) (rm := { frames := d, cells := t1.2.2.1 - w.2.1, slots := t1.2.2.2 - w.2.2, locals := 38 * d }) n' hts (jx_gi hws) rfl rfl rfl (hts _ hini) (hts _ hlink) (hts _ hinst) hy1 ⟨hcls.1, hcls.2, hdesc⟩ ⟨hfr, by show 8 + (X'.2.2.1 + 11) + 38 * d ≤ R.locals; omega⟩
      exact ⟨_, va_runI ⟨hx, hb, hml, hown, hts⟩ hmet cw hp rfl hAs hl.1 hstk (lv_room h8') hd hcs⟩
    · have cw := va_cnB (R := R) (own := jt_cn X.1) (index := k) (y := y) (bytes := X'.2.1) (maxL := X'.2.2.1) (ret := none) (rm := { frames := d, cells := t1.2.2.1 - w.2.1, slots := t1.2.2.2 - w.2.2, locals := 38 * d }) n' hts (jx_gi hws) rfl rfl rfl (hK.2.1 _ hlink) (hts _ hini) ⟨hcls.1, hcls.2, hdesc⟩ ⟨hfr, by show 8 + (X'.2.2.1 + 11) + 38 * d ≤ R.locals; omega⟩
      exact ⟨_, va_runIN ⟨hx, hb, hml, hown, hts⟩ hmet ⟨cw, hy1, hts _ hinst⟩ hp rfl hAs hl.1 hstk (lv_room h8') hd hcs⟩
  · have hl := jt_mi_o hm
    obtain ⟨hx, hb, hml, hown, hts, -, hK, hfr, hlo, -⟩ := hF
    have h8' : ((st0.map jx_v).map fun v => v.category).sum ≤ 8 := by rw [jx_sum]; exact h8
    exact jx_lift hq (fun ls H locs cells slots hlv hR _ _ _ kk => W.objInit hx hb hown (hts _ hl) (hts _ jt_obj.1) (hts _ jt_obj.2) rfl (hlv.1.trans hml.symm) rfl hd (by omega) (by have := lv_room (m := m) (pc := pc) (ls := ls) (rest := (Value.ref a :: st0.map jx_v)) h8'; exact Nat.le_trans (Nat.add_le_add_right this 12) (by omega)) kk)
end JD
end
section
/-! one step, a run, a method: soundness -/
theorem jx_nn {q : jx_S ⊕ jx_T} {P : Prop} (h : (none : jx_O) = some q) : P := by cases h
theorem ja_ir_some {X : jx_X} {st : List jx_V} {w : jx_W} {q : jx_S ⊕ jx_T} (h : ja_ir X st w = some q) : ∃ x, st = [.inl x] ∧ q = .inr (some (.inl x), w) ∧ (X.2.2.2.1 = some .int ∨ (X.2.2.2.1 = some .boolean ∧ (x = 0 ∨ x = 1))) := by
  unfold ja_ir at h
  split at h
  · split at h
    · cases h
      exact ⟨_, rfl, rfl, Or.inl (by assumption)⟩
    · split at h
      · cases h
        exact ⟨_, rfl, rfl, Or.inr ⟨by assumption, by assumption⟩⟩
      · cases h
    · cases h
  · cases h
theorem ja_ar_some {X : jx_X} {st : List jx_V} {w : jx_W} {q : jx_S ⊕ jx_T} (h : ja_ar X st w = some q) : ∃ r C, st = [.inr r] ∧ q = .inr (some (.inr r), w) ∧ X.2.2.2.1 = some (.object C) := by
  unfold ja_ar at h
  split at h
  · split at h
    · cases h
      exact ⟨_, _, rfl, rfl, by assumption⟩
    · cases h
  · cases h
theorem ja_vr_some {X : jx_X} {st : List jx_V} {w : jx_W} {q : jx_S ⊕ jx_T} (h : ja_vr X st w = some q) : st = [] ∧ q = .inr (none, w) ∧ X.2.2.2.1 = none := by
  unfold ja_vr at h
  split at h
  · split at h
    · cases h
      exact ⟨rfl, rfl, by assumption⟩
    · cases h
  · cases h
def jx_le (w w' : jx_W) : Prop := w.2.1 ≤ w'.2.1 ∧ w.2.2 ≤ w'.2.2
def jx_dst (q : jx_S ⊕ jx_T) : jx_W := match q with
  | .inl s => s.2.2.2
  | .inr t => t.2
theorem jx_mcl {call : jx_C} (hC : ∀ k as w t, call k as w = some t → jx_le w t.2) {qq : Nat × Nat × Nat} {pc : Nat} {lv : jx_L} {st : List jx_V} {w : jx_W} {q : jx_S ⊕ jx_T} (h : jx_cl call qq pc lv st w = some q) : jx_le w (jx_dst q) := by
  obtain ⟨t1, -, -, hcall, rfl⟩ := jx_cl_some h
  exact hC _ _ _ _ hcall
theorem jx_mono {Z : jx_Sc} {X : jx_X} {call : jx_C} (hC : ∀ k as w t, call k as w = some t → jx_le w t.2) {i : Instr} {n pc : Nat} {lv : jx_L} {st : List jx_V} {w : jx_W} {q : jx_S ⊕ jx_T} (h : jx_I Z X call i n pc lv st w = some q) : jx_le w (jx_dst q) := by
  cases i with
  | iconst _ => cases jx_go_some (jx_k_some h).2; exact ⟨Nat.le_refl _, Nat.le_refl _⟩
  | bipush _ => cases jx_go_some (jx_k_some h).2; exact ⟨Nat.le_refl _, Nat.le_refl _⟩
  | sipush _ => cases jx_go_some (jx_k_some h).2; exact ⟨Nat.le_refl _, Nat.le_refl _⟩
  | aconst_null => cases jx_go_some (jx_k_some h).2; exact ⟨Nat.le_refl _, Nat.le_refl _⟩
  | iload_n _ => obtain ⟨_, -, rfl⟩ := ja_li_some (jx_k_some h).2; exact ⟨Nat.le_refl _, Nat.le_refl _⟩
  | iload _ => obtain ⟨_, -, rfl⟩ := ja_li_some (jx_k_some h).2; exact ⟨Nat.le_refl _, Nat.le_refl _⟩
  | aload_n _ => obtain ⟨_, -, rfl⟩ := ja_la_some (jx_k_some h).2; exact ⟨Nat.le_refl _, Nat.le_refl _⟩
  | aload _ => obtain ⟨_, -, rfl⟩ := ja_la_some (jx_k_some h).2; exact ⟨Nat.le_refl _, Nat.le_refl _⟩
  | istore_n _ => obtain ⟨_, _, -, -, rfl⟩ := ja_si_some (jx_k_some h).2; exact ⟨Nat.le_refl _, Nat.le_refl _⟩
  | istore _ => obtain ⟨_, _, -, -, rfl⟩ := ja_si_some (jx_k_some h).2; exact ⟨Nat.le_refl _, Nat.le_refl _⟩
  | astore_n _ => obtain ⟨_, _, -, -, rfl⟩ := ja_sa_some (jx_k_some h).2; exact ⟨Nat.le_refl _, Nat.le_refl _⟩
  | astore _ => obtain ⟨_, _, -, -, rfl⟩ := ja_sa_some (jx_k_some h).2; exact ⟨Nat.le_refl _, Nat.le_refl _⟩
  | iinc _ _ => obtain ⟨_, -, -, rfl⟩ := ja_ii_some (jx_k_some h).2; exact ⟨Nat.le_refl _, Nat.le_refl _⟩
  | iadd => obtain ⟨_, _, _, -, rfl⟩ := ja_b2_some (jx_k_some h).2; exact ⟨Nat.le_refl _, Nat.le_refl _⟩
  | isub => obtain ⟨_, _, _, -, rfl⟩ := ja_b2_some (jx_k_some h).2; exact ⟨Nat.le_refl _, Nat.le_refl _⟩
  | imul => obtain ⟨_, _, _, -, rfl⟩ := ja_b2_some (jx_k_some h).2; exact ⟨Nat.le_refl _, Nat.le_refl _⟩
  | iand => obtain ⟨_, _, _, -, rfl⟩ := ja_b2_some (jx_k_some h).2; exact ⟨Nat.le_refl _, Nat.le_refl _⟩
  | ior => obtain ⟨_, _, _, -, rfl⟩ := ja_b2_some (jx_k_some h).2; exact ⟨Nat.le_refl _, Nat.le_refl _⟩
  | ixor => obtain ⟨_, _, _, -, rfl⟩ := ja_b2_some (jx_k_some h).2; exact ⟨Nat.le_refl _, Nat.le_refl _⟩
  | ishl => obtain ⟨_, _, _, -, rfl⟩ := ja_b2_some (jx_k_some h).2; exact ⟨Nat.le_refl _, Nat.le_refl _⟩
  | ishr => obtain ⟨_, _, _, -, rfl⟩ := ja_b2_some (jx_k_some h).2; exact ⟨Nat.le_refl _, Nat.le_refl _⟩
  | iushr => obtain ⟨_, _, _, -, rfl⟩ := ja_b2_some (jx_k_some h).2; exact ⟨Nat.le_refl _, Nat.le_refl _⟩
  | idiv => obtain ⟨_, _, _, -, -, rfl⟩ := ja_b0_some (jx_k_some h).2; exact ⟨Nat.le_refl _, Nat.le_refl _⟩
  | irem => obtain ⟨_, _, _, -, -, rfl⟩ := ja_b0_some (jx_k_some h).2; exact ⟨Nat.le_refl _, Nat.le_refl _⟩
  | ineg => obtain ⟨_, _, -, rfl⟩ := ja_neg_some (jx_k_some h).2; exact ⟨Nat.le_refl _, Nat.le_refl _⟩
  | dup => obtain ⟨_, _, -, rfl⟩ := ja_dup_some (jx_k_some h).2; exact ⟨Nat.le_refl _, Nat.le_refl _⟩
  | dup2 => obtain ⟨_, _, _, -, rfl⟩ := ja_dup2_some (jx_k_some h).2; exact ⟨Nat.le_refl _, Nat.le_refl _⟩
  | pop => obtain ⟨_, _, -, rfl⟩ := ja_pop_some (jx_k_some h).2; exact ⟨Nat.le_refl _, Nat.le_refl _⟩
  | ifCond _ _ => obtain ⟨_, _, -, _, -, rfl⟩ := ja_if_some (jx_k_some h).2; exact ⟨Nat.le_refl _, Nat.le_refl _⟩
  | if_icmp _ _ => obtain ⟨_, _, _, -, _, -, rfl⟩ := ja_ic_some (jx_k_some h).2; exact ⟨Nat.le_refl _, Nat.le_refl _⟩
  | ifnull _ => obtain ⟨_, _, -, _, -, rfl⟩ := ja_nl_some (jx_k_some h).2; exact ⟨Nat.le_refl _, Nat.le_refl _⟩
  | ifnonnull _ => obtain ⟨_, _, -, _, -, rfl⟩ := ja_nn_some (jx_k_some h).2; exact ⟨Nat.le_refl _, Nat.le_refl _⟩
  | goto _ => obtain ⟨_, -, rfl⟩ := jx_br_some (jx_k_some h).2; exact ⟨Nat.le_refl _, Nat.le_refl _⟩
  | tableswitch _ _ _ _ => obtain ⟨_, _, -, _, -, _, -, rfl⟩ := ja_ts_some h; exact ⟨Nat.le_refl _, Nat.le_refl _⟩
  | ldc _ => obtain ⟨_, -, rfl⟩ := ja_lc_some (jx_k_some h).2; exact ⟨Nat.le_refl _, Nat.le_refl _⟩
  | getfield _ => obtain ⟨_, _, _, _, _, _, _, -, -, -, rfl⟩ := ja_gf_some (jx_k_some h).2; exact ⟨Nat.le_refl _, Nat.le_refl _⟩
  | putfield _ => obtain ⟨_, _, _, _, _, _, _, _, -, -, -, -, hw, rfl⟩ := ja_pf_some (jx_k_some h).2; obtain ⟨_, -, -, rfl⟩ := jx_sF_some hw; exact ⟨Nat.le_refl _, Nat.le_refl _⟩
  | iaload => obtain ⟨_, _, _, _, -, -, rfl⟩ := ja_al_some (jx_k_some h).2; exact ⟨Nat.le_refl _, Nat.le_refl _⟩
  | baload => obtain ⟨_, _, _, _, -, -, rfl⟩ := ja_al_some (jx_k_some h).2; exact ⟨Nat.le_refl _, Nat.le_refl _⟩
  | iastore => obtain ⟨_, _, _, _, _, -, -, hw, rfl⟩ := ja_as_some (jx_k_some h).2; obtain ⟨_, _, -, -, rfl⟩ := jx_sI_some hw; exact ⟨Nat.le_refl _, Nat.le_refl _⟩
  | bastore => obtain ⟨_, _, _, _, _, -, -, hw, rfl⟩ := ja_as_some (jx_k_some h).2; obtain ⟨_, _, -, -, rfl⟩ := jx_sI_some hw; exact ⟨Nat.le_refl _, Nat.le_refl _⟩
  | aaload => obtain ⟨_, _, _, _, -, -, rfl⟩ := ja_rl_some (jx_k_some h).2; exact ⟨Nat.le_refl _, Nat.le_refl _⟩
  | aastore => obtain ⟨_, _, _, _, _, -, hw, rfl⟩ := ja_rs_some (jx_k_some h).2; obtain ⟨_, _, _, -, -, -, rfl⟩ := jx_sA_some hw; exact ⟨Nat.le_refl _, Nat.le_refl _⟩
  | arraylength => obtain ⟨_, _, _, -, -, rfl⟩ := ja_len_some (jx_k_some h).2; exact ⟨Nat.le_refl _, Nat.le_refl _⟩
  | newarray _ => obtain ⟨_, _, _, -, -, -, -, rfl⟩ := ja_na_some (jx_k_some h).2; exact ⟨Nat.le_add_right _ _, Nat.le_add_right _ _⟩
  | anewarray _ => obtain ⟨_, _, _, -, -, -, -, rfl⟩ := ja_ra_some (jx_k_some h).2; exact ⟨Nat.le_add_right _ _, Nat.le_add_right _ _⟩
  | new _ => obtain ⟨_, _, -, rfl⟩ := ja_nw_some (jx_k_some h).2; exact ⟨Nat.le_add_right _ _, Nat.le_add_right _ _⟩
  | invokestatic _ =>
    rcases ja_is_some (jx_k_some h).2 with ⟨_, -, h⟩ | ⟨_, _, _, _, -, -, -, rfl⟩
    · exact jx_mcl hC h
    · exact ⟨Nat.le_refl _, Nat.le_refl _⟩
  | invokevirtual _ =>
    obtain ⟨_, _, _, -, -, -, h⟩ := ja_iv_some (jx_k_some h).2
    exact jx_mcl hC h
  | invokespecial _ =>
    rcases ja_in_some (jx_k_some h).2 with ⟨_, _, -, -, h⟩ | ⟨_, _, -, -, -, rfl⟩
    · exact jx_mcl hC h
    · exact ⟨Nat.le_refl _, Nat.le_refl _⟩
  | ireturn => obtain ⟨_, -, rfl, -⟩ := ja_ir_some (jx_k_some h).2; exact ⟨Nat.le_refl _, Nat.le_refl _⟩
  | areturn => obtain ⟨_, _, -, rfl, -⟩ := ja_ar_some (jx_k_some h).2; exact ⟨Nat.le_refl _, Nat.le_refl _⟩
  | return_ => obtain ⟨-, rfl, -⟩ := ja_vr_some (jx_k_some h).2; exact ⟨Nat.le_refl _, Nat.le_refl _⟩
  | _ => exact jx_nn h
theorem jx_out {Z : jx_Sc} {X : jx_X} {call : jx_C} {i : Instr} {n pc : Nat} {lv : jx_L} {st : List jx_V} {w : jx_W} {t : jx_T} (h : jx_I Z X call i n pc lv st w = some (.inr t)) : i = .ireturn ∨ i = .areturn ∨ i = .return_ := by
  cases i with
  | iconst _ => cases jx_go_some (jx_k_some h).2
  | bipush _ => cases jx_go_some (jx_k_some h).2
  | sipush _ => cases jx_go_some (jx_k_some h).2
  | aconst_null => cases jx_go_some (jx_k_some h).2
  | iload_n _ => obtain ⟨_, -, hh⟩ := ja_li_some (jx_k_some h).2; cases hh
  | iload _ => obtain ⟨_, -, hh⟩ := ja_li_some (jx_k_some h).2; cases hh
  | aload_n _ => obtain ⟨_, -, hh⟩ := ja_la_some (jx_k_some h).2; cases hh
  | aload _ => obtain ⟨_, -, hh⟩ := ja_la_some (jx_k_some h).2; cases hh
  | istore_n _ => obtain ⟨_, _, -, -, hh⟩ := ja_si_some (jx_k_some h).2; cases hh
  | istore _ => obtain ⟨_, _, -, -, hh⟩ := ja_si_some (jx_k_some h).2; cases hh
  | astore_n _ => obtain ⟨_, _, -, -, hh⟩ := ja_sa_some (jx_k_some h).2; cases hh
  | astore _ => obtain ⟨_, _, -, -, hh⟩ := ja_sa_some (jx_k_some h).2; cases hh
  | iinc _ _ => obtain ⟨_, -, -, hh⟩ := ja_ii_some (jx_k_some h).2; cases hh
  | iadd => obtain ⟨_, _, _, -, hh⟩ := ja_b2_some (jx_k_some h).2; cases hh
  | isub => obtain ⟨_, _, _, -, hh⟩ := ja_b2_some (jx_k_some h).2; cases hh
  | imul => obtain ⟨_, _, _, -, hh⟩ := ja_b2_some (jx_k_some h).2; cases hh
  | iand => obtain ⟨_, _, _, -, hh⟩ := ja_b2_some (jx_k_some h).2; cases hh
  | ior => obtain ⟨_, _, _, -, hh⟩ := ja_b2_some (jx_k_some h).2; cases hh
  | ixor => obtain ⟨_, _, _, -, hh⟩ := ja_b2_some (jx_k_some h).2; cases hh
  | ishl => obtain ⟨_, _, _, -, hh⟩ := ja_b2_some (jx_k_some h).2; cases hh
  | ishr => obtain ⟨_, _, _, -, hh⟩ := ja_b2_some (jx_k_some h).2; cases hh
  | iushr => obtain ⟨_, _, _, -, hh⟩ := ja_b2_some (jx_k_some h).2; cases hh
  | idiv => obtain ⟨_, _, _, -, -, hh⟩ := ja_b0_some (jx_k_some h).2; cases hh
  | irem => obtain ⟨_, _, _, -, -, hh⟩ := ja_b0_some (jx_k_some h).2; cases hh
  | ineg => obtain ⟨_, _, -, hh⟩ := ja_neg_some (jx_k_some h).2; cases hh
  | dup => obtain ⟨_, _, -, hh⟩ := ja_dup_some (jx_k_some h).2; cases hh
  | dup2 => obtain ⟨_, _, _, -, hh⟩ := ja_dup2_some (jx_k_some h).2; cases hh
  | pop => obtain ⟨_, _, -, hh⟩ := ja_pop_some (jx_k_some h).2; cases hh
  | ifCond _ _ => obtain ⟨_, _, -, _, -, hh⟩ := ja_if_some (jx_k_some h).2; cases hh
  | if_icmp _ _ => obtain ⟨_, _, _, -, _, -, hh⟩ := ja_ic_some (jx_k_some h).2; cases hh
  | ifnull _ => obtain ⟨_, _, -, _, -, hh⟩ := ja_nl_some (jx_k_some h).2; cases hh
  | ifnonnull _ => obtain ⟨_, _, -, _, -, hh⟩ := ja_nn_some (jx_k_some h).2; cases hh
  | goto _ => obtain ⟨_, -, hh⟩ := jx_br_some (jx_k_some h).2; cases hh
  | tableswitch _ _ _ _ => obtain ⟨_, _, -, _, -, _, -, hh⟩ := ja_ts_some h; cases hh
  | ldc _ => obtain ⟨_, -, hh⟩ := ja_lc_some (jx_k_some h).2; cases hh
  | getfield _ => obtain ⟨_, _, _, _, _, _, _, -, -, -, hh⟩ := ja_gf_some (jx_k_some h).2; cases hh
  | putfield _ => obtain ⟨_, _, _, _, _, _, _, _, -, -, -, -, hw, hh⟩ := ja_pf_some (jx_k_some h).2; cases hh
  | iaload => obtain ⟨_, _, _, _, -, -, hh⟩ := ja_al_some (jx_k_some h).2; cases hh
  | baload => obtain ⟨_, _, _, _, -, -, hh⟩ := ja_al_some (jx_k_some h).2; cases hh
  | iastore => obtain ⟨_, _, _, _, _, -, -, hw, hh⟩ := ja_as_some (jx_k_some h).2; cases hh
  | bastore => obtain ⟨_, _, _, _, _, -, -, hw, hh⟩ := ja_as_some (jx_k_some h).2; cases hh
  | aaload => obtain ⟨_, _, _, _, -, -, hh⟩ := ja_rl_some (jx_k_some h).2; cases hh
  | aastore => obtain ⟨_, _, _, _, _, -, hw, hh⟩ := ja_rs_some (jx_k_some h).2; cases hh
  | arraylength => obtain ⟨_, _, _, -, -, hh⟩ := ja_len_some (jx_k_some h).2; cases hh
  | newarray _ => obtain ⟨_, _, _, -, -, -, -, hh⟩ := ja_na_some (jx_k_some h).2; cases hh
  | anewarray _ => obtain ⟨_, _, _, -, -, -, -, hh⟩ := ja_ra_some (jx_k_some h).2; cases hh
  | new _ => obtain ⟨_, _, -, hh⟩ := ja_nw_some (jx_k_some h).2; cases hh
  | invokestatic _ =>
    rcases ja_is_some (jx_k_some h).2 with ⟨_, -, h⟩ | ⟨_, _, _, _, -, -, -, hh⟩
    · obtain ⟨_, -, -, -, hh⟩ := jx_cl_some h
      cases hh
    · cases hh
  | invokevirtual _ =>
    obtain ⟨_, _, _, -, -, -, h⟩ := ja_iv_some (jx_k_some h).2
    obtain ⟨_, -, -, -, hh⟩ := jx_cl_some h
    cases hh
  | invokespecial _ =>
    rcases ja_in_some (jx_k_some h).2 with ⟨_, _, -, -, h⟩ | ⟨_, _, -, -, -, hh⟩
    · obtain ⟨_, -, -, -, hh⟩ := jx_cl_some h
      cases hh
    · cases hh
  | ireturn => exact Or.inl rfl
  | areturn => exact Or.inr (Or.inl rfl)
  | return_ => exact Or.inr (Or.inr rfl)
  | _ => exact jx_nn h
theorem jx_mono_ex {Z : jx_Sc} {X : jx_X} {call : jx_C} (hC : ∀ k as w t, call k as w = some t → jx_le w t.2) (f : Nat) : ∀ (s : jx_S) (t : jx_T), jx_ex Z X call f s = some t → jx_le s.2.2.2 t.2 := by
  induction f with
  | zero => intro s t h; simp [jx_ex] at h
  | succ f ih =>
    intro s t h
    simp only [jx_ex] at h
    cases hn : jx_nxt Z X call s with
    | none => rw [hn] at h; cases h
    | some q =>
      rw [hn] at h
      have h1 : jx_le s.2.2.2 (jx_dst q) := by
        unfold jx_nxt at hn
        split at hn
        · exact jx_mono hC hn
        · cases hn
      cases q with
      | inl s' =>
        have h2 := ih s' t h
        exact ⟨Nat.le_trans h1.1 h2.1, Nat.le_trans h1.2 h2.2⟩
      | inr r =>
        cases h
        exact h1
theorem jx_mono_m {Z : jx_Sc} (d : Nat) : ∀ k as w t, jx_m Z d k as w = some t → jx_le w t.2 := by
  induction d with
  | zero => intro k as w t h; simp [jx_m] at h
  | succ d ih =>
    intro k as w t h
    obtain ⟨d', y, X, n, hd, -, -, hr⟩ := jx_m_some h
    cases hd
    obtain ⟨f, hf⟩ := jx_run_iff.mp hr
    exact jx_mono_ex ih f _ t hf
section JE
variable {p : Program} {l : Launch} {e : Env} {R : Room} {s : State} {m : MethodId} {args : Array Value} {below : List Frame} {meth : Method} {c : Code} {Qf : State → Prop}
variable {d b0 : Nat} {Z : jx_Sc} {D : va_G} {kA : Nat → ClassId} {X : jx_X} {t : jx_T} {pc n : Nat} {lv : jx_L} {st : List jx_V} {w : jx_W} {q : jx_S ⊕ jx_T} {call : jx_C}
theorem jx_step {i : Instr} (hF : jx_Fx d b0 Z D kA X p R s m args meth c) (hC : ∀ k as w t1, call k as w = some t1 → jx_Met l d b0 Z D kA k as w t1) (hd : decode X.2.1 pc = .ok (i, n)) (h : jx_I Z X call i n pc lv st w = some q) (hq : jx_To p l e R s m args below meth c Qf b0 D kA X t q) : jx_Go p l e R s m args below meth c Qf b0 D kA X t pc lv st w := by
  cases i with
  | iconst _ => exact js_iconst hF hd h hq
  | bipush _ => exact js_bipush hF hd h hq
  | sipush _ => exact js_sipush hF hd h hq
  | aconst_null => exact js_aconst_null hF hd h hq
  | ldc _ => exact js_ldc hF hd h hq
  | iload_n _ => exact js_iload_n hF hd h hq
  | iload _ => exact js_iload hF hd h hq
  | aload_n _ => exact js_aload_n hF hd h hq
  | aload _ => exact js_aload hF hd h hq
  | istore_n _ => exact js_istore_n hF hd h hq
  | istore _ => exact js_istore hF hd h hq
  | astore_n _ => exact js_astore_n hF hd h hq
  | astore _ => exact js_astore hF hd h hq
  | iinc _ _ => exact js_iinc hF hd h hq
  | iadd => exact js_iadd hF hd h hq
  | isub => exact js_isub hF hd h hq
  | imul => exact js_imul hF hd h hq
  | iand => exact js_iand hF hd h hq
  | ior => exact js_ior hF hd h hq
  | ixor => exact js_ixor hF hd h hq
  | ishl => exact js_ishl hF hd h hq
  | ishr => exact js_ishr hF hd h hq
  | iushr => exact js_iushr hF hd h hq
  | idiv => exact js_idiv hF hd h hq
  | irem => exact js_irem hF hd h hq
  | ineg => exact js_ineg hF hd h hq
  | dup => exact js_dup hF hd h hq
  | dup2 => exact js_dup2 hF hd h hq
  | pop => exact js_pop hF hd h hq
  | ifnull _ => exact js_ifnull hF hd h hq
  | ifnonnull _ => exact js_ifnonnull hF hd h hq
  | goto _ => exact js_goto hF hd h hq
  | tableswitch _ _ _ _ => exact js_tableswitch hF hd h hq
  | getfield _ => exact js_getfield hF hd h hq
  | putfield _ => exact js_putfield hF hd h hq
  | iaload => exact js_iaload hF hd h hq
  | iastore => exact js_iastore hF hd h hq
  | baload => exact js_baload hF hd h hq
  | bastore => exact js_bastore hF hd h hq
  | aaload => exact js_aaload hF hd h hq
  | aastore => exact js_aastore hF hd h hq
  | arraylength => exact js_arraylength hF hd h hq
  | newarray _ => exact js_newarray hF hd h hq
  | anewarray _ => exact js_anewarray hF hd h hq
  | new _ => exact js_new hF hd h hq
  | invokestatic _ => exact js_invokestatic hF hC hd h hq
  | invokevirtual _ => exact js_invokevirtual hF hC hd h hq
  | invokespecial _ => exact js_invokespecial hF hC hd h hq
  | ifCond cd _ =>
    cases cd with
    | eq => exact js_if_eq hF hd h hq
    | ne => exact js_if_ne hF hd h hq
    | lt => exact js_if_lt hF hd h hq
    | ge => exact js_if_ge hF hd h hq
    | gt => exact js_if_gt hF hd h hq
    | le => exact js_if_le hF hd h hq
  | if_icmp cd _ =>
    cases cd with
    | eq => exact js_icmp_eq hF hd h hq
    | ne => exact js_icmp_ne hF hd h hq
    | lt => exact js_icmp_lt hF hd h hq
    | ge => exact js_icmp_ge hF hd h hq
    | gt => exact js_icmp_gt hF hd h hq
    | le => exact js_icmp_le hF hd h hq
  | ireturn =>
    obtain ⟨_, -, rfl, -⟩ := ja_ir_some (jx_k_some h).2
    exact hq.elim
  | areturn =>
    obtain ⟨_, _, -, rfl, -⟩ := ja_ar_some (jx_k_some h).2
    exact hq.elim
  | return_ =>
    obtain ⟨-, rfl, -⟩ := ja_vr_some (jx_k_some h).2
    exact hq.elim
  | _ => exact jx_nn h
theorem jx_runs (hF : jx_Fx d b0 Z D kA X p R s m args meth c) (hC : ∀ k as w t1, call k as w = some t1 → jx_Met l d b0 Z D kA k as w t1)
    (hret : ∀ pc lv st w, jx_nxt Z X call (pc, lv, st, w) = some (.inr t) → jx_Go p l e R s m args below meth c Qf b0 D kA X t pc lv st w) (f : Nat) : ∀ pc lv st w, jx_ex Z X call f (pc, lv, st, w) = some t → jx_Go p l e R s m args below meth c Qf b0 D kA X t pc lv st w := by
  induction f with
  | zero => intro pc lv st w h; simp [jx_ex] at h
  | succ f ih =>
    intro pc lv st w h
    simp only [jx_ex] at h
    cases hn : jx_nxt Z X call (pc, lv, st, w) with
    | none => rw [hn] at h; cases h
    | some q =>
      rw [hn] at h
      cases q with
      | inl s' =>
        obtain ⟨pc', lv', st', w'⟩ := s'
        have hG := ih pc' lv' st' w' h
        unfold jx_nxt at hn
        split at hn
        · rename_i i n hd
          exact jx_step hF hC hd hn hG
        · cases hn
      | inr r =>
        cases h
        exact hret pc lv st w hn
/-- a method's return -/
theorem jx_ret (hF : jx_Fx d b0 Z D kA X p R s m args meth c) (hr : meth.sig.returnType = X.2.2.2.1) (hlocks : meth.locks = false) (h : jx_nxt Z X call (pc, lv, st, w) = some (.inr t)) : jx_Go p l e R s m args below meth c (MQ below (jx_Q b0 D kA t) args s R.cells R.slots (fun a => b0 ≤ a)) b0 D kA X t pc lv st w := by
  unfold jx_nxt at h
  split at h
  · rename_i i n hd
    dsimp only at h hd
    have key := jx_out h
    have fin : t.2 = w → (∀ (ls : Array Slot) (H : Heap) (locs : List Loc), jx_R b0 D kA w H → va_S (fun a => b0 ≤ a) s.heap H locs → W p l e R s m args below meth c H locs R.cells R.slots (MQ below (jx_Q b0 D kA t) args s R.cells R.slots (fun a => b0 ≤ a)) (F0 m pc ls (st.map jx_v))) → jx_Go p l e R s m args below meth c (MQ below (jx_Q b0 D kA t) args s R.cells R.slots (fun a => b0 ≤ a)) b0 D kA X t pc lv st w := by
      intro hw k
      subst hw
      refine ⟨Nat.le_refl _, Nat.le_refl _, fun ls H locs cells slots hl hR hS hc hs => ?_⟩
      rw [Nat.sub_self, Nat.add_zero] at hc hs
      subst hc
      subst hs
      exact k ls H locs hR hS
    obtain ⟨hx, hb, -⟩ := hF
    rcases key with rfl | rfl | rfl
    · obtain ⟨rfl, h⟩ := jx_k_some h
      obtain ⟨x, rfl, ht, hty⟩ := ja_ir_some h
      cases ht
      refine fin rfl (fun ls H locs hR hS => ?_)
      rcases hty with hty | ⟨hty, h01⟩
      · exact W.iret hx hb (hr.trans hty) (fun u hu hW => ⟨rfl, by rw [hu]; exact hR, hS.F hu⟩) hS.2.2 hd hlocks
      · refine W.zret hx hb (hr.trans hty) ?_ (fun u hu hW => ⟨rfl, by rw [hu]; exact hR, hS.F hu⟩) hS.2.2 hd hlocks
        rcases h01 with rfl | rfl <;> first | rfl | decide
    · obtain ⟨rfl, h⟩ := jx_k_some h
      obtain ⟨r, C, rfl, ht, hty⟩ := ja_ar_some h
      cases ht
      refine fin rfl (fun ls H locs hR hS => ?_)
      exact W.aret hx hb (hr.trans hty) (Or.inl ⟨_, rfl⟩) (by cases r with | none => exact Or.inl rfl | some a => exact Or.inr ⟨a, rfl⟩) (fun u hu hW => ⟨rfl, by rw [hu]; exact hR, hS.F hu⟩) hS.2.2 hd hlocks
    · obtain ⟨rfl, h⟩ := jx_k_some h
      obtain ⟨rfl, ht, hty⟩ := ja_vr_some h
      cases ht
      refine fin rfl (fun ls H locs hR hS => ?_)
      exact W.vret hx hb (hr.trans hty) (fun u hu hW => ⟨rfl, by rw [hu]; exact hR, hS.F hu⟩) hS.2.2 hd hlocks
  · cases h
end JE
theorem jx_sound {l : Launch} {b0 : Nat} {Z : jx_Sc} {D : va_G} {kA : Nat → ClassId} (hZ : Z.1 < b0) (d : Nat) : ∀ k as w t, jx_m Z d k as w = some t → jx_Met l d b0 Z D kA k as w t := by
  induction d with
  | zero => intro k as w t h; simp [jx_m] at h
  | succ d ih =>
    intro k as w t h
    have hm := jx_mono_m _ k as w t h
    refine ⟨hm.1, hm.2, fun y X n hM => ?_⟩
    obtain ⟨d', y', X', n', hd', hM', hn, hr⟩ := jx_m_some h
    cases hd'
    cases hM.symm.trans hM'
    obtain ⟨f, hf⟩ := jx_run_iff.mp hr
    obtain ⟨hy, hyc, hinit, -, -, -, -, hnl⟩ := jt_M_ok _ (List.mem_of_getElem? hM)
    dsimp only at hy hyc hinit hnl
    refine Met.ofW (cc := X.2.1) (maxL := X.2.2.1) (ret := X.2.2.2.1) hy rfl ?_
    intro p e s m args below meth c s₁ B hml hP
    obtain ⟨rfl, hR, hK, hX⟩ := hP
    have hts := atoms_spec (ws := Cond.code y X.2.1 X.2.2.1 X.2.2.2.1 :: jt_G) B.pre
    have hown : s.vm.findClass (jt_cn X.1) = some m.cls := hyc ▸ findClass_of_methodNamed B.named
    have hF : jx_Fx d b0 Z D kA X p { frames := d + 1, cells := t.2.2.1 - w.2.1, slots := t.2.2.2 - w.2.2, locals := 38 * (d + 1) } s m ((as.map jx_v).toArray) meth c :=
      ⟨B.exec, B.bytes, hml, hown, fun w hw => hts w (List.mem_cons_of_mem _ hw), fun hi => (name_of_methodNamed B.named B.method).1.trans (hinit hi), hK, Nat.le_refl _, Nat.le_refl _, by rw [hR.1]; exact hR.2.1, hX, hZ⟩
    have hG := jx_runs (l := l) (e := e) (below := below) hF ih (fun pc lv st w' h' => jx_ret hF B.returns B.notSynchronized h') f 0 _ _ w hf
    have hsl : (lg_sl (as.map jx_v)).length ≤ X.2.2.1 := by rw [jx_sl, hn]; exact hnl
    have hl := lv_entry (as.map jx_v) hsl
    rw [← jx_ps_args as (X.2.2.1 - as.length) 0] at hl
    have := hG.2.2 _ s.heap [] 0 0 hl hR va_S.rf (Nat.zero_add _) (Nat.zero_add _)
    rw [lg_entry_eq]
    exact this
end
section
/-! rewriting rows of jx_run, one a kind of instruction; part 40 (by gen.py) applies them at each place of the code -/
theorem jd_at {c : ByteArray} {L : List (Nat × Instr × Nat)} (h : ∀ e ∈ L, decode c e.1 = .ok (e.2.1, e.2.2)) (i : Nat) {p n : Nat} {j : Instr} (hi : L[i]? = some (p, j, n)) : decode c p = .ok (j, n) := h _ (List.mem_of_getElem? hi)
section JR
variable {Z : jx_Sc} {X : jx_X} {call : jx_C} {pc n : Nat} {lv : jx_L} {st : List jx_V} {w : jx_W} {i : Instr}
theorem jr_nx (hd : decode X.2.1 pc = .ok (i, n)) : jx_nxt Z X call (pc, lv, st, w) = jx_I Z X call i n pc lv st w := by
  simp only [jx_nxt, hd]
theorem jr_go {s' : jx_S} (hd : decode X.2.1 pc = .ok (i, n)) (h : jx_I Z X call i n pc lv st w = some (.inl s')) : jx_run Z X call (pc, lv, st, w) = jx_run Z X call s' := jx_run_in ((jr_nx hd).trans h)
theorem jr_end {t : jx_T} (hd : decode X.2.1 pc = .ok (i, n)) (h : jx_I Z X call i n pc lv st w = some (.inr t)) : jx_run Z X call (pc, lv, st, w) = some t := jx_run_out ((jr_nx hd).trans h)
theorem jr_no (hd : decode X.2.1 pc = .ok (i, n)) (h : jx_I Z X call i n pc lv st w = none) : jx_run Z X call (pc, lv, st, w) = none := jx_run_no ((jr_nx hd).trans h)
theorem jr_ic {c : Int} {v : Int32} (hd : decode X.2.1 pc = .ok (.iconst c, 1)) (hv : Int32.ofInt c = v) : jx_run Z X call (pc, lv, st, w) = jx_run Z X call (pc + 1, lv, .inl v :: st, w) := by
  subst hv; exact jr_go hd rfl
theorem jr_bi {c : Int} {v : Int32} (hd : decode X.2.1 pc = .ok (.bipush c, 2)) (hv : (Int8.ofInt c).toInt32 = v) : jx_run Z X call (pc, lv, st, w) = jx_run Z X call (pc + 2, lv, .inl v :: st, w) := by
  subst hv; exact jr_go hd rfl
theorem jr_si {c : Int} {v : Int32} (hd : decode X.2.1 pc = .ok (.sipush c, 3)) (hv : (Int16.ofInt c).toInt32 = v) : jx_run Z X call (pc, lv, st, w) = jx_run Z X call (pc + 3, lv, .inl v :: st, w) := by
  subst hv; exact jr_go hd rfl
theorem jr_lc {k : Nat} {v : Int32} (hd : decode X.2.1 pc = .ok (.ldc k, 2)) (hv : jt_cst X.1 k = some v) : jx_run Z X call (pc, lv, st, w) = jx_run Z X call (pc + 2, lv, .inl v :: st, w) :=
  jr_go hd (show ja_lc X k pc lv st w = _ by unfold ja_lc; rw [hv]; rfl)
theorem jr_b0 {x y : Int32} (g : Int32 → Int32 → Int32) (hd : decode X.2.1 pc = .ok (i, 1)) (hi : jx_I Z X call i 1 pc lv (.inl y :: .inl x :: st) w = ja_b0 g pc lv (.inl y :: .inl x :: st) w) : jx_run Z X call (pc, lv, .inl y :: .inl x :: st, w) = if y = 0 then none else jx_run Z X call (pc + 1, lv, .inl (g x y) :: st, w) := by
  by_cases e : y = 0
  · rw [if_pos e]; exact jr_no hd (hi.trans (if_pos e))
  · rw [if_neg e]; exact jr_go hd (hi.trans (if_neg e))
theorem jr_ii {c : Int} {k : Nat} {v x : Int32} (hd : decode X.2.1 pc = .ok (.iinc k c, 3)) (hl : lv[k]? = some (some (.inl x))) (hk : k < X.2.2.1) (hv : Int32.ofInt c = v) : jx_run Z X call (pc, lv, st, w) = jx_run Z X call (pc + 3, lv.set k (some (.inl (x + v))), st, w) := by
  subst hv
  exact jr_go hd (show ja_ii X.2.2.1 k c pc lv st w = _ by unfold ja_ii; rw [hl]; exact if_pos hk)
theorem jr_nl {r : Option Nat} {off : Int} {t : Nat} (hd : decode X.2.1 pc = .ok (.ifnull off, 3)) (ht : jx_tg pc off = some t) : jx_run Z X call (pc, lv, .inr r :: st, w) = if r = none then jx_run Z X call (t, lv, st, w) else jx_run Z X call (pc + 3, lv, st, w) := by
  have h : jx_I Z X call (.ifnull off) 3 pc lv (.inr r :: st) w = some (.inl (if r.isNone = true then t else pc + 3, lv, st, w)) := by
    show jx_br r.isNone pc off lv st w = _
    unfold jx_br; rw [ht]; rfl
  rw [jr_go hd h]
  cases r <;> simp
theorem jr_nn {r : Option Nat} {off : Int} {t : Nat} (hd : decode X.2.1 pc = .ok (.ifnonnull off, 3)) (ht : jx_tg pc off = some t) : jx_run Z X call (pc, lv, .inr r :: st, w) = if r = none then jx_run Z X call (pc + 3, lv, st, w) else jx_run Z X call (t, lv, st, w) := by
  have h : jx_I Z X call (.ifnonnull off) 3 pc lv (.inr r :: st) w = some (.inl (if r.isSome = true then t else pc + 3, lv, st, w)) := by
    show jx_br r.isSome pc off lv st w = _
    unfold jx_br; rw [ht]; rfl
  rw [jr_go hd h]
  cases r <;> simp
theorem jr_if {c : Jvm.ClassFile.Cond} {off : Int} {t : Nat} {x : Int32} {P : Prop} {dP : Decidable P} (hd : decode X.2.1 pc = .ok (.ifCond c off, 3)) (ht : jx_tg pc off = some t) (hb : jx_cb c x 0 = true ↔ P) : jx_run Z X call (pc, lv, .inl x :: st, w) = @ite _ P dP (jx_run Z X call (t, lv, st, w)) (jx_run Z X call (pc + 3, lv, st, w)) := by
  have h : jx_I Z X call (.ifCond c off) 3 pc lv (.inl x :: st) w = some (.inl (if jx_cb c x 0 = true then t else pc + 3, lv, st, w)) := by
    show jx_br (jx_cb c x 0) pc off lv st w = _
    unfold jx_br; rw [ht]; rfl
  rw [jr_go hd h]
  by_cases hp : P
  · rw [if_pos hp, if_pos (hb.mpr hp)]
  · rw [if_neg hp, if_neg (fun q => hp (hb.mp q))]
theorem jr_cm {c : Jvm.ClassFile.Cond} {off : Int} {t : Nat} {x y : Int32} {P : Prop} {dP : Decidable P} (hd : decode X.2.1 pc = .ok (.if_icmp c off, 3)) (ht : jx_tg pc off = some t) (hb : jx_cb c x y = true ↔ P) : jx_run Z X call (pc, lv, .inl y :: .inl x :: st, w) = @ite _ P dP (jx_run Z X call (t, lv, st, w)) (jx_run Z X call (pc + 3, lv, st, w)) := by
  have h : jx_I Z X call (.if_icmp c off) 3 pc lv (.inl y :: .inl x :: st) w = some (.inl (if jx_cb c x y = true then t else pc + 3, lv, st, w)) := by
    show jx_br (jx_cb c x y) pc off lv st w = _
    unfold jx_br; rw [ht]; rfl
  rw [jr_go hd h]
  by_cases hp : P
  · rw [if_pos hp, if_pos (hb.mpr hp)]
  · rw [if_neg hp, if_neg (fun q => hp (hb.mp q))]
theorem jr_gt {off : Int} {t : Nat} (hd : decode X.2.1 pc = .ok (.goto off, 3)) (ht : jx_tg pc off = some t) : jx_run Z X call (pc, lv, st, w) = jx_run Z X call (t, lv, st, w) :=
  jr_go hd (show jx_br true pc off lv st w = _ by unfold jx_br; rw [ht]; rfl)
theorem jr_sw {d lo hi : Int} {offs : Array Int} {x : Int32} {t : Nat} (hd : decode X.2.1 pc = .ok (.tableswitch d lo hi offs, n)) (h : x.toInt < lo ∨ hi < x.toInt) (ht : jx_tg pc d = some t) : jx_run Z X call (pc, lv, .inl x :: st, w) = jx_run Z X call (t, lv, st, w) :=
  jr_go hd (show ja_ts d lo hi offs pc lv (.inl x :: st) w = _ by unfold ja_ts; rw [if_pos h]; unfold jx_br; rw [ht]; rfl)
theorem jr_sk {d lo hi : Int} {offs : Array Int} {x : Int32} {t : Nat} {off : Int} (hd : decode X.2.1 pc = .ok (.tableswitch d lo hi offs, n)) (h : ¬ (x.toInt < lo ∨ hi < x.toInt)) (ho : offs[(x.toInt - lo).toNat]? = some off) (ht : jx_tg pc off = some t) : jx_run Z X call (pc, lv, .inl x :: st, w) = jx_run Z X call (t, lv, st, w) :=
  jr_go hd (show ja_ts d lo hi offs pc lv (.inl x :: st) w = _ by unfold ja_ts; rw [if_neg h, ho]; show jx_br true pc off lv st w = _; unfold jx_br; rw [ht]; rfl)
theorem jr_gf {k a ci f tk pm : Nat} (hd : decode X.2.1 pc = .ok (.getfield k, 3)) (hf : jt_fld X.1 k = some (ci, f, tk, pm)) : jx_run Z X call (pc, lv, .inr (some a) :: st, w) = (jx_gF w a ci f).bind fun v => jx_run Z X call (pc + 3, lv, v :: st, w) := by
  have h : jx_I Z X call (.getfield k) 3 pc lv (.inr (some a) :: st) w = (match jx_gF w a ci f with | some v => jx_go (pc + 3) lv (v :: st) w | none => none) := by
    show ja_gf X k pc lv (.inr (some a) :: st) w = _
    unfold ja_gf; rw [hf]
  cases hv : jx_gF w a ci f with
  | none => rw [hv] at h; exact jr_no hd h
  | some v => rw [hv] at h; exact jr_go hd h
theorem jr_pf {k a ci f tk pm : Nat} {v : jx_V} (hd : decode X.2.1 pc = .ok (.putfield k, 3)) (hf : jt_fld X.1 k = some (ci, f, tk, pm)) (hp : pm = 0 ∨ (pm = 1 ∧ X.2.2.2.2 = true)) (hk : jx_fk tk v = true) : jx_run Z X call (pc, lv, v :: .inr (some a) :: st, w) = (jx_sF w a ci f v).bind fun w => jx_run Z X call (pc + 3, lv, st, w) := by
  have h : jx_I Z X call (.putfield k) 3 pc lv (v :: .inr (some a) :: st) w = (match jx_sF w a ci f v with | some w => jx_go (pc + 3) lv st w | none => none) := by
    show ja_pf X k pc lv (v :: .inr (some a) :: st) w = _
    unfold ja_pf; rw [hf]; exact if_pos ⟨hk, hp⟩
  cases hv : jx_sF w a ci f v with
  | none => rw [hv] at h; exact jr_no hd h
  | some v => rw [hv] at h; exact jr_go hd h
theorem jr_pf1 {k a ci f pm : Nat} {x : Int32} (hd : decode X.2.1 pc = .ok (.putfield k, 3)) (hf : jt_fld X.1 k = some (ci, f, 1, pm)) (hp : pm = 0 ∨ (pm = 1 ∧ X.2.2.2.2 = true)) : jx_run Z X call (pc, lv, .inl x :: .inr (some a) :: st, w) = if x = 0 ∨ x = 1 then (jx_sF w a ci f (.inl x)).bind fun w => jx_run Z X call (pc + 3, lv, st, w) else none := by
  by_cases e : x = 0 ∨ x = 1
  · rw [if_pos e]; exact jr_pf hd hf hp (by unfold jx_fk; rw [decide_eq_true e]; rfl)
  · rw [if_neg e]
    refine jr_no hd (show ja_pf X k pc lv (.inl x :: .inr (some a) :: st) w = _ from ?_)
    unfold ja_pf; rw [hf]; exact if_neg (fun q => e (by have := q.1; unfold jx_fk at this; simpa using this))
theorem jr_al {a : Nat} {j : Int32} (t : Nat) (hd : decode X.2.1 pc = .ok (i, 1)) (hi : jx_I Z X call i 1 pc lv (.inl j :: .inr (some a) :: st) w = ja_al Z t pc lv (.inl j :: .inr (some a) :: st) w) : jx_run Z X call (pc, lv, .inl j :: .inr (some a) :: st, w) = (jx_gI Z t w a j).bind fun x => jx_run Z X call (pc + 1, lv, .inl x :: st, w) := by
  have h : jx_I Z X call i 1 pc lv (.inl j :: .inr (some a) :: st) w = (match jx_gI Z t w a j with | some x => jx_go (pc + 1) lv (.inl x :: st) w | none => none) := hi
  cases hv : jx_gI Z t w a j with
  | none => rw [hv] at h; exact jr_no hd h
  | some v => rw [hv] at h; exact jr_go hd h
theorem jr_is {a : Nat} {j x : Int32} (hd : decode X.2.1 pc = .ok (.iastore, 1)) : jx_run Z X call (pc, lv, .inl x :: .inl j :: .inr (some a) :: st, w) = (jx_sI 0 w a j x).bind fun w => jx_run Z X call (pc + 1, lv, st, w) := by
  have h : jx_I Z X call .iastore 1 pc lv (.inl x :: .inl j :: .inr (some a) :: st) w = (match jx_sI 0 w a j x with | some w => jx_go (pc + 1) lv st w | none => none) := if_pos (Or.inl rfl)
  cases hv : jx_sI 0 w a j x with
  | none => rw [hv] at h; exact jr_no hd h
  | some v => rw [hv] at h; exact jr_go hd h
theorem jr_bs {a : Nat} {j x : Int32} (hd : decode X.2.1 pc = .ok (.bastore, 1)) : jx_run Z X call (pc, lv, .inl x :: .inl j :: .inr (some a) :: st, w) = if x = 0 ∨ x = 1 then (jx_sI 1 w a j x).bind fun w => jx_run Z X call (pc + 1, lv, st, w) else none := by
  by_cases e : x = 0 ∨ x = 1
  · rw [if_pos e]
    have h : jx_I Z X call .bastore 1 pc lv (.inl x :: .inl j :: .inr (some a) :: st) w = (match jx_sI 1 w a j x with | some w => jx_go (pc + 1) lv st w | none => none) := if_pos (Or.inr e)
    cases hv : jx_sI 1 w a j x with
    | none => rw [hv] at h; exact jr_no hd h
    | some v => rw [hv] at h; exact jr_go hd h
  · rw [if_neg e]
    exact jr_no hd (if_neg (fun q => q.elim (fun z => absurd z (by decide)) e))
theorem jr_rl {a : Nat} {j : Int32} (hd : decode X.2.1 pc = .ok (.aaload, 1)) : jx_run Z X call (pc, lv, .inl j :: .inr (some a) :: st, w) = (jx_gA w a j).bind fun r => jx_run Z X call (pc + 1, lv, .inr r :: st, w) := by
  have h : jx_I Z X call .aaload 1 pc lv (.inl j :: .inr (some a) :: st) w = (match jx_gA w a j with | some r => jx_go (pc + 1) lv (.inr r :: st) w | none => none) := rfl
  cases hv : jx_gA w a j with
  | none => rw [hv] at h; exact jr_no hd h
  | some v => rw [hv] at h; exact jr_go hd h
theorem jr_rs {a : Nat} {j : Int32} {r : Option Nat} (hd : decode X.2.1 pc = .ok (.aastore, 1)) : jx_run Z X call (pc, lv, .inr r :: .inl j :: .inr (some a) :: st, w) = (jx_sA w a j r).bind fun w => jx_run Z X call (pc + 1, lv, st, w) := by
  have h : jx_I Z X call .aastore 1 pc lv (.inr r :: .inl j :: .inr (some a) :: st) w = (match jx_sA w a j r with | some w => jx_go (pc + 1) lv st w | none => none) := rfl
  cases hv : jx_sA w a j r with
  | none => rw [hv] at h; exact jr_no hd h
  | some v => rw [hv] at h; exact jr_go hd h
theorem jr_al_ {a : Nat} (hd : decode X.2.1 pc = .ok (.arraylength, 1)) : jx_run Z X call (pc, lv, .inr (some a) :: st, w) = (jx_gL Z w a).bind fun k => jx_run Z X call (pc + 1, lv, .inl (Int32.ofNat k) :: st, w) := by
  have h : jx_I Z X call .arraylength 1 pc lv (.inr (some a) :: st) w = (match jx_gL Z w a with | some k => jx_go (pc + 1) lv (.inl (Int32.ofNat k) :: st) w | none => none) := rfl
  cases hv : jx_gL Z w a with
  | none => rw [hv] at h; exact jr_no hd h
  | some v => rw [hv] at h; exact jr_go hd h
theorem jr_na {ty : ArrayType} {t : Nat} {x : Int32} (hd : decode X.2.1 pc = .ok (.newarray ty, 2)) (ht : jt_na ty = some t) : jx_run Z X call (pc, lv, .inl x :: st, w) = if x < 0 ∨ 65536 < x.toNatClampNeg then none else jx_run Z X call (pc + 2, lv, .inr (some w.2.1) :: st, jx_nw w (.inl (t, x.toNatClampNeg, .inl (fun _ => 0))) x.toNatClampNeg) := by
  have h : jx_I Z X call (.newarray ty) 2 pc lv (.inl x :: st) w = if x < 0 ∨ 65536 < x.toNatClampNeg then none else jx_go (pc + 2) lv (.inr (some w.2.1) :: st) (jx_nw w (.inl (t, x.toNatClampNeg, .inl (fun _ => 0))) x.toNatClampNeg) := by
    show ja_na ty pc lv (.inl x :: st) w = _
    unfold ja_na; rw [ht]
  by_cases e : x < 0 ∨ 65536 < x.toNatClampNeg
  · rw [if_pos e] at h ⊢; exact jr_no hd h
  · rw [if_neg e] at h ⊢; exact jr_go hd h
theorem jr_ra {k t : Nat} {x : Int32} (hd : decode X.2.1 pc = .ok (.anewarray k, 3)) (ht : jt_arr X.1 k = some t) : jx_run Z X call (pc, lv, .inl x :: st, w) = if x < 0 ∨ 65536 < x.toNatClampNeg then none else jx_run Z X call (pc + 3, lv, .inr (some w.2.1) :: st, jx_nw w (.inl (t, x.toNatClampNeg, .inr (fun _ => none))) x.toNatClampNeg) := by
  have h : jx_I Z X call (.anewarray k) 3 pc lv (.inl x :: st) w = if x < 0 ∨ 65536 < x.toNatClampNeg then none else jx_go (pc + 3) lv (.inr (some w.2.1) :: st) (jx_nw w (.inl (t, x.toNatClampNeg, .inr (fun _ => none))) x.toNatClampNeg) := by
    show ja_ra X k pc lv (.inl x :: st) w = _
    unfold ja_ra; rw [ht]
  by_cases e : x < 0 ∨ 65536 < x.toNatClampNeg
  · rw [if_pos e] at h ⊢; exact jr_no hd h
  · rw [if_neg e] at h ⊢; exact jr_go hd h
theorem jr_nw {k ci : Nat} {fs : List jx_V} (hd : decode X.2.1 pc = .ok (.new k, 3)) (hn : jt_new X.1 k = some (ci, fs)) : jx_run Z X call (pc, lv, st, w) = jx_run Z X call (pc + 3, lv, .inr (some w.2.1) :: st, jx_nw w (.inr (ci, fs)) fs.length) :=
  jr_go hd (show ja_nw X k pc lv st w = _ by unfold ja_nw; rw [hn]; rfl)
theorem jr_cl {how mid np : Nat} (hd : decode X.2.1 pc = .ok (i, 3)) (hi : jx_I Z X call i 3 pc lv st w = jx_cl call (how, mid, np) pc lv st w) (h1 : np ≤ st.length) (h2 : (st.drop np).length ≤ 8) : jx_run Z X call (pc, lv, st, w) = (call mid (st.take np).reverse w).bind fun t => jx_run Z X call (pc + 3, lv, t.1.toList ++ st.drop np, t.2) := by
  have h : jx_I Z X call i 3 pc lv st w = (match call mid (st.take np).reverse w with | some t => jx_go (pc + 3) lv (t.1.toList ++ st.drop np) t.2 | none => none) := hi.trans (if_pos ⟨h1, h2⟩)
  cases hv : call mid (st.take np).reverse w with
  | none => rw [hv] at h; exact jr_no hd h
  | some v => rw [hv] at h; exact jr_go hd h
theorem jr_cs {k how mid np : Nat} (hd : decode X.2.1 pc = .ok (.invokestatic k, 3)) (hm : jt_ms X.1 k = some (.inl (how, mid, np))) (h1 : np ≤ st.length) (h2 : (st.drop np).length ≤ 8) : jx_run Z X call (pc, lv, st, w) = (call mid (st.take np).reverse w).bind fun t => jx_run Z X call (pc + 3, lv, t.1.toList ++ st.drop np, t.2) :=
  jr_cl hd (show ja_is call X k pc lv st w = _ by unfold ja_is; rw [hm]) h1 h2
theorem jr_mx {k : Nat} {x y : Int32} (hd : decode X.2.1 pc = .ok (.invokestatic k, 3)) (hm : jt_ms X.1 k = some (.inr true)) (h2 : st.length ≤ 8) : jx_run Z X call (pc, lv, .inl y :: .inl x :: st, w) = jx_run Z X call (pc + 3, lv, .inl (if x < y then y else x) :: st, w) :=
  jr_go hd (show ja_is call X k pc lv (.inl y :: .inl x :: st) w = _ by unfold ja_is; rw [hm]; dsimp only; rw [if_pos h2, if_pos rfl]; rfl)
theorem jr_mn {k : Nat} {x y : Int32} (hd : decode X.2.1 pc = .ok (.invokestatic k, 3)) (hm : jt_ms X.1 k = some (.inr false)) (h2 : st.length ≤ 8) : jx_run Z X call (pc, lv, .inl y :: .inl x :: st, w) = jx_run Z X call (pc + 3, lv, .inl (if y < x then y else x) :: st, w) :=
  jr_go hd (show ja_is call X k pc lv (.inl y :: .inl x :: st) w = _ by unfold ja_is; rw [hm]; dsimp only; rw [if_pos h2, if_neg (by decide)]; rfl)
theorem jr_cv {k mid np ci a : Nat} (hd : decode X.2.1 pc = .ok (.invokevirtual k, 3)) (hm : jt_mv X.1 k = some ((2, mid, np), ci)) (hr : st[np - 1]? = some (.inr (some a))) (h1 : np ≤ st.length) (h2 : (st.drop np).length ≤ 8) : jx_run Z X call (pc, lv, st, w) = if jx_is w a ci = true then (call mid (st.take np).reverse w).bind fun t => jx_run Z X call (pc + 3, lv, t.1.toList ++ st.drop np, t.2) else none := by
  have h : jx_I Z X call (.invokevirtual k) 3 pc lv st w = if jx_is w a ci = true then jx_cl call (2, mid, np) pc lv st w else none := by
    show ja_iv call X k pc lv st w = _
    unfold ja_iv; rw [hm]; dsimp only; unfold jx_rv; dsimp only; rw [hr]
  by_cases e : jx_is w a ci = true
  · rw [if_pos e] at h ⊢; exact jr_cl hd h h1 h2
  · rw [if_neg e] at h ⊢; exact jr_no hd h
theorem jr_cn {k how mid np a : Nat} (hd : decode X.2.1 pc = .ok (.invokespecial k, 3)) (hm : jt_mi X.1 k = some (some (how, mid, np))) (hr : st[np - 1]? = some (.inr (some a))) (h1 : np ≤ st.length) (h2 : (st.drop np).length ≤ 8) : jx_run Z X call (pc, lv, st, w) = (call mid (st.take np).reverse w).bind fun t => jx_run Z X call (pc + 3, lv, t.1.toList ++ st.drop np, t.2) :=
  jr_cl hd (show ja_in call X k pc lv st w = _ by unfold ja_in; rw [hm]; dsimp only; unfold jx_rv; dsimp only; rw [hr]) h1 h2
theorem jr_oi {k a : Nat} (hd : decode X.2.1 pc = .ok (.invokespecial k, 3)) (hm : jt_mi X.1 k = some none) (h2 : st.length ≤ 8) : jx_run Z X call (pc, lv, .inr (some a) :: st, w) = jx_run Z X call (pc + 3, lv, st, w) :=
  jr_go hd (show ja_in call X k pc lv (.inr (some a) :: st) w = _ by unfold ja_in; rw [hm]; exact if_pos h2)
theorem jr_ir {x : Int32} (hd : decode X.2.1 pc = .ok (.ireturn, 1)) (hr : X.2.2.2.1 = some .int) : jx_run Z X call (pc, lv, [.inl x], w) = some (some (.inl x), w) :=
  jr_end hd (show ja_ir X [.inl x] w = _ by unfold ja_ir; dsimp only; rw [hr])
theorem jr_zr {x : Int32} (hd : decode X.2.1 pc = .ok (.ireturn, 1)) (hr : X.2.2.2.1 = some .boolean) : jx_run Z X call (pc, lv, [.inl x], w) = if x = 0 ∨ x = 1 then some (some (.inl x), w) else none := by
  have h : jx_I Z X call .ireturn 1 pc lv [.inl x] w = if x = 0 ∨ x = 1 then some (.inr (some (.inl x), w)) else none := by
    show ja_ir X [.inl x] w = _
    unfold ja_ir; dsimp only; rw [hr]
  by_cases e : x = 0 ∨ x = 1
  · rw [if_pos e] at h ⊢; exact jr_end hd h
  · rw [if_neg e] at h ⊢; exact jr_no hd h
theorem jr_ar {C : String} {r : Option Nat} (hd : decode X.2.1 pc = .ok (.areturn, 1)) (hr : X.2.2.2.1 = some (.object C)) : jx_run Z X call (pc, lv, [.inr r], w) = some (some (.inr r), w) :=
  jr_end hd (show ja_ar X [.inr r] w = _ by unfold ja_ar; dsimp only; rw [hr])
theorem jr_vr (hd : decode X.2.1 pc = .ok (.return_, 1)) (hr : X.2.2.2.1 = none) : jx_run Z X call (pc, lv, [], w) = some (none, w) :=
  jr_end hd (show ja_vr X [] w = _ by unfold ja_vr; dsimp only; rw [hr])
end JR
theorem jx_m_eq {Z : jx_Sc} {d k n : Nat} {as : List jx_V} {w : jx_W} {y : MethodName} {X : jx_X} (hM : jt_M k = some (y, X, n)) (hn : as.length = n) : jx_m Z (d + 1) k as w = jx_run Z X (jx_m Z d) (0, as.map some ++ List.replicate (X.2.2.1 - as.length) none, [], w) := by
  simp only [jx_m, hM]
  exact if_pos hn
end
