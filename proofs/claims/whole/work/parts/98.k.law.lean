/-! the law: one round of its loop (text by gen_law.py) -/
def jl_S (K : jy_K) (i : Nat) (b : Nat) : List (Option jx_V) := [some (.inr (some b)), some (.inr (some (K.2.1 0 0))), some (.inr (some (K.2.1 20 0))), some (.inl (nI i))]
/-- what a round leaves -/
def jl_N (Z : jx_Sc) (K : jy_K) (f : jy_I) (g : jy_R) (i : Nat) (pc : Nat) : Prop := ∃ (K' : jy_K) (g' : jy_R) (f' : jy_I) (cc' n' : Nat), jx_run Z jX_Lw_law (jx_m Z 8) (pc, jl_S K i Z.1, [], jy_w K f g) = jx_run Z jX_Lw_law (jx_m Z 8) (875, jl_S K' i Z.1, [], jy_w K' f' g') ∧ jI K' g' f' f' cc' n' ∧ jl_R K' g' ∧ jE K K'
section LW
variable {Z : jx_Sc} {K : jy_K} {g : jy_R} {f : jy_I} {cc n i : Nat}
theorem jl_rd (hZ : K.1 Z.1 = none) (hL : Z.2.1 ≤ 3586) {j : Nat} (hj : j < Z.2.1) : jx_gI Z 0 (jy_w K f g) Z.1 (nI j) = some (Z.2.2 j) := by
  rw [jy_gS hZ, if_neg (nI_in hj (by omega)), nI_clamp (by omega)]
theorem jl_deposit (hI : jI K g f f cc n) (hR : jl_R K g) (hZ : K.1 Z.1 = none) (hb : Z.1 < K.2.2.1) (hL : Z.2.1 ≤ 3586) (hi : i + 7 ≤ Z.2.1) : jl_N Z K f g i 144 := by
  obtain ⟨a, K', g', f1, f2, cc', n', c1, r1, I', C', R', E'⟩ := jL.two (Z := Z) (d := 8) (mC := 1) (mR := 67) (as := [.inl (Z.2.2 (i + 1)), .inl (Z.2.2 (i + 2))]) hI (fun fR h => js_dep h hR)
  have hZ' : K'.1 Z.1 = none := (E'.2.2.2.2.2 _ hb).trans hZ
  have i1 := cu_is (f := f) hI.1
  have i2 := ru_is (f := f1) R'
  rw [E'.2.1] at i2
  have e1 : nI i + 1 = nI (i + 1) := jz_add i 1
  have p1 := jl_rd (f := f) (g := g) hZ hL (show i + 1 < Z.2.1 by omega)
  have q1 := jl_rd (f := f1) (g := g') hZ' hL (show i + 1 < Z.2.1 by omega)
  have e2 : nI i + 2 = nI (i + 2) := jz_add i 2
  have p2 := jl_rd (f := f) (g := g) hZ hL (show i + 2 < Z.2.1 by omega)
  have q2 := jl_rd (f := f1) (g := g') hZ' hL (show i + 2 < Z.2.1 by omega)
  refine ⟨K', g', f2, cc', n', ?_, I', R', E'⟩
  unfold jl_S
  rw [E'.1, E'.2.1]
  simp only [x_Lw_law_144, x_Lw_law_145, x_Lw_law_146, x_Lw_law_147, x_Lw_law_148, x_Lw_law_149, x_Lw_law_150, x_Lw_law_151, x_Lw_law_152, x_Lw_law_153, x_Lw_law_154, x_Lw_law_155, x_Lw_law_158, x_Lw_law_159, x_Lw_law_160, x_Lw_law_161, x_Lw_law_162, x_Lw_law_163, x_Lw_law_164, x_Lw_law_165, x_Lw_law_166, x_Lw_law_167, x_Lw_law_168, x_Lw_law_169, x_Lw_law_172, e1, e2, p1, p2, q1, q2, i1, i2, c1, r1, Option.bind_some, Option.toList_some, Option.toList_none, List.cons_append, List.nil_append, ↓reduceIte]
theorem jl_send (hI : jI K g f f cc n) (hR : jl_R K g) (hZ : K.1 Z.1 = none) (hb : Z.1 < K.2.2.1) (hL : Z.2.1 ≤ 3586) (hi : i + 7 ≤ Z.2.1) : jl_N Z K f g i 177 := by
  obtain ⟨a, K', g', f1, f2, cc', n', c1, r1, I', C', R', E'⟩ := jL.two (Z := Z) (d := 8) (mC := 12) (mR := 70) (as := [.inl (Z.2.2 (i + 1)), .inl (Z.2.2 (i + 2)), .inl (Z.2.2 (i + 3))]) hI (fun fR h => js_send h hR)
  have hZ' : K'.1 Z.1 = none := (E'.2.2.2.2.2 _ hb).trans hZ
  have i1 := cu_is (f := f) hI.1
  have i2 := ru_is (f := f1) R'
  rw [E'.2.1] at i2
  have e1 : nI i + 1 = nI (i + 1) := jz_add i 1
  have p1 := jl_rd (f := f) (g := g) hZ hL (show i + 1 < Z.2.1 by omega)
  have q1 := jl_rd (f := f1) (g := g') hZ' hL (show i + 1 < Z.2.1 by omega)
  have e2 : nI i + 2 = nI (i + 2) := jz_add i 2
  have p2 := jl_rd (f := f) (g := g) hZ hL (show i + 2 < Z.2.1 by omega)
  have q2 := jl_rd (f := f1) (g := g') hZ' hL (show i + 2 < Z.2.1 by omega)
  have e3 : nI i + 3 = nI (i + 3) := jz_add i 3
  have p3 := jl_rd (f := f) (g := g) hZ hL (show i + 3 < Z.2.1 by omega)
  have q3 := jl_rd (f := f1) (g := g') hZ' hL (show i + 3 < Z.2.1 by omega)
  refine ⟨K', g', f2, cc', n', ?_, I', R', E'⟩
  unfold jl_S
  rw [E'.1, E'.2.1]
  simp only [x_Lw_law_177, x_Lw_law_178, x_Lw_law_179, x_Lw_law_180, x_Lw_law_181, x_Lw_law_182, x_Lw_law_183, x_Lw_law_184, x_Lw_law_185, x_Lw_law_186, x_Lw_law_187, x_Lw_law_188, x_Lw_law_189, x_Lw_law_190, x_Lw_law_191, x_Lw_law_192, x_Lw_law_193, x_Lw_law_196, x_Lw_law_197, x_Lw_law_198, x_Lw_law_199, x_Lw_law_200, x_Lw_law_201, x_Lw_law_202, x_Lw_law_203, x_Lw_law_204, x_Lw_law_205, x_Lw_law_206, x_Lw_law_207, x_Lw_law_208, x_Lw_law_209, x_Lw_law_210, x_Lw_law_211, x_Lw_law_212, x_Lw_law_215, e1, e2, e3, p1, p2, p3, q1, q2, q3, i1, i2, c1, r1, Option.bind_some, Option.toList_some, Option.toList_none, List.cons_append, List.nil_append, ↓reduceIte]
theorem jl_forge (hI : jI K g f f cc n) (hR : jl_R K g) (hZ : K.1 Z.1 = none) (hb : Z.1 < K.2.2.1) (hL : Z.2.1 ≤ 3586) (hi : i + 7 ≤ Z.2.1) : jl_N Z K f g i 220 := by
  obtain ⟨a, K', g', f1, f2, cc', n', c1, r1, I', C', R', E'⟩ := jL.two (Z := Z) (d := 8) (mC := 16) (mR := 75) (as := [.inl (Z.2.2 (i + 1)), .inl (Z.2.2 (i + 2)), .inl (Z.2.2 (i + 3)), .inl (Z.2.2 (i + 4)), .inl (Z.2.2 (i + 5))]) hI (fun fR h => js_forge h hR)
  have hZ' : K'.1 Z.1 = none := (E'.2.2.2.2.2 _ hb).trans hZ
  have i1 := cu_is (f := f) hI.1
  have i2 := ru_is (f := f1) R'
  rw [E'.2.1] at i2
  have e1 : nI i + 1 = nI (i + 1) := jz_add i 1
  have p1 := jl_rd (f := f) (g := g) hZ hL (show i + 1 < Z.2.1 by omega)
  have q1 := jl_rd (f := f1) (g := g') hZ' hL (show i + 1 < Z.2.1 by omega)
  have e2 : nI i + 2 = nI (i + 2) := jz_add i 2
  have p2 := jl_rd (f := f) (g := g) hZ hL (show i + 2 < Z.2.1 by omega)
  have q2 := jl_rd (f := f1) (g := g') hZ' hL (show i + 2 < Z.2.1 by omega)
  have e3 : nI i + 3 = nI (i + 3) := jz_add i 3
  have p3 := jl_rd (f := f) (g := g) hZ hL (show i + 3 < Z.2.1 by omega)
  have q3 := jl_rd (f := f1) (g := g') hZ' hL (show i + 3 < Z.2.1 by omega)
  have e4 : nI i + 4 = nI (i + 4) := jz_add i 4
  have p4 := jl_rd (f := f) (g := g) hZ hL (show i + 4 < Z.2.1 by omega)
  have q4 := jl_rd (f := f1) (g := g') hZ' hL (show i + 4 < Z.2.1 by omega)
  have e5 : nI i + 5 = nI (i + 5) := jz_add i 5
  have p5 := jl_rd (f := f) (g := g) hZ hL (show i + 5 < Z.2.1 by omega)
  have q5 := jl_rd (f := f1) (g := g') hZ' hL (show i + 5 < Z.2.1 by omega)
  refine ⟨K', g', f2, cc', n', ?_, I', R', E'⟩
  unfold jl_S
  rw [E'.1, E'.2.1]
  simp only [x_Lw_law_220, x_Lw_law_221, x_Lw_law_222, x_Lw_law_223, x_Lw_law_224, x_Lw_law_225, x_Lw_law_226, x_Lw_law_227, x_Lw_law_228, x_Lw_law_229, x_Lw_law_230, x_Lw_law_231, x_Lw_law_232, x_Lw_law_233, x_Lw_law_234, x_Lw_law_235, x_Lw_law_236, x_Lw_law_237, x_Lw_law_238, x_Lw_law_239, x_Lw_law_240, x_Lw_law_241, x_Lw_law_242, x_Lw_law_243, x_Lw_law_244, x_Lw_law_245, x_Lw_law_246, x_Lw_law_249, x_Lw_law_250, x_Lw_law_251, x_Lw_law_252, x_Lw_law_253, x_Lw_law_254, x_Lw_law_255, x_Lw_law_256, x_Lw_law_257, x_Lw_law_258, x_Lw_law_259, x_Lw_law_260, x_Lw_law_261, x_Lw_law_262, x_Lw_law_263, x_Lw_law_264, x_Lw_law_265, x_Lw_law_266, x_Lw_law_267, x_Lw_law_268, x_Lw_law_269, x_Lw_law_270, x_Lw_law_271, x_Lw_law_272, x_Lw_law_273, x_Lw_law_274, x_Lw_law_275, x_Lw_law_278, e1, e2, e3, e4, e5, p1, p2, p3, p4, p5, q1, q2, q3, q4, q5, i1, i2, c1, r1, Option.bind_some, Option.toList_some, Option.toList_none, List.cons_append, List.nil_append, ↓reduceIte]
theorem jl_build (hI : jI K g f f cc n) (hR : jl_R K g) (hZ : K.1 Z.1 = none) (hb : Z.1 < K.2.2.1) (hL : Z.2.1 ≤ 3586) (hi : i + 7 ≤ Z.2.1) : jl_N Z K f g i 283 := by
  obtain ⟨a, K', g', f1, f2, cc', n', c1, r1, I', C', R', E'⟩ := jL.two (Z := Z) (d := 8) (mC := 18) (mR := 76) (as := [.inl (if Z.2.2 (i + 1) = 0 then 0 else 1), .inl (if Z.2.2 (i + 2) = 0 then 0 else 1)]) hI (fun fR h => js_bld h hR (by by_cases z : Z.2.2 (i + 2) = 0 <;> simp [z]))
  have hZ' : K'.1 Z.1 = none := (E'.2.2.2.2.2 _ hb).trans hZ
  have i1 := cu_is (f := f) hI.1
  have i2 := ru_is (f := f1) R'
  rw [E'.2.1] at i2
  have e1 : nI i + 1 = nI (i + 1) := jz_add i 1
  have p1 := jl_rd (f := f) (g := g) hZ hL (show i + 1 < Z.2.1 by omega)
  have q1 := jl_rd (f := f1) (g := g') hZ' hL (show i + 1 < Z.2.1 by omega)
  have e2 : nI i + 2 = nI (i + 2) := jz_add i 2
  have p2 := jl_rd (f := f) (g := g) hZ hL (show i + 2 < Z.2.1 by omega)
  have q2 := jl_rd (f := f1) (g := g') hZ' hL (show i + 2 < Z.2.1 by omega)
  refine ⟨K', g', f2, cc', n', ?_, I', R', E'⟩
  unfold jl_S
  rw [E'.1, E'.2.1]
  by_cases z1 : Z.2.2 (i + 1) = 0 <;> by_cases z2 : Z.2.2 (i + 2) = 0 <;> simp only [z1, z2, ↓reduceIte] at c1 r1 <;> simp only [x_Lw_law_283, x_Lw_law_284, x_Lw_law_285, x_Lw_law_286, x_Lw_law_287, x_Lw_law_288, x_Lw_law_289, x_Lw_law_292, x_Lw_law_293, x_Lw_law_296, x_Lw_law_297, x_Lw_law_298, x_Lw_law_299, x_Lw_law_300, x_Lw_law_301, x_Lw_law_302, x_Lw_law_305, x_Lw_law_306, x_Lw_law_309, x_Lw_law_310, x_Lw_law_313, x_Lw_law_314, x_Lw_law_315, x_Lw_law_316, x_Lw_law_317, x_Lw_law_318, x_Lw_law_319, x_Lw_law_322, x_Lw_law_323, x_Lw_law_326, x_Lw_law_327, x_Lw_law_328, x_Lw_law_329, x_Lw_law_330, x_Lw_law_331, x_Lw_law_332, x_Lw_law_335, x_Lw_law_336, x_Lw_law_339, x_Lw_law_340, x_Lw_law_343, e1, e2, p1, p2, q1, q2, i1, i2, c1, r1, z1, z2, Option.bind_some, Option.toList_some, Option.toList_none, List.cons_append, List.nil_append, ↓reduceIte]
theorem jl_show (hI : jI K g f f cc n) (hR : jl_R K g) (hZ : K.1 Z.1 = none) (hb : Z.1 < K.2.2.1) (hL : Z.2.1 ≤ 3586) (hi : i + 7 ≤ Z.2.1) : jl_N Z K f g i 348 := by
  obtain ⟨a, K', g', f1, f2, cc', n', c1, r1, I', C', R', E'⟩ := jL.two (Z := Z) (d := 8) (mC := 23) (mR := 79) (as := [.inl (Z.2.2 (i + 1))]) hI (fun fR h => js_show h hR)
  have hZ' : K'.1 Z.1 = none := (E'.2.2.2.2.2 _ hb).trans hZ
  have i1 := cu_is (f := f) hI.1
  have i2 := ru_is (f := f1) R'
  rw [E'.2.1] at i2
  have e1 : nI i + 1 = nI (i + 1) := jz_add i 1
  have p1 := jl_rd (f := f) (g := g) hZ hL (show i + 1 < Z.2.1 by omega)
  have q1 := jl_rd (f := f1) (g := g') hZ' hL (show i + 1 < Z.2.1 by omega)
  refine ⟨K', g', f2, cc', n', ?_, I', R', E'⟩
  unfold jl_S
  rw [E'.1, E'.2.1]
  simp only [x_Lw_law_348, x_Lw_law_349, x_Lw_law_350, x_Lw_law_351, x_Lw_law_352, x_Lw_law_353, x_Lw_law_354, x_Lw_law_357, x_Lw_law_358, x_Lw_law_359, x_Lw_law_360, x_Lw_law_361, x_Lw_law_362, x_Lw_law_363, x_Lw_law_366, e1, p1, q1, i1, i2, c1, r1, Option.bind_some, Option.toList_some, Option.toList_none, List.cons_append, List.nil_append, ↓reduceIte]
theorem jl_accept (hI : jI K g f f cc n) (hR : jl_R K g) (hZ : K.1 Z.1 = none) (hb : Z.1 < K.2.2.1) (hL : Z.2.1 ≤ 3586) (hi : i + 7 ≤ Z.2.1) : jl_N Z K f g i 371 := by
  obtain ⟨a, K', g', f1, f2, cc', n', c1, r1, I', C', R', E'⟩ := jL.two (Z := Z) (d := 8) (mC := 24) (mR := 81) (as := [.inl (Z.2.2 (i + 1)), .inl (Z.2.2 (i + 2))]) hI (fun fR h => js_acc h hR)
  have hZ' : K'.1 Z.1 = none := (E'.2.2.2.2.2 _ hb).trans hZ
  have i1 := cu_is (f := f) hI.1
  have i2 := ru_is (f := f1) R'
  rw [E'.2.1] at i2
  have e1 : nI i + 1 = nI (i + 1) := jz_add i 1
  have p1 := jl_rd (f := f) (g := g) hZ hL (show i + 1 < Z.2.1 by omega)
  have q1 := jl_rd (f := f1) (g := g') hZ' hL (show i + 1 < Z.2.1 by omega)
  have e2 : nI i + 2 = nI (i + 2) := jz_add i 2
  have p2 := jl_rd (f := f) (g := g) hZ hL (show i + 2 < Z.2.1 by omega)
  have q2 := jl_rd (f := f1) (g := g') hZ' hL (show i + 2 < Z.2.1 by omega)
  refine ⟨K', g', f2, cc', n', ?_, I', R', E'⟩
  unfold jl_S
  rw [E'.1, E'.2.1]
  simp only [x_Lw_law_371, x_Lw_law_372, x_Lw_law_373, x_Lw_law_374, x_Lw_law_375, x_Lw_law_376, x_Lw_law_377, x_Lw_law_378, x_Lw_law_379, x_Lw_law_380, x_Lw_law_381, x_Lw_law_382, x_Lw_law_385, x_Lw_law_386, x_Lw_law_387, x_Lw_law_388, x_Lw_law_389, x_Lw_law_390, x_Lw_law_391, x_Lw_law_392, x_Lw_law_393, x_Lw_law_394, x_Lw_law_395, x_Lw_law_396, x_Lw_law_399, e1, e2, p1, p2, q1, q2, i1, i2, c1, r1, Option.bind_some, Option.toList_some, Option.toList_none, List.cons_append, List.nil_append, ↓reduceIte]
theorem jl_exit (hI : jI K g f f cc n) (hR : jl_R K g) (hZ : K.1 Z.1 = none) (hb : Z.1 < K.2.2.1) (hL : Z.2.1 ≤ 3586) (hi : i + 7 ≤ Z.2.1) : jl_N Z K f g i 404 := by
  obtain ⟨a, K', g', f1, f2, cc', n', c1, r1, I', C', R', E'⟩ := jL.two (Z := Z) (d := 8) (mC := 29) (mR := 85) (as := [.inl (Z.2.2 (i + 1)), .inl (Z.2.2 (i + 2)), .inl (Z.2.2 (i + 3))]) hI (fun fR h => jM.L hR (js_exit (d := 3) (dr := 3) h hR))
  have hZ' : K'.1 Z.1 = none := (E'.2.2.2.2.2 _ hb).trans hZ
  have i1 := cu_is (f := f) hI.1
  have i2 := ru_is (f := f1) R'
  rw [E'.2.1] at i2
  have e1 : nI i + 1 = nI (i + 1) := jz_add i 1
  have p1 := jl_rd (f := f) (g := g) hZ hL (show i + 1 < Z.2.1 by omega)
  have q1 := jl_rd (f := f1) (g := g') hZ' hL (show i + 1 < Z.2.1 by omega)
  have e2 : nI i + 2 = nI (i + 2) := jz_add i 2
  have p2 := jl_rd (f := f) (g := g) hZ hL (show i + 2 < Z.2.1 by omega)
  have q2 := jl_rd (f := f1) (g := g') hZ' hL (show i + 2 < Z.2.1 by omega)
  have e3 : nI i + 3 = nI (i + 3) := jz_add i 3
  have p3 := jl_rd (f := f) (g := g) hZ hL (show i + 3 < Z.2.1 by omega)
  have q3 := jl_rd (f := f1) (g := g') hZ' hL (show i + 3 < Z.2.1 by omega)
  refine ⟨K', g', f2, cc', n', ?_, I', R', E'⟩
  unfold jl_S
  rw [E'.1, E'.2.1]
  simp only [x_Lw_law_404, x_Lw_law_405, x_Lw_law_406, x_Lw_law_407, x_Lw_law_408, x_Lw_law_409, x_Lw_law_410, x_Lw_law_411, x_Lw_law_412, x_Lw_law_413, x_Lw_law_414, x_Lw_law_415, x_Lw_law_416, x_Lw_law_417, x_Lw_law_418, x_Lw_law_419, x_Lw_law_420, x_Lw_law_423, x_Lw_law_424, x_Lw_law_425, x_Lw_law_426, x_Lw_law_427, x_Lw_law_428, x_Lw_law_429, x_Lw_law_430, x_Lw_law_431, x_Lw_law_432, x_Lw_law_433, x_Lw_law_434, x_Lw_law_435, x_Lw_law_436, x_Lw_law_437, x_Lw_law_438, x_Lw_law_439, x_Lw_law_442, e1, e2, e3, p1, p2, p3, q1, q2, q3, i1, i2, c1, r1, Option.bind_some, Option.toList_some, Option.toList_none, List.cons_append, List.nil_append, ↓reduceIte]
theorem jl_after (hI : jI K g f f cc n) (hR : jl_R K g) (hZ : K.1 Z.1 = none) (hb : Z.1 < K.2.2.1) (hL : Z.2.1 ≤ 3586) (hi : i + 7 ≤ Z.2.1) : jl_N Z K f g i 447 := by
  obtain ⟨a, K', g', f1, f2, cc', n', c1, r1, I', C', R', E'⟩ := jL.two (Z := Z) (d := 8) (mC := 32) (mR := 86) (as := [.inl (Z.2.2 (i + 1)), .inl (Z.2.2 (i + 2)), .inl (Z.2.2 (i + 3))]) hI (fun fR h => jM.L hR (js_aft (d := 4) (dr := 3) h hR))
  have hZ' : K'.1 Z.1 = none := (E'.2.2.2.2.2 _ hb).trans hZ
  have i1 := cu_is (f := f) hI.1
  have i2 := ru_is (f := f1) R'
  rw [E'.2.1] at i2
  have e1 : nI i + 1 = nI (i + 1) := jz_add i 1
  have p1 := jl_rd (f := f) (g := g) hZ hL (show i + 1 < Z.2.1 by omega)
  have q1 := jl_rd (f := f1) (g := g') hZ' hL (show i + 1 < Z.2.1 by omega)
  have e2 : nI i + 2 = nI (i + 2) := jz_add i 2
  have p2 := jl_rd (f := f) (g := g) hZ hL (show i + 2 < Z.2.1 by omega)
  have q2 := jl_rd (f := f1) (g := g') hZ' hL (show i + 2 < Z.2.1 by omega)
  have e3 : nI i + 3 = nI (i + 3) := jz_add i 3
  have p3 := jl_rd (f := f) (g := g) hZ hL (show i + 3 < Z.2.1 by omega)
  have q3 := jl_rd (f := f1) (g := g') hZ' hL (show i + 3 < Z.2.1 by omega)
  refine ⟨K', g', f2, cc', n', ?_, I', R', E'⟩
  unfold jl_S
  rw [E'.1, E'.2.1]
  simp only [x_Lw_law_447, x_Lw_law_448, x_Lw_law_449, x_Lw_law_450, x_Lw_law_451, x_Lw_law_452, x_Lw_law_453, x_Lw_law_454, x_Lw_law_455, x_Lw_law_456, x_Lw_law_457, x_Lw_law_458, x_Lw_law_459, x_Lw_law_460, x_Lw_law_461, x_Lw_law_462, x_Lw_law_463, x_Lw_law_466, x_Lw_law_467, x_Lw_law_468, x_Lw_law_469, x_Lw_law_470, x_Lw_law_471, x_Lw_law_472, x_Lw_law_473, x_Lw_law_474, x_Lw_law_475, x_Lw_law_476, x_Lw_law_477, x_Lw_law_478, x_Lw_law_479, x_Lw_law_480, x_Lw_law_481, x_Lw_law_482, x_Lw_law_485, e1, e2, e3, p1, p2, p3, q1, q2, q3, i1, i2, c1, r1, Option.bind_some, Option.toList_some, Option.toList_none, List.cons_append, List.nil_append, ↓reduceIte]
theorem jl_between (hI : jI K g f f cc n) (hR : jl_R K g) (hZ : K.1 Z.1 = none) (hb : Z.1 < K.2.2.1) (hL : Z.2.1 ≤ 3586) (hi : i + 7 ≤ Z.2.1) : jl_N Z K f g i 490 := by
  obtain ⟨a, K', g', f1, f2, cc', n', c1, r1, I', C', R', E'⟩ := jL.two (Z := Z) (d := 8) (mC := 39) (mR := 89) (as := [.inl (Z.2.2 (i + 1)), .inl (Z.2.2 (i + 2)), .inl (Z.2.2 (i + 3))]) hI (fun fR h => jM.L hR (js_btw (d := 4) (dr := 3) h hR))
  have hZ' : K'.1 Z.1 = none := (E'.2.2.2.2.2 _ hb).trans hZ
  have i1 := cu_is (f := f) hI.1
  have i2 := ru_is (f := f1) R'
  rw [E'.2.1] at i2
  have e1 : nI i + 1 = nI (i + 1) := jz_add i 1
  have p1 := jl_rd (f := f) (g := g) hZ hL (show i + 1 < Z.2.1 by omega)
  have q1 := jl_rd (f := f1) (g := g') hZ' hL (show i + 1 < Z.2.1 by omega)
  have e2 : nI i + 2 = nI (i + 2) := jz_add i 2
  have p2 := jl_rd (f := f) (g := g) hZ hL (show i + 2 < Z.2.1 by omega)
  have q2 := jl_rd (f := f1) (g := g') hZ' hL (show i + 2 < Z.2.1 by omega)
  have e3 : nI i + 3 = nI (i + 3) := jz_add i 3
  have p3 := jl_rd (f := f) (g := g) hZ hL (show i + 3 < Z.2.1 by omega)
  have q3 := jl_rd (f := f1) (g := g') hZ' hL (show i + 3 < Z.2.1 by omega)
  refine ⟨K', g', f2, cc', n', ?_, I', R', E'⟩
  unfold jl_S
  rw [E'.1, E'.2.1]
  simp only [x_Lw_law_490, x_Lw_law_491, x_Lw_law_492, x_Lw_law_493, x_Lw_law_494, x_Lw_law_495, x_Lw_law_496, x_Lw_law_497, x_Lw_law_498, x_Lw_law_499, x_Lw_law_500, x_Lw_law_501, x_Lw_law_502, x_Lw_law_503, x_Lw_law_504, x_Lw_law_505, x_Lw_law_506, x_Lw_law_509, x_Lw_law_510, x_Lw_law_511, x_Lw_law_512, x_Lw_law_513, x_Lw_law_514, x_Lw_law_515, x_Lw_law_516, x_Lw_law_517, x_Lw_law_518, x_Lw_law_519, x_Lw_law_520, x_Lw_law_521, x_Lw_law_522, x_Lw_law_523, x_Lw_law_524, x_Lw_law_525, x_Lw_law_528, e1, e2, e3, p1, p2, p3, q1, q2, q3, i1, i2, c1, r1, Option.bind_some, Option.toList_some, Option.toList_none, List.cons_append, List.nil_append, ↓reduceIte]
theorem jl_before (hI : jI K g f f cc n) (hR : jl_R K g) (hZ : K.1 Z.1 = none) (hb : Z.1 < K.2.2.1) (hL : Z.2.1 ≤ 3586) (hi : i + 7 ≤ Z.2.1) : jl_N Z K f g i 533 := by
  obtain ⟨a, K', g', f1, f2, cc', n', c1, r1, I', C', R', E'⟩ := jL.two (Z := Z) (d := 8) (mC := 40) (mR := 90) (as := [.inl (Z.2.2 (i + 1)), .inl (Z.2.2 (i + 2)), .inl (Z.2.2 (i + 3))]) hI (fun fR h => jM.L hR (js_bef (d := 4) (dr := 4) h hR))
  have hZ' : K'.1 Z.1 = none := (E'.2.2.2.2.2 _ hb).trans hZ
  have i1 := cu_is (f := f) hI.1
  have i2 := ru_is (f := f1) R'
  rw [E'.2.1] at i2
  have e1 : nI i + 1 = nI (i + 1) := jz_add i 1
  have p1 := jl_rd (f := f) (g := g) hZ hL (show i + 1 < Z.2.1 by omega)
  have q1 := jl_rd (f := f1) (g := g') hZ' hL (show i + 1 < Z.2.1 by omega)
  have e2 : nI i + 2 = nI (i + 2) := jz_add i 2
  have p2 := jl_rd (f := f) (g := g) hZ hL (show i + 2 < Z.2.1 by omega)
  have q2 := jl_rd (f := f1) (g := g') hZ' hL (show i + 2 < Z.2.1 by omega)
  have e3 : nI i + 3 = nI (i + 3) := jz_add i 3
  have p3 := jl_rd (f := f) (g := g) hZ hL (show i + 3 < Z.2.1 by omega)
  have q3 := jl_rd (f := f1) (g := g') hZ' hL (show i + 3 < Z.2.1 by omega)
  refine ⟨K', g', f2, cc', n', ?_, I', R', E'⟩
  unfold jl_S
  rw [E'.1, E'.2.1]
  simp only [x_Lw_law_533, x_Lw_law_534, x_Lw_law_535, x_Lw_law_536, x_Lw_law_537, x_Lw_law_538, x_Lw_law_539, x_Lw_law_540, x_Lw_law_541, x_Lw_law_542, x_Lw_law_543, x_Lw_law_544, x_Lw_law_545, x_Lw_law_546, x_Lw_law_547, x_Lw_law_548, x_Lw_law_549, x_Lw_law_552, x_Lw_law_553, x_Lw_law_554, x_Lw_law_555, x_Lw_law_556, x_Lw_law_557, x_Lw_law_558, x_Lw_law_559, x_Lw_law_560, x_Lw_law_561, x_Lw_law_562, x_Lw_law_563, x_Lw_law_564, x_Lw_law_565, x_Lw_law_566, x_Lw_law_567, x_Lw_law_568, x_Lw_law_571, e1, e2, e3, p1, p2, p3, q1, q2, q3, i1, i2, c1, r1, Option.bind_some, Option.toList_some, Option.toList_none, List.cons_append, List.nil_append, ↓reduceIte]
theorem jl_answer (hI : jI K g f f cc n) (hR : jl_R K g) (hZ : K.1 Z.1 = none) (hb : Z.1 < K.2.2.1) (hL : Z.2.1 ≤ 3586) (hi : i + 7 ≤ Z.2.1) : jl_N Z K f g i 576 := by
  obtain ⟨a, K', g', f1, f2, cc', n', c1, r1, I', C', R', E'⟩ := jL.two (Z := Z) (d := 8) (mC := 44) (mR := 91) (as := [.inl (Z.2.2 (i + 1)), .inl (Z.2.2 (i + 2)), .inl (Z.2.2 (i + 3))]) hI (fun fR h => jM.L hR (js_ans (d := 4) (dr := 3) h hR))
  have hZ' : K'.1 Z.1 = none := (E'.2.2.2.2.2 _ hb).trans hZ
  have i1 := cu_is (f := f) hI.1
  have i2 := ru_is (f := f1) R'
  rw [E'.2.1] at i2
  have e1 : nI i + 1 = nI (i + 1) := jz_add i 1
  have p1 := jl_rd (f := f) (g := g) hZ hL (show i + 1 < Z.2.1 by omega)
  have q1 := jl_rd (f := f1) (g := g') hZ' hL (show i + 1 < Z.2.1 by omega)
  have e2 : nI i + 2 = nI (i + 2) := jz_add i 2
  have p2 := jl_rd (f := f) (g := g) hZ hL (show i + 2 < Z.2.1 by omega)
  have q2 := jl_rd (f := f1) (g := g') hZ' hL (show i + 2 < Z.2.1 by omega)
  have e3 : nI i + 3 = nI (i + 3) := jz_add i 3
  have p3 := jl_rd (f := f) (g := g) hZ hL (show i + 3 < Z.2.1 by omega)
  have q3 := jl_rd (f := f1) (g := g') hZ' hL (show i + 3 < Z.2.1 by omega)
  refine ⟨K', g', f2, cc', n', ?_, I', R', E'⟩
  unfold jl_S
  rw [E'.1, E'.2.1]
  simp only [x_Lw_law_576, x_Lw_law_577, x_Lw_law_578, x_Lw_law_579, x_Lw_law_580, x_Lw_law_581, x_Lw_law_582, x_Lw_law_583, x_Lw_law_584, x_Lw_law_585, x_Lw_law_586, x_Lw_law_587, x_Lw_law_588, x_Lw_law_589, x_Lw_law_590, x_Lw_law_591, x_Lw_law_592, x_Lw_law_595, x_Lw_law_596, x_Lw_law_597, x_Lw_law_598, x_Lw_law_599, x_Lw_law_600, x_Lw_law_601, x_Lw_law_602, x_Lw_law_603, x_Lw_law_604, x_Lw_law_605, x_Lw_law_606, x_Lw_law_607, x_Lw_law_608, x_Lw_law_609, x_Lw_law_610, x_Lw_law_611, x_Lw_law_614, e1, e2, e3, p1, p2, p3, q1, q2, q3, i1, i2, c1, r1, Option.bind_some, Option.toList_some, Option.toList_none, List.cons_append, List.nil_append, ↓reduceIte]
theorem jl_finalise (hI : jI K g f f cc n) (hR : jl_R K g) (hZ : K.1 Z.1 = none) (hb : Z.1 < K.2.2.1) (hL : Z.2.1 ≤ 3586) (hi : i + 7 ≤ Z.2.1) : jl_N Z K f g i 619 := by
  obtain ⟨a, K', g', f1, f2, cc', n', c1, r1, I', C', R', E'⟩ := jL.two (Z := Z) (d := 8) (mC := 46) (mR := 92) (as := [.inl (Z.2.2 (i + 1))]) hI (fun fR h => js_fin h hR)
  have hZ' : K'.1 Z.1 = none := (E'.2.2.2.2.2 _ hb).trans hZ
  have i1 := cu_is (f := f) hI.1
  have i2 := ru_is (f := f1) R'
  rw [E'.2.1] at i2
  have e1 : nI i + 1 = nI (i + 1) := jz_add i 1
  have p1 := jl_rd (f := f) (g := g) hZ hL (show i + 1 < Z.2.1 by omega)
  have q1 := jl_rd (f := f1) (g := g') hZ' hL (show i + 1 < Z.2.1 by omega)
  refine ⟨K', g', f2, cc', n', ?_, I', R', E'⟩
  unfold jl_S
  rw [E'.1, E'.2.1]
  simp only [x_Lw_law_619, x_Lw_law_620, x_Lw_law_621, x_Lw_law_622, x_Lw_law_623, x_Lw_law_624, x_Lw_law_625, x_Lw_law_628, x_Lw_law_629, x_Lw_law_630, x_Lw_law_631, x_Lw_law_632, x_Lw_law_633, x_Lw_law_634, x_Lw_law_637, e1, p1, q1, i1, i2, c1, r1, Option.bind_some, Option.toList_some, Option.toList_none, List.cons_append, List.nil_append, ↓reduceIte]
theorem jl_watch (hI : jI K g f f cc n) (hR : jl_R K g) (hZ : K.1 Z.1 = none) (hb : Z.1 < K.2.2.1) (hL : Z.2.1 ≤ 3586) (hi : i + 7 ≤ Z.2.1) : jl_N Z K f g i 642 := by
  obtain ⟨a, K', g', f1, f2, cc', n', c1, r1, I', C', R', E'⟩ := jL.two (Z := Z) (d := 8) (mC := 48) (mR := 93) (as := [.inl (Z.2.2 (i + 1))]) hI (fun fR h => js_watch h hR)
  have hZ' : K'.1 Z.1 = none := (E'.2.2.2.2.2 _ hb).trans hZ
  have i1 := cu_is (f := f) hI.1
  have i2 := ru_is (f := f1) R'
  rw [E'.2.1] at i2
  have e1 : nI i + 1 = nI (i + 1) := jz_add i 1
  have p1 := jl_rd (f := f) (g := g) hZ hL (show i + 1 < Z.2.1 by omega)
  have q1 := jl_rd (f := f1) (g := g') hZ' hL (show i + 1 < Z.2.1 by omega)
  refine ⟨K', g', f2, cc', n', ?_, I', R', E'⟩
  unfold jl_S
  rw [E'.1, E'.2.1]
  simp only [x_Lw_law_642, x_Lw_law_643, x_Lw_law_644, x_Lw_law_645, x_Lw_law_646, x_Lw_law_647, x_Lw_law_648, x_Lw_law_651, x_Lw_law_652, x_Lw_law_653, x_Lw_law_654, x_Lw_law_655, x_Lw_law_656, x_Lw_law_657, x_Lw_law_660, e1, p1, q1, i1, i2, c1, r1, Option.bind_some, Option.toList_some, Option.toList_none, List.cons_append, List.nil_append, ↓reduceIte]
theorem jl_tick (hI : jI K g f f cc n) (hR : jl_R K g) (hZ : K.1 Z.1 = none) (hb : Z.1 < K.2.2.1) (hL : Z.2.1 ≤ 3586) (hi : i + 7 ≤ Z.2.1) : jl_N Z K f g i 665 := by
  obtain ⟨a, K', g', f1, f2, cc', n', c1, r1, I', C', R', E'⟩ := jL.two (Z := Z) (d := 8) (mC := 53) (mR := 97) (as := [.inl (Z.2.2 (i + 1))]) hI (fun fR h => js_tick h hR)
  have hZ' : K'.1 Z.1 = none := (E'.2.2.2.2.2 _ hb).trans hZ
  have i1 := cu_is (f := f) hI.1
  have i2 := ru_is (f := f1) R'
  rw [E'.2.1] at i2
  have e1 : nI i + 1 = nI (i + 1) := jz_add i 1
  have p1 := jl_rd (f := f) (g := g) hZ hL (show i + 1 < Z.2.1 by omega)
  have q1 := jl_rd (f := f1) (g := g') hZ' hL (show i + 1 < Z.2.1 by omega)
  refine ⟨K', g', f2, cc', n', ?_, I', R', E'⟩
  unfold jl_S
  rw [E'.1, E'.2.1]
  simp only [x_Lw_law_665, x_Lw_law_666, x_Lw_law_667, x_Lw_law_668, x_Lw_law_669, x_Lw_law_670, x_Lw_law_671, x_Lw_law_674, x_Lw_law_675, x_Lw_law_676, x_Lw_law_677, x_Lw_law_678, x_Lw_law_679, x_Lw_law_680, x_Lw_law_683, e1, p1, q1, i1, i2, c1, r1, Option.bind_some, Option.toList_some, Option.toList_none, List.cons_append, List.nil_append, ↓reduceIte]
theorem jl_user (hI : jI K g f f cc n) (hR : jl_R K g) (hZ : K.1 Z.1 = none) (hb : Z.1 < K.2.2.1) (hL : Z.2.1 ≤ 3586) (hi : i + 7 ≤ Z.2.1) : jl_N Z K f g i 688 := by
  obtain ⟨a, K', g', f1, f2, cc', n', c1, r1, I', C', R', E'⟩ := jL.two (Z := Z) (d := 8) (mC := 54) (mR := 98) (as := [.inl (Z.2.2 (i + 1)), .inl (Z.2.2 (i + 2))]) hI (fun fR h => js_usr h hR)
  have hZ' : K'.1 Z.1 = none := (E'.2.2.2.2.2 _ hb).trans hZ
  have i1 := cu_is (f := f) hI.1
  have i2 := ru_is (f := f1) R'
  rw [E'.2.1] at i2
  have e1 : nI i + 1 = nI (i + 1) := jz_add i 1
  have p1 := jl_rd (f := f) (g := g) hZ hL (show i + 1 < Z.2.1 by omega)
  have q1 := jl_rd (f := f1) (g := g') hZ' hL (show i + 1 < Z.2.1 by omega)
  have e2 : nI i + 2 = nI (i + 2) := jz_add i 2
  have p2 := jl_rd (f := f) (g := g) hZ hL (show i + 2 < Z.2.1 by omega)
  have q2 := jl_rd (f := f1) (g := g') hZ' hL (show i + 2 < Z.2.1 by omega)
  refine ⟨K', g', f2, cc', n', ?_, I', R', E'⟩
  unfold jl_S
  rw [E'.1, E'.2.1]
  simp only [x_Lw_law_688, x_Lw_law_689, x_Lw_law_690, x_Lw_law_691, x_Lw_law_692, x_Lw_law_693, x_Lw_law_694, x_Lw_law_695, x_Lw_law_696, x_Lw_law_697, x_Lw_law_698, x_Lw_law_699, x_Lw_law_702, x_Lw_law_703, x_Lw_law_704, x_Lw_law_705, x_Lw_law_706, x_Lw_law_707, x_Lw_law_708, x_Lw_law_709, x_Lw_law_710, x_Lw_law_711, x_Lw_law_712, x_Lw_law_713, x_Lw_law_716, e1, e2, p1, p2, q1, q2, i1, i2, c1, r1, Option.bind_some, Option.toList_some, Option.toList_none, List.cons_append, List.nil_append, ↓reduceIte]
theorem jl_coin (hI : jI K g f f cc n) (hR : jl_R K g) (hZ : K.1 Z.1 = none) (hb : Z.1 < K.2.2.1) (hL : Z.2.1 ≤ 3586) (hi : i + 7 ≤ Z.2.1) : jl_N Z K f g i 721 := by
  obtain ⟨a, K', g', f1, f2, cc', n', c1, r1, I', C', R', E'⟩ := jL.two (Z := Z) (d := 8) (mC := 55) (mR := 99) (as := [.inl (Z.2.2 (i + 1)), .inl (Z.2.2 (i + 2))]) hI (fun fR h => js_coi h hR)
  have hZ' : K'.1 Z.1 = none := (E'.2.2.2.2.2 _ hb).trans hZ
  have i1 := cu_is (f := f) hI.1
  have i2 := ru_is (f := f1) R'
  rw [E'.2.1] at i2
  have e1 : nI i + 1 = nI (i + 1) := jz_add i 1
  have p1 := jl_rd (f := f) (g := g) hZ hL (show i + 1 < Z.2.1 by omega)
  have q1 := jl_rd (f := f1) (g := g') hZ' hL (show i + 1 < Z.2.1 by omega)
  have e2 : nI i + 2 = nI (i + 2) := jz_add i 2
  have p2 := jl_rd (f := f) (g := g) hZ hL (show i + 2 < Z.2.1 by omega)
  have q2 := jl_rd (f := f1) (g := g') hZ' hL (show i + 2 < Z.2.1 by omega)
  refine ⟨K', g', f2, cc', n', ?_, I', R', E'⟩
  unfold jl_S
  rw [E'.1, E'.2.1]
  simp only [x_Lw_law_721, x_Lw_law_722, x_Lw_law_723, x_Lw_law_724, x_Lw_law_725, x_Lw_law_726, x_Lw_law_727, x_Lw_law_728, x_Lw_law_729, x_Lw_law_730, x_Lw_law_731, x_Lw_law_732, x_Lw_law_735, x_Lw_law_736, x_Lw_law_737, x_Lw_law_738, x_Lw_law_739, x_Lw_law_740, x_Lw_law_741, x_Lw_law_742, x_Lw_law_743, x_Lw_law_744, x_Lw_law_745, x_Lw_law_746, x_Lw_law_749, e1, e2, p1, p2, q1, q2, i1, i2, c1, r1, Option.bind_some, Option.toList_some, Option.toList_none, List.cons_append, List.nil_append, ↓reduceIte]
theorem jl_block (hI : jI K g f f cc n) (hR : jl_R K g) (hZ : K.1 Z.1 = none) (hb : Z.1 < K.2.2.1) (hL : Z.2.1 ≤ 3586) (hi : i + 7 ≤ Z.2.1) : jl_N Z K f g i 754 := by
  obtain ⟨a, K', g', f1, f2, cc', n', c1, r1, I', C', R', E'⟩ := jL.two (Z := Z) (d := 8) (mC := 58) (mR := 101) (as := [.inl (Z.2.2 (i + 1)), .inl (Z.2.2 (i + 2))]) hI (fun fR h => js_blk h hR)
  have hZ' : K'.1 Z.1 = none := (E'.2.2.2.2.2 _ hb).trans hZ
  have i1 := cu_is (f := f) hI.1
  have i2 := ru_is (f := f1) R'
  rw [E'.2.1] at i2
  have e1 : nI i + 1 = nI (i + 1) := jz_add i 1
  have p1 := jl_rd (f := f) (g := g) hZ hL (show i + 1 < Z.2.1 by omega)
  have q1 := jl_rd (f := f1) (g := g') hZ' hL (show i + 1 < Z.2.1 by omega)
  have e2 : nI i + 2 = nI (i + 2) := jz_add i 2
  have p2 := jl_rd (f := f) (g := g) hZ hL (show i + 2 < Z.2.1 by omega)
  have q2 := jl_rd (f := f1) (g := g') hZ' hL (show i + 2 < Z.2.1 by omega)
  refine ⟨K', g', f2, cc', n', ?_, I', R', E'⟩
  unfold jl_S
  rw [E'.1, E'.2.1]
  simp only [x_Lw_law_754, x_Lw_law_755, x_Lw_law_756, x_Lw_law_757, x_Lw_law_758, x_Lw_law_759, x_Lw_law_760, x_Lw_law_761, x_Lw_law_762, x_Lw_law_763, x_Lw_law_764, x_Lw_law_765, x_Lw_law_768, x_Lw_law_769, x_Lw_law_770, x_Lw_law_771, x_Lw_law_772, x_Lw_law_773, x_Lw_law_774, x_Lw_law_775, x_Lw_law_776, x_Lw_law_777, x_Lw_law_778, x_Lw_law_779, x_Lw_law_782, e1, e2, p1, p2, q1, q2, i1, i2, c1, r1, Option.bind_some, Option.toList_some, Option.toList_none, List.cons_append, List.nil_append, ↓reduceIte]
theorem jl_proves (hI : jI K g f f cc n) (hR : jl_R K g) (hZ : K.1 Z.1 = none) (hb : Z.1 < K.2.2.1) (hL : Z.2.1 ≤ 3586) (hi : i + 7 ≤ Z.2.1) : jl_N Z K f g i 787 := by
  obtain ⟨a, K', g', f1, f2, cc', n', c1, r1, I', C', R', E'⟩ := jL.two (Z := Z) (d := 8) (mC := 61) (mR := 105) (as := [.inl (Z.2.2 (i + 1)), .inl (Z.2.2 (i + 2)), .inl (Z.2.2 (i + 3)), .inl (Z.2.2 (i + 4)), .inl (Z.2.2 (i + 5)), .inl (Z.2.2 (i + 6))]) hI (fun fR h => js_prv h hR)
  have hZ' : K'.1 Z.1 = none := (E'.2.2.2.2.2 _ hb).trans hZ
  have i1 := cu_is (f := f) hI.1
  have i2 := ru_is (f := f1) R'
  rw [E'.2.1] at i2
  have e1 : nI i + 1 = nI (i + 1) := jz_add i 1
  have p1 := jl_rd (f := f) (g := g) hZ hL (show i + 1 < Z.2.1 by omega)
  have q1 := jl_rd (f := f1) (g := g') hZ' hL (show i + 1 < Z.2.1 by omega)
  have e2 : nI i + 2 = nI (i + 2) := jz_add i 2
  have p2 := jl_rd (f := f) (g := g) hZ hL (show i + 2 < Z.2.1 by omega)
  have q2 := jl_rd (f := f1) (g := g') hZ' hL (show i + 2 < Z.2.1 by omega)
  have e3 : nI i + 3 = nI (i + 3) := jz_add i 3
  have p3 := jl_rd (f := f) (g := g) hZ hL (show i + 3 < Z.2.1 by omega)
  have q3 := jl_rd (f := f1) (g := g') hZ' hL (show i + 3 < Z.2.1 by omega)
  have e4 : nI i + 4 = nI (i + 4) := jz_add i 4
  have p4 := jl_rd (f := f) (g := g) hZ hL (show i + 4 < Z.2.1 by omega)
  have q4 := jl_rd (f := f1) (g := g') hZ' hL (show i + 4 < Z.2.1 by omega)
  have e5 : nI i + 5 = nI (i + 5) := jz_add i 5
  have p5 := jl_rd (f := f) (g := g) hZ hL (show i + 5 < Z.2.1 by omega)
  have q5 := jl_rd (f := f1) (g := g') hZ' hL (show i + 5 < Z.2.1 by omega)
  have e6 : nI i + 6 = nI (i + 6) := jz_add i 6
  have p6 := jl_rd (f := f) (g := g) hZ hL (show i + 6 < Z.2.1 by omega)
  have q6 := jl_rd (f := f1) (g := g') hZ' hL (show i + 6 < Z.2.1 by omega)
  refine ⟨K', g', f2, cc', n', ?_, I', R', E'⟩
  unfold jl_S
  rw [E'.1, E'.2.1]
  simp only [x_Lw_law_787, x_Lw_law_788, x_Lw_law_789, x_Lw_law_790, x_Lw_law_791, x_Lw_law_792, x_Lw_law_793, x_Lw_law_794, x_Lw_law_795, x_Lw_law_796, x_Lw_law_797, x_Lw_law_798, x_Lw_law_799, x_Lw_law_800, x_Lw_law_801, x_Lw_law_802, x_Lw_law_803, x_Lw_law_804, x_Lw_law_805, x_Lw_law_806, x_Lw_law_807, x_Lw_law_808, x_Lw_law_809, x_Lw_law_810, x_Lw_law_811, x_Lw_law_812, x_Lw_law_813, x_Lw_law_814, x_Lw_law_815, x_Lw_law_817, x_Lw_law_818, x_Lw_law_819, x_Lw_law_822, x_Lw_law_823, x_Lw_law_824, x_Lw_law_825, x_Lw_law_826, x_Lw_law_827, x_Lw_law_828, x_Lw_law_829, x_Lw_law_830, x_Lw_law_831, x_Lw_law_832, x_Lw_law_833, x_Lw_law_834, x_Lw_law_835, x_Lw_law_836, x_Lw_law_837, x_Lw_law_838, x_Lw_law_839, x_Lw_law_840, x_Lw_law_841, x_Lw_law_842, x_Lw_law_843, x_Lw_law_844, x_Lw_law_845, x_Lw_law_846, x_Lw_law_847, x_Lw_law_848, x_Lw_law_849, x_Lw_law_850, x_Lw_law_852, x_Lw_law_853, x_Lw_law_854, x_Lw_law_857, e1, e2, e3, e4, e5, e6, p1, p2, p3, p4, p5, p6, q1, q2, q3, q4, q5, q6, i1, i2, c1, r1, Option.bind_some, Option.toList_some, Option.toList_none, List.cons_append, List.nil_append, ↓reduceIte]
theorem jl_locked (hI : jI K g f f cc n) (hR : jl_R K g) (hZ : K.1 Z.1 = none) (hb : Z.1 < K.2.2.1) (hL : Z.2.1 ≤ 3586) (hi : i + 7 ≤ Z.2.1) : jl_N Z K f g i 862 := by
  obtain ⟨a, K', g', f1, f2, cc', n', c1, r1, I', C', R', E'⟩ := jL.two (Z := Z) (d := 8) (mC := 63) (mR := 106) (as := []) hI (fun fR h => js_lck h hR)
  have hZ' : K'.1 Z.1 = none := (E'.2.2.2.2.2 _ hb).trans hZ
  have i1 := cu_is (f := f) hI.1
  have i2 := ru_is (f := f1) R'
  rw [E'.2.1] at i2
  refine ⟨K', g', f2, cc', n', ?_, I', R', E'⟩
  unfold jl_S
  rw [E'.1, E'.2.1]
  simp only [x_Lw_law_862, x_Lw_law_863, x_Lw_law_866, x_Lw_law_867, x_Lw_law_870, i1, i2, c1, r1, Option.bind_some, Option.toList_some, Option.toList_none, List.cons_append, List.nil_append, ↓reduceIte]
end LW
