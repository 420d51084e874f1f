-- PART 70 (by wip/whole/gen_law.py): the law's calls
def scr (H : pi_H) (xs : Nat → Int32) (L : Nat) : Prop := pi_get H 1000050 = some (.inl (10, L, .inl xs))
theorem al_s {H : pi_H} {xs : Nat → Int32} {L : Nat} (hL : L ≤ 2048) (h : scr H xs L) (j : Nat) (hj : j < L) : pi_al (pi_get H 1000050) (nI j) 0 = some (.int (xs j)) := by
  rw [h]
  unfold pi_al pi_in
  simp [nI_clamp (n := j) (by omega), nI_pos (n := j) (by omega), hj]
theorem isW_f {B H : pi_H} {xs : Nat → Int32} {L : Nat} (hB : okS B) (hS : scr B xs L) (h : isW B H) : pi_isO (pi_get H 0) 4 = true ∧ pi_isO (pi_get H 77) 5 = true ∧ scr H xs L ∧ H.2 = B.2 := by
  obtain ⟨a, b, nw, sz, r, μ, β, fl, fh, fc, τ, ν, σ, ι, z, κ, rfl⟩ := h
  refine ⟨W_i0 B a b nw sz r μ β fl fh fc τ ν σ ι z κ hB.1, W_i77 B a b nw sz r μ β fl fh fc τ ν σ ι z κ, ?_, rfl⟩
  unfold scr
  rw [W_g B a b nw sz r μ β fl fh fc τ ν σ ι z κ _ (by omega)]
  exact hS
theorem inv_W {B H : pi_H} {t : Nat} (h : InvH B t H) : isW B H := by
  obtain ⟨a, b, nw, sz, r, h, μ, β, fl, fh, fc, ν, σ, ι, z, κ, ok, rfl⟩ := h
  exact isW_mk B _ _ _ _ _ _ _ _ _ _ _ _ _ _ _ _
section
variable (B : pi_H) (t : Nat) (H : pi_H) (xs : Nat → Int32) (L i : Nat)
theorem op0 (hB : okS B) (hS : scr B xs L) (hL : L ≤ 2048) (ht : t + 100 < 2 ^ 29) (hi : i + 4 ≤ L) (hI : InvH B t H) : ∃ H2, InvH B (t + 81) H2 ∧ ev 170 136 [some (.ref 1000050), some (.ref 0), some (.ref 77), some (.int (nI i))] [] H = ev 170 797 [some (.ref 1000050), some (.ref 0), some (.ref 77), some (.int (nI i))] [] H2 := by
  obtain ⟨v, H1, H2, e1, e2, w1, i2⟩ := st0 B t H hB (xs (i + 1)) (xs (i + 2)) hI
  obtain ⟨a0, _, a2, _⟩ := isW_f hB hS (inv_W hI)
  obtain ⟨_, b1, b2, _⟩ := isW_f hB hS w1
  have hal := al_s hL a2
  have hal1 := al_s hL b2
  refine ⟨H2, i2, ?_⟩
  simp (disch := first | omega | assumption | (refine b30 ?_; omega)) only [e170_136, e170_137, e170_138, e170_139, e170_140, e170_141, e170_142, e170_143, e170_144, e170_145, e170_146, e170_147, e170_150, e170_151, e170_152, e170_153, e170_154, e170_155, e170_156, e170_157, e170_158, e170_159, e170_160, e170_161, e170_164, e170_167, e170_168, kv_s, kh_s, kn_s, kc_v, kc_n, Nat.reduceEqDiff, Nat.one_ne_zero, Nat.reduceLT, Nat.reduceLeDiff, Nat.reduceAdd, Nat.reduceSub, Nat.reduceMul, nI_add, nI_leI, nI_ltI, nI_eq, z_eq, z_lt, z_le, z_gt, z_ge, ↓reduceIte, not_true_eq_false, not_false_eq_true, if_true, if_false, hal, hal1, e1, e2]
theorem op1 (hB : okS B) (hS : scr B xs L) (hL : L ≤ 2048) (ht : t + 100 < 2 ^ 29) (hi : i + 4 ≤ L) (hI : InvH B t H) : ∃ H2, InvH B (t + 81) H2 ∧ ev 170 169 [some (.ref 1000050), some (.ref 0), some (.ref 77), some (.int (nI i))] [] H = ev 170 797 [some (.ref 1000050), some (.ref 0), some (.ref 77), some (.int (nI i))] [] H2 := by
  obtain ⟨v, H1, H2, e1, e2, w1, i2⟩ := st1 B t H hB (xs (i + 1)) (xs (i + 2)) hI
  obtain ⟨a0, _, a2, _⟩ := isW_f hB hS (inv_W hI)
  obtain ⟨_, b1, b2, _⟩ := isW_f hB hS w1
  have hal := al_s hL a2
  have hal1 := al_s hL b2
  refine ⟨H2, i2, ?_⟩
  simp (disch := first | omega | assumption | (refine b30 ?_; omega)) only [e170_169, e170_170, e170_171, e170_172, e170_173, e170_174, e170_175, e170_176, e170_177, e170_178, e170_179, e170_180, e170_183, e170_184, e170_185, e170_186, e170_187, e170_188, e170_189, e170_190, e170_191, e170_192, e170_193, e170_194, e170_197, e170_200, e170_201, kv_s, kh_s, kn_s, kc_v, kc_n, Nat.reduceEqDiff, Nat.one_ne_zero, Nat.reduceLT, Nat.reduceLeDiff, Nat.reduceAdd, Nat.reduceSub, Nat.reduceMul, nI_add, nI_leI, nI_ltI, nI_eq, z_eq, z_lt, z_le, z_gt, z_ge, ↓reduceIte, not_true_eq_false, not_false_eq_true, if_true, if_false, hal, hal1, e1, e2]
theorem op2 (hB : okS B) (hS : scr B xs L) (hL : L ≤ 2048) (ht : t + 100 < 2 ^ 29) (hi : i + 4 ≤ L) (hI : InvH B t H) : ∃ H2, InvH B (t + 81) H2 ∧ ev 170 202 [some (.ref 1000050), some (.ref 0), some (.ref 77), some (.int (nI i))] [] H = ev 170 797 [some (.ref 1000050), some (.ref 0), some (.ref 77), some (.int (nI i))] [] H2 := by
  obtain ⟨v, H1, H2, e1, e2, w1, i2⟩ := st2 B t H hB (xs (i + 1)) (xs (i + 2)) (xs (i + 3)) hI
  obtain ⟨a0, _, a2, _⟩ := isW_f hB hS (inv_W hI)
  obtain ⟨_, b1, b2, _⟩ := isW_f hB hS w1
  have hal := al_s hL a2
  have hal1 := al_s hL b2
  refine ⟨H2, i2, ?_⟩
  simp (disch := first | omega | assumption | (refine b30 ?_; omega)) only [e170_202, e170_203, e170_204, e170_205, e170_206, e170_207, e170_208, e170_209, e170_210, e170_211, e170_212, e170_213, e170_214, e170_215, e170_216, e170_217, e170_218, e170_221, e170_222, e170_223, e170_224, e170_225, e170_226, e170_227, e170_228, e170_229, e170_230, e170_231, e170_232, e170_233, e170_234, e170_235, e170_236, e170_237, e170_240, e170_243, e170_244, kv_s, kh_s, kn_s, kc_v, kc_n, Nat.reduceEqDiff, Nat.one_ne_zero, Nat.reduceLT, Nat.reduceLeDiff, Nat.reduceAdd, Nat.reduceSub, Nat.reduceMul, nI_add, nI_leI, nI_ltI, nI_eq, z_eq, z_lt, z_le, z_gt, z_ge, ↓reduceIte, not_true_eq_false, not_false_eq_true, if_true, if_false, hal, hal1, e1, e2]
theorem op3 (hB : okS B) (hS : scr B xs L) (hL : L ≤ 2048) (ht : t + 100 < 2 ^ 29) (hi : i + 4 ≤ L) (hI : InvH B t H) : ∃ H2, InvH B (t + 81) H2 ∧ ev 170 245 [some (.ref 1000050), some (.ref 0), some (.ref 77), some (.int (nI i))] [] H = ev 170 797 [some (.ref 1000050), some (.ref 0), some (.ref 77), some (.int (nI i))] [] H2 := by
  obtain ⟨v, H1, H2, e1, e2, w1, i2⟩ := st3 B t H hB (xs (i + 1)) (xs (i + 2)) hI
  obtain ⟨a0, _, a2, _⟩ := isW_f hB hS (inv_W hI)
  obtain ⟨_, b1, b2, _⟩ := isW_f hB hS w1
  have hal := al_s hL a2
  have hal1 := al_s hL b2
  refine ⟨H2, i2, ?_⟩
  simp (disch := first | omega | assumption | (refine b30 ?_; omega)) only [e170_245, e170_246, e170_247, e170_248, e170_249, e170_250, e170_251, e170_252, e170_253, e170_254, e170_255, e170_256, e170_259, e170_260, e170_261, e170_262, e170_263, e170_264, e170_265, e170_266, e170_267, e170_268, e170_269, e170_270, e170_273, e170_276, e170_277, kv_s, kh_s, kn_s, kc_v, kc_n, Nat.reduceEqDiff, Nat.one_ne_zero, Nat.reduceLT, Nat.reduceLeDiff, Nat.reduceAdd, Nat.reduceSub, Nat.reduceMul, nI_add, nI_leI, nI_ltI, nI_eq, z_eq, z_lt, z_le, z_gt, z_ge, ↓reduceIte, not_true_eq_false, not_false_eq_true, if_true, if_false, hal, hal1, e1, e2]
theorem op4 (hB : okS B) (hS : scr B xs L) (hL : L ≤ 2048) (ht : t + 100 < 2 ^ 29) (hi : i + 4 ≤ L) (hI : InvH B t H) : ∃ H2, InvH B (t + 81) H2 ∧ ev 170 278 [some (.ref 1000050), some (.ref 0), some (.ref 77), some (.int (nI i))] [] H = ev 170 797 [some (.ref 1000050), some (.ref 0), some (.ref 77), some (.int (nI i))] [] H2 := by
  obtain ⟨v, H1, H2, e1, e2, w1, i2⟩ := st4 B t H hB (xs (i + 1)) (xs (i + 2)) hI
  obtain ⟨a0, _, a2, _⟩ := isW_f hB hS (inv_W hI)
  obtain ⟨_, b1, b2, _⟩ := isW_f hB hS w1
  have hal := al_s hL a2
  have hal1 := al_s hL b2
  refine ⟨H2, i2, ?_⟩
  simp (disch := first | omega | assumption | (refine b30 ?_; omega)) only [e170_278, e170_279, e170_280, e170_281, e170_282, e170_283, e170_284, e170_285, e170_286, e170_287, e170_288, e170_289, e170_292, e170_293, e170_294, e170_295, e170_296, e170_297, e170_298, e170_299, e170_300, e170_301, e170_302, e170_303, e170_306, e170_309, e170_310, kv_s, kh_s, kn_s, kc_v, kc_n, Nat.reduceEqDiff, Nat.one_ne_zero, Nat.reduceLT, Nat.reduceLeDiff, Nat.reduceAdd, Nat.reduceSub, Nat.reduceMul, nI_add, nI_leI, nI_ltI, nI_eq, z_eq, z_lt, z_le, z_gt, z_ge, ↓reduceIte, not_true_eq_false, not_false_eq_true, if_true, if_false, hal, hal1, e1, e2]
theorem op5 (hB : okS B) (hS : scr B xs L) (hL : L ≤ 2048) (ht : t + 100 < 2 ^ 29) (hi : i + 4 ≤ L) (hI : InvH B t H) : ∃ H2, InvH B (t + 81) H2 ∧ ev 170 311 [some (.ref 1000050), some (.ref 0), some (.ref 77), some (.int (nI i))] [] H = ev 170 797 [some (.ref 1000050), some (.ref 0), some (.ref 77), some (.int (nI i))] [] H2 := by
  obtain ⟨v, H1, H2, e1, e2, w1, i2⟩ := st5 B t H hB (xs (i + 1)) hI
  obtain ⟨a0, _, a2, _⟩ := isW_f hB hS (inv_W hI)
  obtain ⟨_, b1, b2, _⟩ := isW_f hB hS w1
  have hal := al_s hL a2
  have hal1 := al_s hL b2
  refine ⟨H2, i2, ?_⟩
  simp (disch := first | omega | assumption | (refine b30 ?_; omega)) only [e170_311, e170_312, e170_313, e170_314, e170_315, e170_316, e170_317, e170_320, e170_321, e170_322, e170_323, e170_324, e170_325, e170_326, e170_329, e170_332, e170_333, kv_s, kh_s, kn_s, kc_v, kc_n, Nat.reduceEqDiff, Nat.one_ne_zero, Nat.reduceLT, Nat.reduceLeDiff, Nat.reduceAdd, Nat.reduceSub, Nat.reduceMul, nI_add, nI_leI, nI_ltI, nI_eq, z_eq, z_lt, z_le, z_gt, z_ge, ↓reduceIte, not_true_eq_false, not_false_eq_true, if_true, if_false, hal, hal1, e1, e2]
theorem op6 (hB : okS B) (hS : scr B xs L) (hL : L ≤ 2048) (ht : t + 100 < 2 ^ 29) (hi : i + 4 ≤ L) (hI : InvH B t H) : ∃ H2, InvH B (t + 81) H2 ∧ ev 170 334 [some (.ref 1000050), some (.ref 0), some (.ref 77), some (.int (nI i))] [] H = ev 170 797 [some (.ref 1000050), some (.ref 0), some (.ref 77), some (.int (nI i))] [] H2 := by
  obtain ⟨v, H1, H2, e1, e2, w1, i2⟩ := st6 B t H hB  hI
  obtain ⟨a0, _, a2, _⟩ := isW_f hB hS (inv_W hI)
  obtain ⟨_, b1, b2, _⟩ := isW_f hB hS w1
  have hal := al_s hL a2
  have hal1 := al_s hL b2
  refine ⟨H2, i2, ?_⟩
  simp (disch := first | omega | assumption | (refine b30 ?_; omega)) only [e170_334, e170_335, e170_338, e170_339, e170_342, e170_345, e170_346, kv_s, kh_s, kn_s, kc_v, kc_n, Nat.reduceEqDiff, Nat.one_ne_zero, Nat.reduceLT, Nat.reduceLeDiff, Nat.reduceAdd, Nat.reduceSub, Nat.reduceMul, nI_add, nI_leI, nI_ltI, nI_eq, z_eq, z_lt, z_le, z_gt, z_ge, ↓reduceIte, not_true_eq_false, not_false_eq_true, if_true, if_false, hal, hal1, e1, e2]
theorem op7 (hB : okS B) (hS : scr B xs L) (hL : L ≤ 2048) (ht : t + 100 < 2 ^ 29) (hi : i + 4 ≤ L) (hI : InvH B t H) : ∃ H2, InvH B (t + 81) H2 ∧ ev 170 347 [some (.ref 1000050), some (.ref 0), some (.ref 77), some (.int (nI i))] [] H = ev 170 797 [some (.ref 1000050), some (.ref 0), some (.ref 77), some (.int (nI i))] [] H2 := by
  obtain ⟨v, H1, H2, e1, e2, w1, i2⟩ := st7 B t H hB ht (xs (i + 1)) hI
  obtain ⟨a0, _, a2, _⟩ := isW_f hB hS (inv_W hI)
  obtain ⟨_, b1, b2, _⟩ := isW_f hB hS w1
  have hal := al_s hL a2
  have hal1 := al_s hL b2
  refine ⟨H2, i2, ?_⟩
  simp (disch := first | omega | assumption | (refine b30 ?_; omega)) only [e170_347, e170_348, e170_349, e170_350, e170_351, e170_352, e170_353, e170_356, e170_357, e170_358, e170_359, e170_360, e170_361, e170_362, e170_365, e170_368, e170_369, kv_s, kh_s, kn_s, kc_v, kc_n, Nat.reduceEqDiff, Nat.one_ne_zero, Nat.reduceLT, Nat.reduceLeDiff, Nat.reduceAdd, Nat.reduceSub, Nat.reduceMul, nI_add, nI_leI, nI_ltI, nI_eq, z_eq, z_lt, z_le, z_gt, z_ge, ↓reduceIte, not_true_eq_false, not_false_eq_true, if_true, if_false, hal, hal1, e1, e2]
theorem op8 (hB : okS B) (hS : scr B xs L) (hL : L ≤ 2048) (ht : t + 100 < 2 ^ 29) (hi : i + 4 ≤ L) (hI : InvH B t H) : ∃ H2, InvH B (t + 81) H2 ∧ ev 170 370 [some (.ref 1000050), some (.ref 0), some (.ref 77), some (.int (nI i))] [] H = ev 170 797 [some (.ref 1000050), some (.ref 0), some (.ref 77), some (.int (nI i))] [] H2 := by
  obtain ⟨v, H1, H2, e1, e2, w1, i2⟩ := st8 B t H hB ht (xs (i + 1)) (xs (i + 2)) hI
  obtain ⟨a0, _, a2, _⟩ := isW_f hB hS (inv_W hI)
  obtain ⟨_, b1, b2, _⟩ := isW_f hB hS w1
  have hal := al_s hL a2
  have hal1 := al_s hL b2
  refine ⟨H2, i2, ?_⟩
  simp (disch := first | omega | assumption | (refine b30 ?_; omega)) only [e170_370, e170_371, e170_372, e170_373, e170_374, e170_375, e170_376, e170_377, e170_378, e170_379, e170_380, e170_381, e170_384, e170_385, e170_386, e170_387, e170_388, e170_389, e170_390, e170_391, e170_392, e170_393, e170_394, e170_395, e170_398, e170_401, e170_402, kv_s, kh_s, kn_s, kc_v, kc_n, Nat.reduceEqDiff, Nat.one_ne_zero, Nat.reduceLT, Nat.reduceLeDiff, Nat.reduceAdd, Nat.reduceSub, Nat.reduceMul, nI_add, nI_leI, nI_ltI, nI_eq, z_eq, z_lt, z_le, z_gt, z_ge, ↓reduceIte, not_true_eq_false, not_false_eq_true, if_true, if_false, hal, hal1, e1, e2]
theorem op9 (hB : okS B) (hS : scr B xs L) (hL : L ≤ 2048) (ht : t + 100 < 2 ^ 29) (hi : i + 4 ≤ L) (hI : InvH B t H) : ∃ H2, InvH B (t + 81) H2 ∧ ev 170 403 [some (.ref 1000050), some (.ref 0), some (.ref 77), some (.int (nI i))] [] H = ev 170 797 [some (.ref 1000050), some (.ref 0), some (.ref 77), some (.int (nI i))] [] H2 := by
  obtain ⟨v, H1, H2, e1, e2, w1, i2⟩ := st9 B t H hB (xs (i + 1)) hI
  obtain ⟨a0, _, a2, _⟩ := isW_f hB hS (inv_W hI)
  obtain ⟨_, b1, b2, _⟩ := isW_f hB hS w1
  have hal := al_s hL a2
  have hal1 := al_s hL b2
  refine ⟨H2, i2, ?_⟩
  simp (disch := first | omega | assumption | (refine b30 ?_; omega)) only [e170_403, e170_404, e170_405, e170_406, e170_407, e170_408, e170_409, e170_412, e170_413, e170_414, e170_415, e170_416, e170_417, e170_418, e170_421, e170_424, e170_425, kv_s, kh_s, kn_s, kc_v, kc_n, Nat.reduceEqDiff, Nat.one_ne_zero, Nat.reduceLT, Nat.reduceLeDiff, Nat.reduceAdd, Nat.reduceSub, Nat.reduceMul, nI_add, nI_leI, nI_ltI, nI_eq, z_eq, z_lt, z_le, z_gt, z_ge, ↓reduceIte, not_true_eq_false, not_false_eq_true, if_true, if_false, hal, hal1, e1, e2]
theorem op10 (hB : okS B) (hS : scr B xs L) (hL : L ≤ 2048) (ht : t + 100 < 2 ^ 29) (hi : i + 4 ≤ L) (hI : InvH B t H) : ∃ H2, InvH B (t + 81) H2 ∧ ev 170 426 [some (.ref 1000050), some (.ref 0), some (.ref 77), some (.int (nI i))] [] H = ev 170 797 [some (.ref 1000050), some (.ref 0), some (.ref 77), some (.int (nI i))] [] H2 := by
  obtain ⟨v, H1, H2, e1, e2, w1, i2⟩ := st10 B t H hB (xs (i + 1)) (xs (i + 2)) (xs (i + 3)) hI
  obtain ⟨a0, _, a2, _⟩ := isW_f hB hS (inv_W hI)
  obtain ⟨_, b1, b2, _⟩ := isW_f hB hS w1
  have hal := al_s hL a2
  have hal1 := al_s hL b2
  refine ⟨H2, i2, ?_⟩
  simp (disch := first | omega | assumption | (refine b30 ?_; omega)) only [e170_426, e170_427, e170_428, e170_429, e170_430, e170_431, e170_432, e170_433, e170_434, e170_435, e170_436, e170_437, e170_438, e170_439, e170_440, e170_441, e170_442, e170_445, e170_446, e170_447, e170_448, e170_449, e170_450, e170_451, e170_452, e170_453, e170_454, e170_455, e170_456, e170_457, e170_458, e170_459, e170_460, e170_461, e170_464, e170_465, e170_468, e170_469, kv_s, kh_s, kn_s, kc_v, kc_n, Nat.reduceEqDiff, Nat.one_ne_zero, Nat.reduceLT, Nat.reduceLeDiff, Nat.reduceAdd, Nat.reduceSub, Nat.reduceMul, nI_add, nI_leI, nI_ltI, nI_eq, z_eq, z_lt, z_le, z_gt, z_ge, ↓reduceIte, not_true_eq_false, not_false_eq_true, if_true, if_false, hal, hal1, e1, e2, cmp_eq]
theorem op11 (hB : okS B) (hS : scr B xs L) (hL : L ≤ 2048) (ht : t + 100 < 2 ^ 29) (hi : i + 4 ≤ L) (hI : InvH B t H) : ∃ H2, InvH B (t + 81) H2 ∧ ev 170 470 [some (.ref 1000050), some (.ref 0), some (.ref 77), some (.int (nI i))] [] H = ev 170 797 [some (.ref 1000050), some (.ref 0), some (.ref 77), some (.int (nI i))] [] H2 := by
  obtain ⟨v, H1, H2, e1, e2, w1, i2⟩ := st11 B t H hB (xs (i + 1)) (xs (i + 2)) hI
  obtain ⟨a0, _, a2, _⟩ := isW_f hB hS (inv_W hI)
  obtain ⟨_, b1, b2, _⟩ := isW_f hB hS w1
  have hal := al_s hL a2
  have hal1 := al_s hL b2
  refine ⟨H2, i2, ?_⟩
  simp (disch := first | omega | assumption | (refine b30 ?_; omega)) only [e170_470, e170_471, e170_472, e170_473, e170_474, e170_475, e170_476, e170_477, e170_478, e170_479, e170_480, e170_481, e170_484, e170_485, e170_486, e170_487, e170_488, e170_489, e170_490, e170_491, e170_492, e170_493, e170_494, e170_495, e170_498, e170_501, e170_502, kv_s, kh_s, kn_s, kc_v, kc_n, Nat.reduceEqDiff, Nat.one_ne_zero, Nat.reduceLT, Nat.reduceLeDiff, Nat.reduceAdd, Nat.reduceSub, Nat.reduceMul, nI_add, nI_leI, nI_ltI, nI_eq, z_eq, z_lt, z_le, z_gt, z_ge, ↓reduceIte, not_true_eq_false, not_false_eq_true, if_true, if_false, hal, hal1, e1, e2]
theorem op12 (hB : okS B) (hS : scr B xs L) (hL : L ≤ 2048) (ht : t + 100 < 2 ^ 29) (hi : i + 4 ≤ L) (hI : InvH B t H) : ∃ H2, InvH B (t + 81) H2 ∧ ev 170 503 [some (.ref 1000050), some (.ref 0), some (.ref 77), some (.int (nI i))] [] H = ev 170 797 [some (.ref 1000050), some (.ref 0), some (.ref 77), some (.int (nI i))] [] H2 := by
  obtain ⟨v, H1, H2, e1, e2, w1, i2⟩ := st12 B t H hB (xs (i + 1)) (xs (i + 2)) (xs (i + 3)) hI
  obtain ⟨a0, _, a2, _⟩ := isW_f hB hS (inv_W hI)
  obtain ⟨_, b1, b2, _⟩ := isW_f hB hS w1
  have hal := al_s hL a2
  have hal1 := al_s hL b2
  refine ⟨H2, i2, ?_⟩
  simp (disch := first | omega | assumption | (refine b30 ?_; omega)) only [e170_503, e170_504, e170_505, e170_506, e170_507, e170_508, e170_509, e170_510, e170_511, e170_512, e170_513, e170_514, e170_515, e170_516, e170_517, e170_518, e170_519, e170_522, e170_523, e170_524, e170_525, e170_526, e170_527, e170_528, e170_529, e170_530, e170_531, e170_532, e170_533, e170_534, e170_535, e170_536, e170_537, e170_538, e170_541, e170_542, e170_545, e170_546, kv_s, kh_s, kn_s, kc_v, kc_n, Nat.reduceEqDiff, Nat.one_ne_zero, Nat.reduceLT, Nat.reduceLeDiff, Nat.reduceAdd, Nat.reduceSub, Nat.reduceMul, nI_add, nI_leI, nI_ltI, nI_eq, z_eq, z_lt, z_le, z_gt, z_ge, ↓reduceIte, not_true_eq_false, not_false_eq_true, if_true, if_false, hal, hal1, e1, e2, cmp_eq]
theorem op13 (hB : okS B) (hS : scr B xs L) (hL : L ≤ 2048) (ht : t + 100 < 2 ^ 29) (hi : i + 4 ≤ L) (hI : InvH B t H) : ∃ H2, InvH B (t + 81) H2 ∧ ev 170 547 [some (.ref 1000050), some (.ref 0), some (.ref 77), some (.int (nI i))] [] H = ev 170 797 [some (.ref 1000050), some (.ref 0), some (.ref 77), some (.int (nI i))] [] H2 := by
  obtain ⟨v, H1, H2, e1, e2, w1, i2⟩ := st13 B t H hB (xs (i + 1)) (xs (i + 2)) (xs (i + 3)) hI
  obtain ⟨a0, _, a2, _⟩ := isW_f hB hS (inv_W hI)
  obtain ⟨_, b1, b2, _⟩ := isW_f hB hS w1
  have hal := al_s hL a2
  have hal1 := al_s hL b2
  refine ⟨H2, i2, ?_⟩
  simp (disch := first | omega | assumption | (refine b30 ?_; omega)) only [e170_547, e170_548, e170_549, e170_550, e170_551, e170_552, e170_553, e170_554, e170_555, e170_556, e170_557, e170_558, e170_559, e170_560, e170_561, e170_562, e170_563, e170_566, e170_567, e170_568, e170_569, e170_570, e170_571, e170_572, e170_573, e170_574, e170_575, e170_576, e170_577, e170_578, e170_579, e170_580, e170_581, e170_582, e170_585, e170_586, e170_589, e170_590, kv_s, kh_s, kn_s, kc_v, kc_n, Nat.reduceEqDiff, Nat.one_ne_zero, Nat.reduceLT, Nat.reduceLeDiff, Nat.reduceAdd, Nat.reduceSub, Nat.reduceMul, nI_add, nI_leI, nI_ltI, nI_eq, z_eq, z_lt, z_le, z_gt, z_ge, ↓reduceIte, not_true_eq_false, not_false_eq_true, if_true, if_false, hal, hal1, e1, e2, cmp_eq]
theorem op14 (hB : okS B) (hS : scr B xs L) (hL : L ≤ 2048) (ht : t + 100 < 2 ^ 29) (hi : i + 4 ≤ L) (hI : InvH B t H) : ∃ H2, InvH B (t + 81) H2 ∧ ev 170 591 [some (.ref 1000050), some (.ref 0), some (.ref 77), some (.int (nI i))] [] H = ev 170 797 [some (.ref 1000050), some (.ref 0), some (.ref 77), some (.int (nI i))] [] H2 := by
  obtain ⟨v, H1, H2, e1, e2, w1, i2⟩ := st14 B t H hB (xs (i + 1)) (xs (i + 2)) (xs (i + 3)) hI
  obtain ⟨a0, _, a2, _⟩ := isW_f hB hS (inv_W hI)
  obtain ⟨_, b1, b2, _⟩ := isW_f hB hS w1
  have hal := al_s hL a2
  have hal1 := al_s hL b2
  refine ⟨H2, i2, ?_⟩
  simp (disch := first | omega | assumption | (refine b30 ?_; omega)) only [e170_591, e170_592, e170_593, e170_594, e170_595, e170_596, e170_597, e170_598, e170_599, e170_600, e170_601, e170_602, e170_603, e170_604, e170_605, e170_606, e170_607, e170_610, e170_611, e170_612, e170_613, e170_614, e170_615, e170_616, e170_617, e170_618, e170_619, e170_620, e170_621, e170_622, e170_623, e170_624, e170_625, e170_626, e170_629, e170_630, e170_633, e170_634, kv_s, kh_s, kn_s, kc_v, kc_n, Nat.reduceEqDiff, Nat.one_ne_zero, Nat.reduceLT, Nat.reduceLeDiff, Nat.reduceAdd, Nat.reduceSub, Nat.reduceMul, nI_add, nI_leI, nI_ltI, nI_eq, z_eq, z_lt, z_le, z_gt, z_ge, ↓reduceIte, not_true_eq_false, not_false_eq_true, if_true, if_false, hal, hal1, e1, e2, cmp_eq]
theorem op15 (hB : okS B) (hS : scr B xs L) (hL : L ≤ 2048) (ht : t + 100 < 2 ^ 29) (hi : i + 4 ≤ L) (hI : InvH B t H) : ∃ H2, InvH B (t + 81) H2 ∧ ev 170 635 [some (.ref 1000050), some (.ref 0), some (.ref 77), some (.int (nI i))] [] H = ev 170 797 [some (.ref 1000050), some (.ref 0), some (.ref 77), some (.int (nI i))] [] H2 := by
  obtain ⟨v, H1, H2, e1, e2, w1, i2⟩ := st15 B t H hB (xs (i + 1)) (xs (i + 2)) hI
  obtain ⟨a0, _, a2, _⟩ := isW_f hB hS (inv_W hI)
  obtain ⟨_, b1, b2, _⟩ := isW_f hB hS w1
  have hal := al_s hL a2
  have hal1 := al_s hL b2
  refine ⟨H2, i2, ?_⟩
  simp (disch := first | omega | assumption | (refine b30 ?_; omega)) only [e170_635, e170_636, e170_637, e170_638, e170_639, e170_640, e170_641, e170_642, e170_643, e170_644, e170_645, e170_646, e170_649, e170_650, e170_651, e170_652, e170_653, e170_654, e170_655, e170_656, e170_657, e170_658, e170_659, e170_660, e170_663, e170_666, e170_667, kv_s, kh_s, kn_s, kc_v, kc_n, Nat.reduceEqDiff, Nat.one_ne_zero, Nat.reduceLT, Nat.reduceLeDiff, Nat.reduceAdd, Nat.reduceSub, Nat.reduceMul, nI_add, nI_leI, nI_ltI, nI_eq, z_eq, z_lt, z_le, z_gt, z_ge, ↓reduceIte, not_true_eq_false, not_false_eq_true, if_true, if_false, hal, hal1, e1, e2]
theorem op16 (hB : okS B) (hS : scr B xs L) (hL : L ≤ 2048) (ht : t + 100 < 2 ^ 29) (hi : i + 4 ≤ L) (hI : InvH B t H) : ∃ H2, InvH B (t + 81) H2 ∧ ev 170 668 [some (.ref 1000050), some (.ref 0), some (.ref 77), some (.int (nI i))] [] H = ev 170 797 [some (.ref 1000050), some (.ref 0), some (.ref 77), some (.int (nI i))] [] H2 := by
  obtain ⟨v, H1, H2, e1, e2, w1, i2⟩ := st16 B t H hB (xs (i + 1)) (xs (i + 2)) (xs (i + 3)) hI
  obtain ⟨a0, _, a2, _⟩ := isW_f hB hS (inv_W hI)
  obtain ⟨_, b1, b2, _⟩ := isW_f hB hS w1
  have hal := al_s hL a2
  have hal1 := al_s hL b2
  refine ⟨H2, i2, ?_⟩
  simp (disch := first | omega | assumption | (refine b30 ?_; omega)) only [e170_668, e170_669, e170_670, e170_671, e170_672, e170_673, e170_674, e170_675, e170_676, e170_677, e170_678, e170_679, e170_680, e170_681, e170_682, e170_683, e170_684, e170_687, e170_688, e170_689, e170_690, e170_691, e170_692, e170_693, e170_694, e170_695, e170_696, e170_697, e170_698, e170_699, e170_700, e170_701, e170_702, e170_703, e170_706, e170_707, e170_710, e170_711, kv_s, kh_s, kn_s, kc_v, kc_n, Nat.reduceEqDiff, Nat.one_ne_zero, Nat.reduceLT, Nat.reduceLeDiff, Nat.reduceAdd, Nat.reduceSub, Nat.reduceMul, nI_add, nI_leI, nI_ltI, nI_eq, z_eq, z_lt, z_le, z_gt, z_ge, ↓reduceIte, not_true_eq_false, not_false_eq_true, if_true, if_false, hal, hal1, e1, e2, cmp_eq]
theorem op17 (hB : okS B) (hS : scr B xs L) (hL : L ≤ 2048) (ht : t + 100 < 2 ^ 29) (hi : i + 4 ≤ L) (hI : InvH B t H) : ∃ H2, InvH B (t + 81) H2 ∧ ev 170 712 [some (.ref 1000050), some (.ref 0), some (.ref 77), some (.int (nI i))] [] H = ev 170 797 [some (.ref 1000050), some (.ref 0), some (.ref 77), some (.int (nI i))] [] H2 := by
  obtain ⟨v, H1, H2, e1, e2, w1, i2⟩ := st17 B t H hB  hI
  obtain ⟨a0, _, a2, _⟩ := isW_f hB hS (inv_W hI)
  obtain ⟨_, b1, b2, _⟩ := isW_f hB hS w1
  have hal := al_s hL a2
  have hal1 := al_s hL b2
  refine ⟨H2, i2, ?_⟩
  simp (disch := first | omega | assumption | (refine b30 ?_; omega)) only [e170_712, e170_713, e170_716, e170_717, e170_720, e170_723, e170_724, kv_s, kh_s, kn_s, kc_v, kc_n, Nat.reduceEqDiff, Nat.one_ne_zero, Nat.reduceLT, Nat.reduceLeDiff, Nat.reduceAdd, Nat.reduceSub, Nat.reduceMul, nI_add, nI_leI, nI_ltI, nI_eq, z_eq, z_lt, z_le, z_gt, z_ge, ↓reduceIte, not_true_eq_false, not_false_eq_true, if_true, if_false, hal, hal1, e1, e2]
theorem op18 (hB : okS B) (hS : scr B xs L) (hL : L ≤ 2048) (ht : t + 100 < 2 ^ 29) (hi : i + 4 ≤ L) (hI : InvH B t H) : ∃ H2, InvH B (t + 81) H2 ∧ ev 170 725 [some (.ref 1000050), some (.ref 0), some (.ref 77), some (.int (nI i))] [] H = ev 170 797 [some (.ref 1000050), some (.ref 0), some (.ref 77), some (.int (nI i))] [] H2 := by
  obtain ⟨v, H1, H2, e1, e2, w1, i2⟩ := st18 B t H hB (xs (i + 1)) hI
  obtain ⟨a0, _, a2, _⟩ := isW_f hB hS (inv_W hI)
  obtain ⟨_, b1, b2, _⟩ := isW_f hB hS w1
  have hal := al_s hL a2
  have hal1 := al_s hL b2
  refine ⟨H2, i2, ?_⟩
  simp (disch := first | omega | assumption | (refine b30 ?_; omega)) only [e170_725, e170_726, e170_727, e170_728, e170_729, e170_730, e170_731, e170_734, e170_735, e170_736, e170_737, e170_738, e170_739, e170_740, e170_743, e170_746, e170_747, kv_s, kh_s, kn_s, kc_v, kc_n, Nat.reduceEqDiff, Nat.one_ne_zero, Nat.reduceLT, Nat.reduceLeDiff, Nat.reduceAdd, Nat.reduceSub, Nat.reduceMul, nI_add, nI_leI, nI_ltI, nI_eq, z_eq, z_lt, z_le, z_gt, z_ge, ↓reduceIte, not_true_eq_false, not_false_eq_true, if_true, if_false, hal, hal1, e1, e2]
theorem op19 (hB : okS B) (hS : scr B xs L) (hL : L ≤ 2048) (ht : t + 100 < 2 ^ 29) (hi : i + 4 ≤ L) (hI : InvH B t H) : ∃ H2, InvH B (t + 81) H2 ∧ ev 170 748 [some (.ref 1000050), some (.ref 0), some (.ref 77), some (.int (nI i))] [] H = ev 170 797 [some (.ref 1000050), some (.ref 0), some (.ref 77), some (.int (nI i))] [] H2 := by
  obtain ⟨v, H1, H2, e1, e2, w1, i2⟩ := st19 B t H hB  hI
  obtain ⟨a0, _, a2, _⟩ := isW_f hB hS (inv_W hI)
  obtain ⟨_, b1, b2, _⟩ := isW_f hB hS w1
  have hal := al_s hL a2
  have hal1 := al_s hL b2
  refine ⟨H2, i2, ?_⟩
  simp (disch := first | omega | assumption | (refine b30 ?_; omega)) only [e170_748, e170_749, e170_752, e170_753, e170_756, e170_759, e170_760, kv_s, kh_s, kn_s, kc_v, kc_n, Nat.reduceEqDiff, Nat.one_ne_zero, Nat.reduceLT, Nat.reduceLeDiff, Nat.reduceAdd, Nat.reduceSub, Nat.reduceMul, nI_add, nI_leI, nI_ltI, nI_eq, z_eq, z_lt, z_le, z_gt, z_ge, ↓reduceIte, not_true_eq_false, not_false_eq_true, if_true, if_false, hal, hal1, e1, e2]
theorem op20 (hB : okS B) (hS : scr B xs L) (hL : L ≤ 2048) (ht : t + 100 < 2 ^ 29) (hi : i + 4 ≤ L) (hI : InvH B t H) : ∃ H2, InvH B (t + 81) H2 ∧ ev 170 761 [some (.ref 1000050), some (.ref 0), some (.ref 77), some (.int (nI i))] [] H = ev 170 797 [some (.ref 1000050), some (.ref 0), some (.ref 77), some (.int (nI i))] [] H2 := by
  obtain ⟨v, H1, H2, e1, e2, w1, i2⟩ := st20 B t H hB ht (xs (i + 1)) hI
  obtain ⟨a0, _, a2, _⟩ := isW_f hB hS (inv_W hI)
  obtain ⟨_, b1, b2, _⟩ := isW_f hB hS w1
  have hal := al_s hL a2
  have hal1 := al_s hL b2
  refine ⟨H2, i2, ?_⟩
  simp (disch := first | omega | assumption | (refine b30 ?_; omega)) only [e170_761, e170_762, e170_763, e170_764, e170_765, e170_766, e170_767, e170_770, e170_771, e170_772, e170_773, e170_774, e170_775, e170_776, e170_779, e170_782, e170_783, kv_s, kh_s, kn_s, kc_v, kc_n, Nat.reduceEqDiff, Nat.one_ne_zero, Nat.reduceLT, Nat.reduceLeDiff, Nat.reduceAdd, Nat.reduceSub, Nat.reduceMul, nI_add, nI_leI, nI_ltI, nI_eq, z_eq, z_lt, z_le, z_gt, z_ge, ↓reduceIte, not_true_eq_false, not_false_eq_true, if_true, if_false, hal, hal1, e1, e2]
theorem op21 (hB : okS B) (hS : scr B xs L) (hL : L ≤ 2048) (ht : t + 100 < 2 ^ 29) (hi : i + 4 ≤ L) (hI : InvH B t H) : ∃ H2, InvH B (t + 81) H2 ∧ ev 170 784 [some (.ref 1000050), some (.ref 0), some (.ref 77), some (.int (nI i))] [] H = ev 170 797 [some (.ref 1000050), some (.ref 0), some (.ref 77), some (.int (nI i))] [] H2 := by
  obtain ⟨v, H1, H2, e1, e2, w1, i2⟩ := st21 B t H hB ht  hI
  obtain ⟨a0, _, a2, _⟩ := isW_f hB hS (inv_W hI)
  obtain ⟨_, b1, b2, _⟩ := isW_f hB hS w1
  have hal := al_s hL a2
  have hal1 := al_s hL b2
  refine ⟨H2, i2, ?_⟩
  simp (disch := first | omega | assumption | (refine b30 ?_; omega)) only [e170_784, e170_785, e170_788, e170_789, e170_792, e170_795, e170_796, kv_s, kh_s, kn_s, kc_v, kc_n, Nat.reduceEqDiff, Nat.one_ne_zero, Nat.reduceLT, Nat.reduceLeDiff, Nat.reduceAdd, Nat.reduceSub, Nat.reduceMul, nI_add, nI_leI, nI_ltI, nI_eq, z_eq, z_lt, z_le, z_gt, z_ge, ↓reduceIte, not_true_eq_false, not_false_eq_true, if_true, if_false, hal, hal1, e1, e2]
end
