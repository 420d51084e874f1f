-- PART 40: the reference's methods, seventh: a sale, told of the shop
theorem so_n (a : sT) (d s k : Nat) (hk : k < 4) : m_sold2 a d s k = a k := by
  unfold m_sold2 m_sold m_keep
  split
  · rw [u2_ne _ _ _ _ _ (by omega), u2_ne _ _ _ _ _ (by omega), u2_ne _ _ _ _ _ (by omega), u2_ne _ _ _ _ _ (by omega), u2_ne _ _ _ _ _ (by omega), u2_ne _ _ _ _ _ (by omega), u2_ne _ _ _ _ _ (by omega), u2_ne _ _ _ _ _ (by omega), u2_ne _ _ _ _ _ (by omega), u2_ne _ _ _ _ _ (by omega), u2_ne _ _ _ _ _ (by omega), u2_ne _ _ _ _ _ (by omega), kS_n _ _ _ (by omega)]
  · rw [u2_ne _ _ _ _ _ (by omega), u2_ne _ _ _ _ _ (by omega), u2_ne _ _ _ _ _ (by omega), u2_ne _ _ _ _ _ (by omega), u2_ne _ _ _ _ _ (by omega), u2_ne _ _ _ _ _ (by omega), u2_ne _ _ _ _ _ (by omega), u2_ne _ _ _ _ _ (by omega), u2_ne _ _ _ _ _ (by omega), u2_ne _ _ _ _ _ (by omega), u2_ne _ _ _ _ _ (by omega), kS_n _ _ _ (by omega)]
theorem so_4 (a : sT) (d s j : Nat) (hj : j < 24) : m_sold2 a d s 4 j = if j = 0 then d else if j = 1 then s else if j = 2 then a 5 0 else if j = 3 then a 6 0 else a 4 (j - 4) := by
  unfold m_sold2 m_sold m_keep
  have e : ∀ b : sT, b 4 j = u2 (u2 (u2 (u2 (kS a 20) 4 0 d) 4 1 s) 4 2 (a 5 0)) 4 3 (a 6 0) 4 j → b 4 j = if j = 0 then d else if j = 1 then s else if j = 2 then a 5 0 else if j = 3 then a 6 0 else a 4 (j - 4) := by
    intro b hb
    rw [hb]
    simp only [u2_app, kS_4, true_and]
    (repeat' split) <;> first | rfl | omega
  split
  · exact e _ (by simp only [u2_nj, ne_eq, Nat.reduceEqDiff, not_false_eq_true])
  · exact e _ (by simp only [u2_nj, ne_eq, Nat.reduceEqDiff, not_false_eq_true])
theorem so_s (a : sT) (d s : Nat) : m_sold2 a d s 5 0 = a 5 0 - s ∧ m_sold2 a d s 6 0 = a 6 0 - 1 ∧ m_sold2 a d s 7 0 = 0 ∧ m_sold2 a d s 8 0 = a 8 0 ∧ m_sold2 a d s 9 0 = a 9 0 ∧ m_sold2 a d s 10 0 = a 10 0 + s ∧ m_sold2 a d s 11 0 = a 11 0 + (d - s) ∧ m_sold2 a d s 12 0 = a 12 0 + (pprice a (a 5 0) d + if a 6 0 - 1 = 0 then a 1 4 * (a 5 0 - s) else 0) ∧ m_sold2 a d s 13 0 = a 13 0 + 1 := by
  unfold m_sold2 m_sold m_keep
  split
  · rename_i h
    simp (disch := omega) only [u2_app, Nat.reduceEqDiff, false_and, and_false, and_self, and_true, true_and, kS_n, if_true, h, Nat.add_assoc, ↓reduceIte]
  · rename_i h
    simp (disch := omega) only [u2_app, Nat.reduceEqDiff, false_and, and_false, and_self, and_true, true_and, kS_n, if_true, if_false, h, Nat.add_zero, ↓reduceIte]
theorem sold_flat (a : sT) (d : Nat) (G : Nat → Nat) (k0 : Nat) (hk : k0 ≤ 5) (hmin : min (a 13 0 + 1) 6 = k0 + 1) (hG : ∀ i, i < 33 → G i = flat a i) (hR : ∀ i, 34 ≤ i → G i = if (i - 34) / 4 < k0 then a 4 (4 * (k0 - 1 - (i - 34) / 4) + (i - 34) % 4) else if i < 34 + 4 * k0 + 4 then G i else 0) : sG a G k0 d (min d (a 5 0)) = flat (m_sold2 a d (min d (a 5 0))) := by
  obtain ⟨b5, b6, b7, b8, b9, b10, b11, b12, b13⟩ := so_s a d (min d (a 5 0))
  have hp : pprice a (a 5 0) d = a 1 2 * (a 5 0 - min d (a 5 0)) + a 1 3 * (d - min d (a 5 0)) := by
    unfold pprice
    rw [show a 5 0 - min d (a 5 0) = a 5 0 - d by omega, show d - min d (a 5 0) = d - a 5 0 by omega]
  rw [hp] at b12
  funext i
  by_cases h24 : i < 24
  · unfold sG
    simp (disch := omega) only [upN_ne]
    rw [hG i (by omega)]
    unfold flat
    rw [so_n _ _ _ _ (by omega), so_n _ _ _ _ (by omega), so_n _ _ _ _ (by omega), so_n _ _ _ _ (by omega)]
    (repeat' split) <;> first | rfl | omega
  by_cases h34 : i < 34
  · have h : i = 24 ∨ i = 25 ∨ i = 26 ∨ i = 27 ∨ i = 28 ∨ i = 29 ∨ i = 30 ∨ i = 31 ∨ i = 32 ∨ i = 33 := by omega
    unfold sG
    rcases h with rfl | rfl | rfl | rfl | rfl | rfl | rfl | rfl | rfl | rfl
    · simp (disch := omega) only [upN_eq, upN_ne, fl24, b5]
    · simp (disch := omega) only [upN_eq, upN_ne, fl25, b6]
    · simp (disch := omega) only [upN_eq, upN_ne, fl26, b7]
    · simp (disch := omega) only [upN_eq, upN_ne, fl27, b8]
      rw [hG _ (by omega), fl27]
    · simp (disch := omega) only [upN_eq, upN_ne, fl28, b9]
      rw [hG _ (by omega), fl28]
    · simp (disch := omega) only [upN_eq, upN_ne, fl29, b10]
    · simp (disch := omega) only [upN_eq, upN_ne, fl30, b11]
    · simp (disch := omega) only [upN_eq, upN_ne, fl31, b12]
    · simp (disch := omega) only [upN_eq, upN_ne, fl32, b13]
    · simp (disch := omega) only [upN_eq, upN_ne, fl33, b13, hmin]
  have hf : flat (m_sold2 a d (min d (a 5 0))) i = if (i - 34) / 4 < k0 + 1 then m_sold2 a d (min d (a 5 0)) 4 (4 * (k0 - (i - 34) / 4) + (i - 34) % 4) else 0 := by
    unfold flat
    rw [if_neg (by omega), if_neg (by omega), if_neg (by omega), if_neg (by omega), if_neg (by omega), if_neg (by omega), b13, hmin, show k0 + 1 - 1 = k0 by omega]
  rw [hf]
  by_cases hr : (i - 34) / 4 < k0
  · rw [if_pos (by omega), so_4 _ _ _ _ (by omega), if_neg (by omega), if_neg (by omega), if_neg (by omega), if_neg (by omega)]
    unfold sG
    simp (disch := omega) only [upN_ne]
    rw [hR i (by omega), if_pos hr]
    congr 1
    omega
  · by_cases hr2 : i < 34 + 4 * k0 + 4
    · have h : i = 34 + 4 * k0 ∨ i = 34 + 4 * k0 + 1 ∨ i = 34 + 4 * k0 + 2 ∨ i = 34 + 4 * k0 + 3 := by omega
      rw [if_pos (by omega), so_4 _ _ _ _ (by omega)]
      rcases h with h | h | h | h
      · rw [if_pos (by omega), h]
        unfold sG
        simp (disch := omega) only [upN_eq, upN_ne]
      · rw [if_neg (by omega), if_pos (by omega), h]
        unfold sG
        simp (disch := omega) only [upN_eq, upN_ne]
      · rw [if_neg (by omega), if_neg (by omega), if_pos (by omega), h]
        unfold sG
        simp (disch := omega) only [upN_eq, upN_ne]
      · rw [if_neg (by omega), if_neg (by omega), if_neg (by omega), if_pos (by omega), h]
        unfold sG
        simp (disch := omega) only [upN_eq, upN_ne]
    · rw [if_neg (by omega)]
      unfold sG
      simp (disch := omega) only [upN_ne]
      rw [hR i (by omega), if_neg hr, if_neg hr2]
section
variable (H : pi_H) (ι : sT) (z : jT) (κ : kT)
theorem m132 (a : sT) (d : Nat) (hd : d ≤ 6) (h5 : a 5 0 ≤ 20) (h6 : a 6 0 ≤ 6) (h13 : a 13 0 < 2 ^ 30) : ex 132 [.ref 77, .int (nI d)] (MO H (u1 ι 0 (flat a)) z κ) = some (some (.int (m_sell a d).1), MO H (u1 ι 0 (flat (m_sell a d).2)) z κ) := by
  unfold m_sell
  by_cases q1 : a 6 0 = 0
  · simp (disch := first | omega | assumption | exact MO_isO _ _ _ _ | (refine b30 ?_; omega) | (refine nI_inR ?_ ?_ ?_ <;> omega)) only [x132, e132_0, e132_1, e132_2, e132_4, e132_7, e132_10, e132_12, e132_13, e132_14, e132_17, e132_19, e132_20, e132_23, e132_25, e132_26, e132_27, e132_28, e132_31, e132_33, e132_34, e132_37, e132_38, e132_41, e132_42, e132_45, e132_47, e132_48, e132_49, e132_50, e132_53, e132_55, e132_56, e132_58, e132_61, e132_62, e132_63, e132_64, e132_66, e132_69, e132_70, e132_73, e132_75, e132_76, e132_77, e132_78, e132_81, e132_83, e132_84, e132_85, e132_86, e132_87, e132_88, e132_89, e132_92, e132_95, e132_96, e132_99, e132_101, e132_102, e132_103, e132_104, e132_105, e132_106, e132_108, e132_109, e132_110, e132_113, e132_115, e132_116, e132_117, e132_118, e132_119, e132_120, e132_123, e132_124, e132_125, e132_126, e132_127, e132_130, e132_131, e132_132, e132_133, e132_134, e132_135, e132_136, e132_139, e132_140, e132_141, e132_142, e132_143, e132_146, e132_148, e132_149, e132_150, e132_151, e132_154, e132_155, e132_156, e132_157, e132_158, e132_161, e132_163, e132_164, e132_165, e132_166, e132_169, e132_171, e132_172, e132_173, e132_174, e132_175, e132_176, e132_177, e132_180, e132_182, e132_183, e132_184, e132_185, e132_186, e132_187, e132_188, e132_191, e132_193, e132_194, e132_195, e132_196, e132_197, e132_198, e132_199, e132_202, e132_204, e132_205, e132_206, e132_207, e132_210, e132_212, e132_213, e132_214, e132_215, e132_216, e132_217, e132_218, e132_221, e132_223, e132_224, e132_225, e132_226, e132_227, e132_228, e132_229, e132_230, e132_231, e132_234, e132_236, e132_237, e132_238, e132_239, e132_242, e132_244, e132_245, e132_246, e132_249, e132_251, e132_252, e132_253, e132_254, e132_257, e132_259, e132_260, e132_261, e132_262, e132_263, e132_264, e132_265, e132_266, e132_269, e132_271, e132_272, e132_275, e132_276, e132_279, e132_281, e132_282, e132_283, e132_286, e132_288, e132_289, e132_290, e132_293, e132_294, e132_295, e132_296, e132_297, e132_298, e132_301, e132_303, e132_304, e132_305, e132_306, e132_307, e132_308, e132_309, Nat.reduceEqDiff, Nat.one_ne_zero, Nat.reduceLT, Nat.reduceLeDiff, Nat.reduceAdd, Nat.reduceSub, Nat.reduceMul, nI_add, nI_leI, nI_ltI, nI_eq, z_eq, z_lt, z_le, z_gt, z_ge, ↓reduceIte, not_true_eq_false, not_false_eq_true, if_true, if_false, kv_s, kh_s, kn_s, kc_v, kc_n, MO_isO, MO_f0, MO_f1, MO_f2, MO_f3, MO_f4, MO_f5, MO_f6, MO_f7, MO_f8, MO_f9, MO_f10, MO_f11, MO_f12, MO_f13, MO_f14, MO_i0, MO_i1, MO_i2, MO_i3, MO_i4, MO_i5, MO_j0, MO_j1, MO_j2, MO_j3, fl7, fl8, fl9, fl10, fl11, fl24, fl25, fl26, fl27, fl28, fl29, fl30, fl31, fl32, fl33, upN_app, m117i, u1_0, q1]
  rw [if_neg q1]
  dsimp only
  have e0 : ex 132 [.ref 77, .int (nI d)] (MO H (u1 ι 0 (flat a)) z κ) = ev 132 49 [some (.ref 77), some (.int (nI d)), some (.int (nI (min d (a 5 0)))), none] [] (MO H (u1 ι 0 (flat a)) z κ) := by
    by_cases h : d < a 5 0
    · rw [Nat.min_eq_left (by omega)]
      simp (disch := first | omega | assumption | exact MO_isO _ _ _ _ | (refine b30 ?_; omega) | (refine nI_inR ?_ ?_ ?_ <;> omega)) only [x132, e132_0, e132_1, e132_2, e132_4, e132_7, e132_10, e132_12, e132_13, e132_14, e132_17, e132_19, e132_20, e132_23, e132_25, e132_26, e132_27, e132_28, e132_31, e132_33, e132_34, e132_37, e132_38, e132_41, e132_42, e132_45, e132_47, e132_48, e132_50, e132_53, e132_55, e132_56, e132_58, e132_61, e132_62, e132_63, e132_64, e132_66, e132_69, e132_70, e132_73, e132_75, e132_76, e132_77, e132_78, e132_81, e132_83, e132_84, e132_85, e132_86, e132_87, e132_88, e132_89, e132_92, e132_95, e132_96, e132_99, e132_101, e132_102, e132_103, e132_104, e132_105, e132_106, e132_108, e132_109, e132_110, e132_113, e132_115, e132_116, e132_117, e132_118, e132_119, e132_120, e132_123, e132_124, e132_125, e132_126, e132_127, e132_130, e132_131, e132_132, e132_133, e132_134, e132_135, e132_136, e132_139, e132_140, e132_141, e132_142, e132_143, e132_146, e132_148, e132_149, e132_150, e132_151, e132_154, e132_155, e132_156, e132_157, e132_158, e132_161, e132_163, e132_164, e132_165, e132_166, e132_169, e132_171, e132_172, e132_173, e132_174, e132_175, e132_176, e132_177, e132_180, e132_182, e132_183, e132_184, e132_185, e132_186, e132_187, e132_188, e132_191, e132_193, e132_194, e132_195, e132_196, e132_197, e132_198, e132_199, e132_202, e132_204, e132_205, e132_206, e132_207, e132_210, e132_212, e132_213, e132_214, e132_215, e132_216, e132_217, e132_218, e132_221, e132_223, e132_224, e132_225, e132_226, e132_227, e132_228, e132_229, e132_230, e132_231, e132_234, e132_236, e132_237, e132_238, e132_239, e132_242, e132_244, e132_245, e132_246, e132_249, e132_251, e132_252, e132_253, e132_254, e132_257, e132_259, e132_260, e132_261, e132_262, e132_263, e132_264, e132_265, e132_266, e132_269, e132_271, e132_272, e132_275, e132_276, e132_279, e132_281, e132_282, e132_283, e132_286, e132_288, e132_289, e132_290, e132_293, e132_294, e132_295, e132_296, e132_297, e132_298, e132_301, e132_303, e132_304, e132_305, e132_306, e132_307, e132_308, e132_309, Nat.reduceEqDiff, Nat.one_ne_zero, Nat.reduceLT, Nat.reduceLeDiff, Nat.reduceAdd, Nat.reduceSub, Nat.reduceMul, nI_add, nI_leI, nI_ltI, nI_eq, z_eq, z_lt, z_le, z_gt, z_ge, ↓reduceIte, not_true_eq_false, not_false_eq_true, if_true, if_false, kv_s, kh_s, kn_s, kc_v, kc_n, MO_isO, MO_f0, MO_f1, MO_f2, MO_f3, MO_f4, MO_f5, MO_f6, MO_f7, MO_f8, MO_f9, MO_f10, MO_f11, MO_f12, MO_f13, MO_f14, MO_i0, MO_i1, MO_i2, MO_i3, MO_i4, MO_i5, MO_j0, MO_j1, MO_j2, MO_j3, fl7, fl8, fl9, fl10, fl11, fl24, fl25, fl26, fl27, fl28, fl29, fl30, fl31, fl32, fl33, upN_app, m117i, u1_0, q1, show ¬ a 5 0 ≤ d by omega]
    · rw [Nat.min_eq_right (by omega)]
      simp (disch := first | omega | assumption | exact MO_isO _ _ _ _ | (refine b30 ?_; omega) | (refine nI_inR ?_ ?_ ?_ <;> omega)) only [x132, e132_0, e132_1, e132_2, e132_4, e132_7, e132_10, e132_12, e132_13, e132_14, e132_17, e132_19, e132_20, e132_23, e132_25, e132_26, e132_27, e132_28, e132_31, e132_33, e132_34, e132_37, e132_38, e132_41, e132_42, e132_45, e132_47, e132_48, e132_50, e132_53, e132_55, e132_56, e132_58, e132_61, e132_62, e132_63, e132_64, e132_66, e132_69, e132_70, e132_73, e132_75, e132_76, e132_77, e132_78, e132_81, e132_83, e132_84, e132_85, e132_86, e132_87, e132_88, e132_89, e132_92, e132_95, e132_96, e132_99, e132_101, e132_102, e132_103, e132_104, e132_105, e132_106, e132_108, e132_109, e132_110, e132_113, e132_115, e132_116, e132_117, e132_118, e132_119, e132_120, e132_123, e132_124, e132_125, e132_126, e132_127, e132_130, e132_131, e132_132, e132_133, e132_134, e132_135, e132_136, e132_139, e132_140, e132_141, e132_142, e132_143, e132_146, e132_148, e132_149, e132_150, e132_151, e132_154, e132_155, e132_156, e132_157, e132_158, e132_161, e132_163, e132_164, e132_165, e132_166, e132_169, e132_171, e132_172, e132_173, e132_174, e132_175, e132_176, e132_177, e132_180, e132_182, e132_183, e132_184, e132_185, e132_186, e132_187, e132_188, e132_191, e132_193, e132_194, e132_195, e132_196, e132_197, e132_198, e132_199, e132_202, e132_204, e132_205, e132_206, e132_207, e132_210, e132_212, e132_213, e132_214, e132_215, e132_216, e132_217, e132_218, e132_221, e132_223, e132_224, e132_225, e132_226, e132_227, e132_228, e132_229, e132_230, e132_231, e132_234, e132_236, e132_237, e132_238, e132_239, e132_242, e132_244, e132_245, e132_246, e132_249, e132_251, e132_252, e132_253, e132_254, e132_257, e132_259, e132_260, e132_261, e132_262, e132_263, e132_264, e132_265, e132_266, e132_269, e132_271, e132_272, e132_275, e132_276, e132_279, e132_281, e132_282, e132_283, e132_286, e132_288, e132_289, e132_290, e132_293, e132_294, e132_295, e132_296, e132_297, e132_298, e132_301, e132_303, e132_304, e132_305, e132_306, e132_307, e132_308, e132_309, Nat.reduceEqDiff, Nat.one_ne_zero, Nat.reduceLT, Nat.reduceLeDiff, Nat.reduceAdd, Nat.reduceSub, Nat.reduceMul, nI_add, nI_leI, nI_ltI, nI_eq, z_eq, z_lt, z_le, z_gt, z_ge, ↓reduceIte, not_true_eq_false, not_false_eq_true, if_true, if_false, kv_s, kh_s, kn_s, kc_v, kc_n, MO_isO, MO_f0, MO_f1, MO_f2, MO_f3, MO_f4, MO_f5, MO_f6, MO_f7, MO_f8, MO_f9, MO_f10, MO_f11, MO_f12, MO_f13, MO_f14, MO_i0, MO_i1, MO_i2, MO_i3, MO_i4, MO_i5, MO_j0, MO_j1, MO_j2, MO_j3, fl7, fl8, fl9, fl10, fl11, fl24, fl25, fl26, fl27, fl28, fl29, fl30, fl31, fl32, fl33, upN_app, m117i, u1_0, q1, show a 5 0 ≤ d by omega]
  rw [e0]
  by_cases h : a 13 0 < 6
  · rw [← sold_flat a d (flat a) (a 13 0) (by omega) (by omega) (fun _ _ => rfl) (fun i hi => by
      by_cases hr : (i - 34) / 4 < a 13 0
      · rw [if_pos hr]
        unfold flat
        rw [if_neg (by omega), if_neg (by omega), if_neg (by omega), if_neg (by omega), if_neg (by omega), if_neg (by omega), Nat.min_eq_left (by omega), if_pos hr]
      · rw [if_neg hr]
        unfold flat
        rw [if_neg (show ¬ i < 7 by omega), if_neg (show ¬ i < 12 by omega), if_neg (show ¬ i < 18 by omega), if_neg (show ¬ i < 24 by omega), if_neg (show ¬ i < 33 by omega), if_neg (show ¬ i = 33 by omega), Nat.min_eq_left (by omega), if_neg hr]
        simp)]
    have e := l132b H ι z κ a (flat a) (a 13 0) d (min d (a 5 0)) 0 hd (by omega) (by omega) (by omega) h6 (by omega) ((fl33 a).trans (by omega)) (fun _ _ => rfl) none
    rw [e132_49] <;> try rfl
    simp (disch := first | omega | assumption | exact MO_isO _ _ _ _ | (refine b30 ?_; omega) | (refine nI_inR ?_ ?_ ?_ <;> omega)) only [x132, e132_0, e132_1, e132_2, e132_4, e132_7, e132_10, e132_12, e132_13, e132_14, e132_17, e132_19, e132_20, e132_23, e132_25, e132_26, e132_27, e132_28, e132_31, e132_33, e132_34, e132_37, e132_38, e132_41, e132_42, e132_45, e132_47, e132_48, e132_49, e132_50, e132_53, e132_55, e132_56, e132_58, e132_61, e132_62, e132_63, e132_64, e132_66, e132_69, e132_70, e132_73, e132_75, e132_76, e132_77, e132_78, e132_81, e132_83, e132_84, e132_85, e132_86, e132_87, e132_88, e132_89, e132_92, e132_95, e132_96, e132_99, e132_101, e132_102, e132_103, e132_104, e132_105, e132_108, e132_109, e132_110, e132_113, e132_115, e132_116, e132_117, e132_118, e132_119, e132_120, e132_123, e132_124, e132_125, e132_126, e132_127, e132_130, e132_131, e132_132, e132_133, e132_134, e132_135, e132_136, e132_139, e132_140, e132_141, e132_142, e132_143, e132_146, e132_148, e132_149, e132_150, e132_151, e132_154, e132_155, e132_156, e132_157, e132_158, e132_161, e132_163, e132_164, e132_165, e132_166, e132_169, e132_171, e132_172, e132_173, e132_174, e132_175, e132_176, e132_177, e132_180, e132_182, e132_183, e132_184, e132_185, e132_186, e132_187, e132_188, e132_191, e132_193, e132_194, e132_195, e132_196, e132_197, e132_198, e132_199, e132_202, e132_204, e132_205, e132_206, e132_207, e132_210, e132_212, e132_213, e132_214, e132_215, e132_216, e132_217, e132_218, e132_221, e132_223, e132_224, e132_225, e132_226, e132_227, e132_228, e132_229, e132_230, e132_231, e132_234, e132_236, e132_237, e132_238, e132_239, e132_242, e132_244, e132_245, e132_246, e132_249, e132_251, e132_252, e132_253, e132_254, e132_257, e132_259, e132_260, e132_261, e132_262, e132_263, e132_264, e132_265, e132_266, e132_269, e132_271, e132_272, e132_275, e132_276, e132_279, e132_281, e132_282, e132_283, e132_286, e132_288, e132_289, e132_290, e132_293, e132_294, e132_295, e132_296, e132_297, e132_298, e132_301, e132_303, e132_304, e132_305, e132_306, e132_307, e132_308, e132_309, Nat.reduceEqDiff, Nat.one_ne_zero, Nat.reduceLT, Nat.reduceLeDiff, Nat.reduceAdd, Nat.reduceSub, Nat.reduceMul, nI_add, nI_leI, nI_ltI, nI_eq, z_eq, z_lt, z_le, z_gt, z_ge, ↓reduceIte, not_true_eq_false, not_false_eq_true, if_true, if_false, kv_s, kh_s, kn_s, kc_v, kc_n, MO_isO, MO_f0, MO_f1, MO_f2, MO_f3, MO_f4, MO_f5, MO_f6, MO_f7, MO_f8, MO_f9, MO_f10, MO_f11, MO_f12, MO_f13, MO_f14, MO_i0, MO_i1, MO_i2, MO_i3, MO_i4, MO_i5, MO_j0, MO_j1, MO_j2, MO_j3, fl7, fl8, fl9, fl10, fl11, fl24, fl25, fl26, fl27, fl28, fl29, fl30, fl31, fl32, fl33, upN_app, u1_0, show ¬ min (a 13 0) 6 = 6 by omega]
    exact e
  · rw [← sold_flat a d (upN (shf (flat a) 20) 33 5) 5 (by omega) (by omega) (fun i hi => by rw [upN_ne _ _ _ _ (by omega), shf_lo _ _ _ (by omega)]) (fun i hi => by
      by_cases hr : (i - 34) / 4 < 5
      · rw [if_pos hr, upN_ne _ _ _ _ (by omega)]
        unfold shf
        rw [if_pos (by omega)]
        unfold flat
        rw [if_neg (by omega), if_neg (by omega), if_neg (by omega), if_neg (by omega), if_neg (by omega), if_neg (by omega), Nat.min_eq_right (by omega), if_pos (by omega)]
        congr 1
        omega
      · rw [if_neg hr]
        by_cases hr2 : i < 34 + 4 * 5 + 4
        · rw [if_pos hr2]
        · rw [if_neg hr2, upN_ne _ _ _ _ (by omega), shf_hi _ _ _ (by omega)]
          unfold flat
          rw [if_neg (by omega), if_neg (by omega), if_neg (by omega), if_neg (by omega), if_neg (by omega), if_neg (by omega), Nat.min_eq_right (by omega), if_neg (by omega)])]
    have e := l132b H ι z κ a (upN (shf (flat a) 20) 33 5) 5 d (min d (a 5 0)) 0 hd (by omega) (by omega) (by omega) h6 (by omega) (upN_eq _ _ _) (fun i hi => by rw [upN_ne _ _ _ _ (by omega), shf_lo _ _ _ (by omega)]) (some (.int (nI 20)))
    have e2 := l132 H ι z κ (flat a) (nI d) (nI (min d (a 5 0)))
    have e3 : shf (flat a) 20 33 = 6 := by rw [shf_lo _ _ _ (by omega), fl33]; omega
    simp (disch := first | omega | assumption | exact MO_isO _ _ _ _ | (refine b30 ?_; omega) | (refine nI_inR ?_ ?_ ?_ <;> omega)) only [x132, e132_0, e132_1, e132_2, e132_4, e132_7, e132_10, e132_12, e132_13, e132_14, e132_17, e132_19, e132_20, e132_23, e132_25, e132_26, e132_27, e132_28, e132_31, e132_33, e132_34, e132_37, e132_38, e132_41, e132_42, e132_45, e132_47, e132_48, e132_49, e132_50, e132_53, e132_55, e132_56, e132_58, e132_61, e132_62, e132_64, e132_66, e132_69, e132_70, e132_73, e132_75, e132_76, e132_77, e132_78, e132_81, e132_83, e132_84, e132_85, e132_86, e132_87, e132_88, e132_89, e132_92, e132_95, e132_96, e132_99, e132_101, e132_102, e132_103, e132_104, e132_105, e132_108, e132_109, e132_110, e132_113, e132_115, e132_116, e132_117, e132_118, e132_119, e132_120, e132_123, e132_124, e132_125, e132_126, e132_127, e132_130, e132_131, e132_132, e132_133, e132_134, e132_135, e132_136, e132_139, e132_140, e132_141, e132_142, e132_143, e132_146, e132_148, e132_149, e132_150, e132_151, e132_154, e132_155, e132_156, e132_157, e132_158, e132_161, e132_163, e132_164, e132_165, e132_166, e132_169, e132_171, e132_172, e132_173, e132_174, e132_175, e132_176, e132_177, e132_180, e132_182, e132_183, e132_184, e132_185, e132_186, e132_187, e132_188, e132_191, e132_193, e132_194, e132_195, e132_196, e132_197, e132_198, e132_199, e132_202, e132_204, e132_205, e132_206, e132_207, e132_210, e132_212, e132_213, e132_214, e132_215, e132_216, e132_217, e132_218, e132_221, e132_223, e132_224, e132_225, e132_226, e132_227, e132_228, e132_229, e132_230, e132_231, e132_234, e132_236, e132_237, e132_238, e132_239, e132_242, e132_244, e132_245, e132_246, e132_249, e132_251, e132_252, e132_253, e132_254, e132_257, e132_259, e132_260, e132_261, e132_262, e132_263, e132_264, e132_265, e132_266, e132_269, e132_271, e132_272, e132_275, e132_276, e132_279, e132_281, e132_282, e132_283, e132_286, e132_288, e132_289, e132_290, e132_293, e132_294, e132_295, e132_296, e132_297, e132_298, e132_301, e132_303, e132_304, e132_305, e132_306, e132_307, e132_308, e132_309, Nat.reduceEqDiff, Nat.one_ne_zero, Nat.reduceLT, Nat.reduceLeDiff, Nat.reduceAdd, Nat.reduceSub, Nat.reduceMul, nI_add, nI_leI, nI_ltI, nI_eq, z_eq, z_lt, z_le, z_gt, z_ge, ↓reduceIte, not_true_eq_false, not_false_eq_true, if_true, if_false, kv_s, kh_s, kn_s, kc_v, kc_n, MO_isO, MO_f0, MO_f1, MO_f2, MO_f3, MO_f4, MO_f5, MO_f6, MO_f7, MO_f8, MO_f9, MO_f10, MO_f11, MO_f12, MO_f13, MO_f14, MO_i0, MO_i1, MO_i2, MO_i3, MO_i4, MO_i5, MO_j0, MO_j1, MO_j2, MO_j3, fl7, fl8, fl9, fl10, fl11, fl24, fl25, fl26, fl27, fl28, fl29, fl30, fl31, fl32, fl33, upN_app, u1_0, show min (a 13 0) 6 = 6 by omega]
    rw [e2]
    simp (disch := first | omega | assumption | exact MO_isO _ _ _ _ | (refine b30 ?_; omega) | (refine nI_inR ?_ ?_ ?_ <;> omega)) only [x132, e132_0, e132_1, e132_2, e132_4, e132_7, e132_10, e132_12, e132_13, e132_14, e132_17, e132_19, e132_20, e132_23, e132_25, e132_26, e132_27, e132_28, e132_31, e132_33, e132_34, e132_37, e132_38, e132_41, e132_42, e132_45, e132_47, e132_48, e132_49, e132_50, e132_53, e132_55, e132_56, e132_58, e132_61, e132_62, e132_64, e132_66, e132_69, e132_70, e132_73, e132_75, e132_76, e132_77, e132_78, e132_81, e132_83, e132_84, e132_85, e132_86, e132_87, e132_88, e132_89, e132_92, e132_95, e132_96, e132_99, e132_101, e132_102, e132_103, e132_104, e132_105, e132_108, e132_109, e132_110, e132_113, e132_115, e132_116, e132_117, e132_118, e132_119, e132_120, e132_123, e132_124, e132_125, e132_126, e132_127, e132_130, e132_131, e132_132, e132_133, e132_134, e132_135, e132_136, e132_139, e132_140, e132_141, e132_142, e132_143, e132_146, e132_148, e132_149, e132_150, e132_151, e132_154, e132_155, e132_156, e132_157, e132_158, e132_161, e132_163, e132_164, e132_165, e132_166, e132_169, e132_171, e132_172, e132_173, e132_174, e132_175, e132_176, e132_177, e132_180, e132_182, e132_183, e132_184, e132_185, e132_186, e132_187, e132_188, e132_191, e132_193, e132_194, e132_195, e132_196, e132_197, e132_198, e132_199, e132_202, e132_204, e132_205, e132_206, e132_207, e132_210, e132_212, e132_213, e132_214, e132_215, e132_216, e132_217, e132_218, e132_221, e132_223, e132_224, e132_225, e132_226, e132_227, e132_228, e132_229, e132_230, e132_231, e132_234, e132_236, e132_237, e132_238, e132_239, e132_242, e132_244, e132_245, e132_246, e132_249, e132_251, e132_252, e132_253, e132_254, e132_257, e132_259, e132_260, e132_261, e132_262, e132_263, e132_264, e132_265, e132_266, e132_269, e132_271, e132_272, e132_275, e132_276, e132_279, e132_281, e132_282, e132_283, e132_286, e132_288, e132_289, e132_290, e132_293, e132_294, e132_295, e132_296, e132_297, e132_298, e132_301, e132_303, e132_304, e132_305, e132_306, e132_307, e132_308, e132_309, Nat.reduceEqDiff, Nat.one_ne_zero, Nat.reduceLT, Nat.reduceLeDiff, Nat.reduceAdd, Nat.reduceSub, Nat.reduceMul, nI_add, nI_leI, nI_ltI, nI_eq, z_eq, z_lt, z_le, z_gt, z_ge, ↓reduceIte, not_true_eq_false, not_false_eq_true, if_true, if_false, kv_s, kh_s, kn_s, kc_v, kc_n, MO_isO, MO_f0, MO_f1, MO_f2, MO_f3, MO_f4, MO_f5, MO_f6, MO_f7, MO_f8, MO_f9, MO_f10, MO_f11, MO_f12, MO_f13, MO_f14, MO_i0, MO_i1, MO_i2, MO_i3, MO_i4, MO_i5, MO_j0, MO_j1, MO_j2, MO_j3, MO_wi0, MO_wi1, MO_wi2, MO_wi3, MO_wi4, MO_wi5, MO_wj0, MO_wj1, MO_wj2, MO_wj3, MO_k0, MO_k1, MO_k2, MO_k3, MO_k4, u1_0, u2_u1, e3, pk_sub]
    exact e
end
