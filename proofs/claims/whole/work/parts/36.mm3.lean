-- PART 36: the reference's methods, third: orders
theorem flS (a : sT) (i : Nat) (h1 : 24 ≤ i) (h2 : i < 33) : flat a i = a (i - 19) 0 := by
  unfold flat
  rw [if_neg (by omega), if_neg (by omega), if_neg (by omega), if_neg (by omega), if_pos h2]
theorem fl24 (a : sT) : flat a 24 = a 5 0 := flS a 24 (by omega) (by omega)
theorem fl25 (a : sT) : flat a 25 = a 6 0 := flS a 25 (by omega) (by omega)
theorem fl26 (a : sT) : flat a 26 = a 7 0 := flS a 26 (by omega) (by omega)
theorem fl27 (a : sT) : flat a 27 = a 8 0 := flS a 27 (by omega) (by omega)
theorem fl28 (a : sT) : flat a 28 = a 9 0 := flS a 28 (by omega) (by omega)
theorem fl29 (a : sT) : flat a 29 = a 10 0 := flS a 29 (by omega) (by omega)
theorem fl30 (a : sT) : flat a 30 = a 11 0 := flS a 30 (by omega) (by omega)
theorem fl31 (a : sT) : flat a 31 = a 12 0 := flS a 31 (by omega) (by omega)
theorem fl32 (a : sT) : flat a 32 = a 13 0 := flS a 32 (by omega) (by omega)
theorem fl33 (a : sT) : flat a 33 = min (a 13 0) 6 := by
  unfold flat
  rw [if_neg (by omega), if_neg (by omega), if_neg (by omega), if_neg (by omega), if_neg (by omega), if_pos rfl]
theorem fl7 (a : sT) : flat a 7 = a 1 0 := fl1 a 0 (by omega)
theorem fl8 (a : sT) : flat a 8 = a 1 1 := fl1 a 1 (by omega)
theorem fl9 (a : sT) : flat a 9 = a 1 2 := fl1 a 2 (by omega)
theorem fl10 (a : sT) : flat a 10 = a 1 3 := fl1 a 3 (by omega)
theorem fl11 (a : sT) : flat a 11 = a 1 4 := fl1 a 4 (by omega)
theorem m_ord_flat (a : sT) (l : Nat) : flat (m_ord a l) = upN (upN (upN (upN (if a 5 0 < l then upN (flat a) 27 (a 8 0 + 1) else flat a) 28 (a 9 0 + (l - a 5 0))) 31 (a 12 0 + oprice a (a 5 0) l)) 24 l) 26 1 := by
  unfold m_ord
  rw [fuS _ 7 1 (by omega) (by omega), fuS _ 5 l (by omega) (by omega), fuS _ 12 _ (by omega) (by omega), fuS _ 9 _ (by omega) (by omega)]
  split
  · rw [fuS _ 8 _ (by omega) (by omega)]
  · rfl
section
variable (H : pi_H) (ι : sT) (z : jT) (κ : kT)
theorem m128 (a : sT) (l : Nat) (hl : l ≤ 20) (h5 : a 5 0 ≤ 20) (h6 : a 6 0 ≤ 6) (h7 : a 7 0 ≤ 1) : ex 128 [.ref 77, .int (nI l)] (MO H (u1 ι 0 (flat a)) z κ) = some (some (.int (m_order a l).1), MO H (u1 ι 0 (flat (m_order a l).2)) z κ) := by
  unfold m_order
  by_cases q1 : a 6 0 = 0
  · simp (disch := first | omega | assumption | exact MO_isO _ _ _ _ | (refine b30 ?_; omega) | (refine nI_inR ?_ ?_ ?_ <;> omega)) only [x128, e128_0, e128_1, e128_2, e128_4, e128_7, e128_10, e128_12, e128_13, e128_14, e128_17, e128_19, e128_20, e128_23, e128_24, e128_25, e128_28, e128_30, e128_31, e128_34, e128_35, e128_38, e128_40, e128_41, e128_42, e128_45, e128_47, e128_48, e128_49, e128_50, e128_53, e128_55, e128_56, e128_57, e128_58, e128_59, e128_62, e128_63, e128_66, e128_67, e128_70, e128_72, e128_73, e128_74, e128_77, e128_79, e128_80, e128_81, e128_82, e128_83, e128_84, e128_85, e128_88, e128_90, e128_91, e128_92, e128_93, e128_96, e128_98, e128_99, e128_100, e128_101, e128_104, e128_105, e128_108, e128_109, e128_110, e128_111, e128_112, e128_115, e128_117, e128_118, e128_119, e128_120, e128_121, e128_122, e128_123, e128_126, e128_128, e128_129, e128_130, e128_131, e128_132, e128_133, e128_134, e128_137, e128_139, e128_140, e128_141, e128_142, Nat.reduceEqDiff, Nat.one_ne_zero, Nat.reduceLT, Nat.reduceLeDiff, Nat.reduceAdd, Nat.reduceSub, Nat.reduceMul, nI_add, nI_leI, nI_ltI, nI_eq, z_eq, z_lt, z_le, z_gt, z_ge, ↓reduceIte, not_true_eq_false, not_false_eq_true, if_true, if_false, kv_s, kh_s, kn_s, kc_v, kc_n, MO_isO, MO_f0, MO_f1, MO_f2, MO_f3, MO_f4, MO_f5, MO_f6, MO_f7, MO_f8, MO_f9, MO_f10, MO_f11, MO_f12, MO_f13, MO_f14, MO_i0, MO_i1, MO_i2, MO_i3, MO_i4, MO_i5, MO_j0, MO_j1, MO_j2, MO_j3, fl7, fl8, fl9, fl10, fl11, fl24, fl25, fl26, fl27, fl28, fl29, fl30, fl31, fl32, fl33, upN_app, m117i, u1_0, q1, true_or]
  by_cases q3 : l < a 5 0
  · simp (disch := first | omega | assumption | exact MO_isO _ _ _ _ | (refine b30 ?_; omega) | (refine nI_inR ?_ ?_ ?_ <;> omega)) only [x128, e128_0, e128_1, e128_2, e128_4, e128_7, e128_10, e128_12, e128_13, e128_14, e128_17, e128_19, e128_20, e128_23, e128_24, e128_25, e128_28, e128_30, e128_31, e128_34, e128_35, e128_38, e128_40, e128_41, e128_42, e128_45, e128_47, e128_48, e128_49, e128_50, e128_53, e128_55, e128_56, e128_57, e128_58, e128_59, e128_62, e128_63, e128_66, e128_67, e128_70, e128_72, e128_73, e128_74, e128_77, e128_79, e128_80, e128_81, e128_82, e128_83, e128_84, e128_85, e128_88, e128_90, e128_91, e128_92, e128_93, e128_96, e128_98, e128_99, e128_100, e128_101, e128_104, e128_105, e128_108, e128_109, e128_110, e128_111, e128_112, e128_115, e128_117, e128_118, e128_119, e128_120, e128_121, e128_122, e128_123, e128_126, e128_128, e128_129, e128_130, e128_131, e128_132, e128_133, e128_134, e128_137, e128_139, e128_140, e128_141, e128_142, Nat.reduceEqDiff, Nat.one_ne_zero, Nat.reduceLT, Nat.reduceLeDiff, Nat.reduceAdd, Nat.reduceSub, Nat.reduceMul, nI_add, nI_leI, nI_ltI, nI_eq, z_eq, z_lt, z_le, z_gt, z_ge, ↓reduceIte, not_true_eq_false, not_false_eq_true, if_true, if_false, kv_s, kh_s, kn_s, kc_v, kc_n, MO_isO, MO_f0, MO_f1, MO_f2, MO_f3, MO_f4, MO_f5, MO_f6, MO_f7, MO_f8, MO_f9, MO_f10, MO_f11, MO_f12, MO_f13, MO_f14, MO_i0, MO_i1, MO_i2, MO_i3, MO_i4, MO_i5, MO_j0, MO_j1, MO_j2, MO_j3, fl7, fl8, fl9, fl10, fl11, fl24, fl25, fl26, fl27, fl28, fl29, fl30, fl31, fl32, fl33, upN_app, m117i, u1_0, q1, q3, true_or, or_true]
  by_cases q2 : a 7 0 = 0
  · by_cases q4 : l = a 5 0
    · rw [if_neg (by omega)]
      dsimp only
      rw [m_ord_flat, if_neg (by omega), q4]
      simp (disch := first | omega | assumption | exact MO_isO _ _ _ _ | (refine b30 ?_; omega) | (refine nI_inR ?_ ?_ ?_ <;> omega)) only [x128, e128_0, e128_1, e128_2, e128_4, e128_7, e128_10, e128_12, e128_13, e128_14, e128_17, e128_19, e128_20, e128_23, e128_24, e128_25, e128_28, e128_30, e128_31, e128_34, e128_35, e128_38, e128_40, e128_41, e128_42, e128_45, e128_47, e128_48, e128_49, e128_50, e128_53, e128_55, e128_56, e128_57, e128_58, e128_59, e128_62, e128_63, e128_66, e128_67, e128_70, e128_72, e128_73, e128_74, e128_77, e128_79, e128_80, e128_81, e128_82, e128_83, e128_84, e128_85, e128_88, e128_90, e128_91, e128_92, e128_93, e128_96, e128_98, e128_99, e128_100, e128_101, e128_104, e128_105, e128_108, e128_109, e128_110, e128_111, e128_112, e128_115, e128_117, e128_118, e128_119, e128_120, e128_121, e128_122, e128_123, e128_126, e128_128, e128_129, e128_130, e128_131, e128_132, e128_133, e128_134, e128_137, e128_139, e128_140, e128_141, e128_142, Nat.reduceEqDiff, Nat.one_ne_zero, Nat.reduceLT, Nat.reduceLeDiff, Nat.reduceAdd, Nat.reduceSub, Nat.reduceMul, nI_add, nI_leI, nI_ltI, nI_eq, z_eq, z_lt, z_le, z_gt, z_ge, ↓reduceIte, not_true_eq_false, not_false_eq_true, if_true, if_false, kv_s, kh_s, kn_s, kc_v, kc_n, MO_isO, MO_f0, MO_f1, MO_f2, MO_f3, MO_f4, MO_f5, MO_f6, MO_f7, MO_f8, MO_f9, MO_f10, MO_f11, MO_f12, MO_f13, MO_f14, MO_i0, MO_i1, MO_i2, MO_i3, MO_i4, MO_i5, MO_j0, MO_j1, MO_j2, MO_j3, MO_wi0, MO_wi1, MO_wi2, MO_wi3, MO_wi4, MO_wi5, MO_wj0, MO_wj1, MO_wj2, MO_wj3, MO_k0, MO_k1, MO_k2, MO_k3, MO_k4, fl7, fl8, fl9, fl10, fl11, fl24, fl25, fl26, fl27, fl28, fl29, fl30, fl31, fl32, fl33, upN_app, m117i, u1_0, u2_u1, q1, q2, pk_sub, Nat.sub_self, Nat.lt_irrefl, Nat.add_zero]
      unfold oprice
      rw [if_pos (Nat.le_refl _)]
      refine congrArg (fun f => some (some (Value.int (nI 0)), MO H (u1 ι 0 f) z κ)) ?_
      funext i
      simp only [fl7, fl8, fl9, fl10, fl11, fl24, fl25, fl26, fl27, fl28, fl29, fl30, fl31, fl32, fl33, upN_app]
      (repeat' split) <;> first | rfl | omega | (subst_vars; simp only [fl7, fl8, fl9, fl10, fl11, fl24, fl25, fl26, fl27, fl28, fl29, fl30, fl31, fl32, fl33, upN_app]; done) | (subst_vars; simp [fl7, fl8, fl9, fl10, fl11, fl24, fl25, fl26, fl27, fl28, fl29, fl30, fl31, fl32, fl33, upN_app]; done)
    · rw [if_neg (by omega)]
      dsimp only
      rw [m_ord_flat, if_pos (by omega)]
      simp (disch := first | omega | assumption | exact MO_isO _ _ _ _ | (refine b30 ?_; omega) | (refine nI_inR ?_ ?_ ?_ <;> omega)) only [x128, e128_0, e128_1, e128_2, e128_4, e128_7, e128_10, e128_12, e128_13, e128_14, e128_17, e128_19, e128_20, e128_23, e128_24, e128_25, e128_28, e128_30, e128_31, e128_34, e128_35, e128_38, e128_40, e128_41, e128_42, e128_45, e128_47, e128_48, e128_49, e128_50, e128_53, e128_55, e128_56, e128_57, e128_58, e128_59, e128_62, e128_63, e128_66, e128_67, e128_70, e128_72, e128_73, e128_74, e128_77, e128_79, e128_80, e128_81, e128_82, e128_83, e128_84, e128_85, e128_88, e128_90, e128_91, e128_92, e128_93, e128_96, e128_98, e128_99, e128_100, e128_101, e128_104, e128_105, e128_108, e128_109, e128_110, e128_111, e128_112, e128_115, e128_117, e128_118, e128_119, e128_120, e128_121, e128_122, e128_123, e128_126, e128_128, e128_129, e128_130, e128_131, e128_132, e128_133, e128_134, e128_137, e128_139, e128_140, e128_141, e128_142, Nat.reduceEqDiff, Nat.one_ne_zero, Nat.reduceLT, Nat.reduceLeDiff, Nat.reduceAdd, Nat.reduceSub, Nat.reduceMul, nI_add, nI_leI, nI_ltI, nI_eq, z_eq, z_lt, z_le, z_gt, z_ge, ↓reduceIte, not_true_eq_false, not_false_eq_true, if_true, if_false, kv_s, kh_s, kn_s, kc_v, kc_n, MO_isO, MO_f0, MO_f1, MO_f2, MO_f3, MO_f4, MO_f5, MO_f6, MO_f7, MO_f8, MO_f9, MO_f10, MO_f11, MO_f12, MO_f13, MO_f14, MO_i0, MO_i1, MO_i2, MO_i3, MO_i4, MO_i5, MO_j0, MO_j1, MO_j2, MO_j3, MO_wi0, MO_wi1, MO_wi2, MO_wi3, MO_wi4, MO_wi5, MO_wj0, MO_wj1, MO_wj2, MO_wj3, MO_k0, MO_k1, MO_k2, MO_k3, MO_k4, fl7, fl8, fl9, fl10, fl11, fl24, fl25, fl26, fl27, fl28, fl29, fl30, fl31, fl32, fl33, upN_app, m117i, u1_0, u2_u1, q1, q2, q3, pk_sub, pk_mul, show ¬ l - a 5 0 = 0 by omega]
      unfold oprice
      rw [if_neg (by omega)]
      refine congrArg (fun f => some (some (Value.int (nI (a 1 0 + a 1 1 * (l - a 5 0)))), MO H (u1 ι 0 f) z κ)) ?_
      funext i
      simp only [fl7, fl8, fl9, fl10, fl11, fl24, fl25, fl26, fl27, fl28, fl29, fl30, fl31, fl32, fl33, upN_app]
      (repeat' split) <;> first | rfl | omega | (subst_vars; simp only [fl7, fl8, fl9, fl10, fl11, fl24, fl25, fl26, fl27, fl28, fl29, fl30, fl31, fl32, fl33, upN_app]; done) | (subst_vars; simp [fl7, fl8, fl9, fl10, fl11, fl24, fl25, fl26, fl27, fl28, fl29, fl30, fl31, fl32, fl33, upN_app]; done)
  · simp (disch := first | omega | assumption | exact MO_isO _ _ _ _ | (refine b30 ?_; omega) | (refine nI_inR ?_ ?_ ?_ <;> omega)) only [x128, e128_0, e128_1, e128_2, e128_4, e128_7, e128_10, e128_12, e128_13, e128_14, e128_17, e128_19, e128_20, e128_23, e128_24, e128_25, e128_28, e128_30, e128_31, e128_34, e128_35, e128_38, e128_40, e128_41, e128_42, e128_45, e128_47, e128_48, e128_49, e128_50, e128_53, e128_55, e128_56, e128_57, e128_58, e128_59, e128_62, e128_63, e128_66, e128_67, e128_70, e128_72, e128_73, e128_74, e128_77, e128_79, e128_80, e128_81, e128_82, e128_83, e128_84, e128_85, e128_88, e128_90, e128_91, e128_92, e128_93, e128_96, e128_98, e128_99, e128_100, e128_101, e128_104, e128_105, e128_108, e128_109, e128_110, e128_111, e128_112, e128_115, e128_117, e128_118, e128_119, e128_120, e128_121, e128_122, e128_123, e128_126, e128_128, e128_129, e128_130, e128_131, e128_132, e128_133, e128_134, e128_137, e128_139, e128_140, e128_141, e128_142, Nat.reduceEqDiff, Nat.one_ne_zero, Nat.reduceLT, Nat.reduceLeDiff, Nat.reduceAdd, Nat.reduceSub, Nat.reduceMul, nI_add, nI_leI, nI_ltI, nI_eq, z_eq, z_lt, z_le, z_gt, z_ge, ↓reduceIte, not_true_eq_false, not_false_eq_true, if_true, if_false, kv_s, kh_s, kn_s, kc_v, kc_n, MO_isO, MO_f0, MO_f1, MO_f2, MO_f3, MO_f4, MO_f5, MO_f6, MO_f7, MO_f8, MO_f9, MO_f10, MO_f11, MO_f12, MO_f13, MO_f14, MO_i0, MO_i1, MO_i2, MO_i3, MO_i4, MO_i5, MO_j0, MO_j1, MO_j2, MO_j3, fl7, fl8, fl9, fl10, fl11, fl24, fl25, fl26, fl27, fl28, fl29, fl30, fl31, fl32, fl33, upN_app, m117i, u1_0, q1, q2, q3, show a 7 0 = 1 by omega, true_or, or_true, ne_eq]
end
