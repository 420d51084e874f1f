-- PART 57: texts, fourth: the reference's command
theorem u1_u1 (ι : sT) (k : Nat) (F G : Nat → Nat) : u1 (u1 ι k F) k G = u1 ι k G := by
  funext k'
  unfold u1
  split <;> rfl
theorem inR_N {x lo hi : Nat} (hx : x < 2 ^ 31) (hl : lo < 2 ^ 31) (hh : hi < 2 ^ 31) : inR (nI x) (nI lo) (nI hi) ↔ lo ≤ x ∧ x ≤ hi := by
  unfold inR
  rw [nI_leI hl hx, nI_leI hx hh]
theorem okv_b (x : Nat) (h : x ≤ 1) : pi_okv 2 (.int (nI x)) = true := okb x h
section
variable (H : pi_H) (ι : sT) (z : jT) (κ : kT)
theorem m116u (a : sT) (ha : wsum a ≤ 12) (d w : Nat) (hd : d ≤ 6) (hw : w ≤ 9) : ex 116 [.ref 77, .int (nI d), .int (nI w)] (MO H (u1 ι 0 (flat a)) z κ) = some (some (.int (m_weigh a d w).1), MO H (u1 ι 0 (flat (m_weigh a d w).2)) z κ) := by
  have h := m116 H (u1 ι 0 (flat a)) z κ a (u1_s _ _ _) ha d w hd hw
  rw [u1_u1] at h
  exact h
theorem l162k (t : Nat) (a : sT) (ok : okT t a) (ht : t < 2 ^ 30) (k : Nat) (hk : k < 7) (h5 : ∀ i, i < many k → ι 5 i < 100) (v2 v3 : Int32) : ev 162 91 [some (.ref 77), some (.int (nI k)), some (.int v2), some (.int v3)] [] (MO H (u1 ι 0 (flat a)) z κ) = some (some (.int (act a k (ι 5 0) (ι 5 1) (ι 5 2)).1), MO H (u1 ι 0 (flat (act a k (ι 5 0) (ι 5 1) (ι 5 2)).2)) z κ) := by
  have e5 : ∀ F, u1 ι 0 F 5 = ι 5 := fun F => u1_n _ _ _ _ (by omega)
  obtain ⟨o1, o4, o5, o6, o7, o8, o9⟩ := id ok
  have hk7 : k = 0 ∨ k = 1 ∨ k = 2 ∨ k = 3 ∨ k = 4 ∨ k = 5 ∨ k = 6 := by omega
  rcases hk7 with rfl | rfl | rfl | rfl | rfl | rfl | rfl
  · have n0 := h5 0 (by decide)
    have n1 := h5 1 (by decide)
    by_cases q : ι 5 0 ≤ 6 ∧ ι 5 1 ≤ 9
    · have e : act a 0 (ι 5 0) (ι 5 1) (ι 5 2) = m_weigh a (ι 5 0) (ι 5 1) := by simp [act, q]
      have e2 := m116u H ι z κ a o1.2.2 (ι 5 0) (ι 5 1) q.1 q.2
      rw [e]
      simp (disch := first | omega | assumption | exact MO_isO _ _ _ _ | (refine b30 ?_; omega) | (refine nI_inR ?_ ?_ ?_ <;> omega)) only [x162, e162_0, e162_1, e162_4, e162_5, e162_6, e162_7, e162_10, e162_11, e162_14, e162_15, e162_18, e162_19, e162_20, e162_23, e162_24, e162_27, e162_28, e162_29, e162_32, e162_33, e162_36, e162_37, e162_38, e162_41, e162_42, e162_44, e162_47, e162_48, e162_51, e162_52, e162_53, e162_54, e162_56, e162_57, e162_60, e162_61, e162_64, e162_65, e162_66, e162_69, e162_70, e162_73, e162_76, e162_77, e162_79, e162_82, e162_83, e162_86, e162_89, e162_90, e162_91, e162_92, e162_132, e162_133, e162_134, e162_137, e162_138, e162_139, e162_140, e162_143, e162_144, e162_145, e162_148, e162_149, e162_150, e162_151, e162_154, e162_155, e162_156, e162_157, e162_160, e162_161, e162_162, e162_165, e162_166, e162_167, e162_168, e162_171, e162_172, e162_173, e162_174, e162_177, e162_178, e162_179, e162_182, e162_183, e162_184, e162_185, e162_188, e162_189, e162_190, e162_191, e162_194, e162_195, e162_196, e162_197, e162_200, e162_201, e162_202, e162_205, e162_206, e162_207, e162_208, e162_211, e162_212, e162_213, e162_216, e162_217, e162_218, e162_221, e162_222, e162_223, e162_224, e162_227, e162_228, e162_229, e162_232, kv_s, kh_s, kn_s, kc_v, kc_n, MO_isO, MO_f0, MO_f1, MO_f2, MO_f3, MO_f4, MO_f5, MO_f6, MO_f7, MO_f8, MO_f9, MO_f10, MO_f11, MO_f12, MO_f13, MO_f14, MO_i0, MO_i1, MO_i2, MO_i3, MO_i4, MO_i5, MO_j0, MO_j1, MO_j2, MO_j3, Nat.reduceEqDiff, Nat.one_ne_zero, Nat.reduceLT, Nat.reduceLeDiff, Nat.reduceAdd, Nat.reduceSub, Nat.reduceMul, nI_add, nI_leI, nI_ltI, nI_eq, z_eq, z_lt, z_le, z_gt, z_ge, ↓reduceIte, not_true_eq_false, not_false_eq_true, if_true, if_false, e5, e2]
    · have e : act a 0 (ι 5 0) (ι 5 1) (ι 5 2) = (-1000001, a) := by simp [act, q]
      have e2 := m116o (MO H (u1 ι 0 (flat a)) z κ) (nI (ι 5 0)) (nI (ι 5 1)) (fun h => q ⟨((inR_N (by omega) (by omega) (by omega)).mp h.1).2, ((inR_N (by omega) (by omega) (by omega)).mp h.2).2⟩)
      rw [e]
      simp (disch := first | omega | assumption | exact MO_isO _ _ _ _ | (refine b30 ?_; omega) | (refine nI_inR ?_ ?_ ?_ <;> omega)) only [x162, e162_0, e162_1, e162_4, e162_5, e162_6, e162_7, e162_10, e162_11, e162_14, e162_15, e162_18, e162_19, e162_20, e162_23, e162_24, e162_27, e162_28, e162_29, e162_32, e162_33, e162_36, e162_37, e162_38, e162_41, e162_42, e162_44, e162_47, e162_48, e162_51, e162_52, e162_53, e162_54, e162_56, e162_57, e162_60, e162_61, e162_64, e162_65, e162_66, e162_69, e162_70, e162_73, e162_76, e162_77, e162_79, e162_82, e162_83, e162_86, e162_89, e162_90, e162_91, e162_92, e162_132, e162_133, e162_134, e162_137, e162_138, e162_139, e162_140, e162_143, e162_144, e162_145, e162_148, e162_149, e162_150, e162_151, e162_154, e162_155, e162_156, e162_157, e162_160, e162_161, e162_162, e162_165, e162_166, e162_167, e162_168, e162_171, e162_172, e162_173, e162_174, e162_177, e162_178, e162_179, e162_182, e162_183, e162_184, e162_185, e162_188, e162_189, e162_190, e162_191, e162_194, e162_195, e162_196, e162_197, e162_200, e162_201, e162_202, e162_205, e162_206, e162_207, e162_208, e162_211, e162_212, e162_213, e162_216, e162_217, e162_218, e162_221, e162_222, e162_223, e162_224, e162_227, e162_228, e162_229, e162_232, kv_s, kh_s, kn_s, kc_v, kc_n, MO_isO, MO_f0, MO_f1, MO_f2, MO_f3, MO_f4, MO_f5, MO_f6, MO_f7, MO_f8, MO_f9, MO_f10, MO_f11, MO_f12, MO_f13, MO_f14, MO_i0, MO_i1, MO_i2, MO_i3, MO_i4, MO_i5, MO_j0, MO_j1, MO_j2, MO_j3, Nat.reduceEqDiff, Nat.one_ne_zero, Nat.reduceLT, Nat.reduceLeDiff, Nat.reduceAdd, Nat.reduceSub, Nat.reduceMul, nI_add, nI_leI, nI_ltI, nI_eq, z_eq, z_lt, z_le, z_gt, z_ge, ↓reduceIte, not_true_eq_false, not_false_eq_true, if_true, if_false, e5, e2]
  · have n0 := h5 0 (by decide)
    have n1 := h5 1 (by decide)
    by_cases q : ι 5 0 ≤ 4 ∧ ι 5 1 ≤ mc (ι 5 0)
    · have e : act a 1 (ι 5 0) (ι 5 1) (ι 5 2) = m_cost a (ι 5 0) (ι 5 1) := by simp [act, q]
      have e2 := m121 H ι z κ a (ι 5 0) (ι 5 1) q.1 q.2
      rw [e]
      simp (disch := first | omega | assumption | exact MO_isO _ _ _ _ | (refine b30 ?_; omega) | (refine nI_inR ?_ ?_ ?_ <;> omega)) only [x162, e162_0, e162_1, e162_4, e162_5, e162_6, e162_7, e162_10, e162_11, e162_14, e162_15, e162_18, e162_19, e162_20, e162_23, e162_24, e162_27, e162_28, e162_29, e162_32, e162_33, e162_36, e162_37, e162_38, e162_41, e162_42, e162_44, e162_47, e162_48, e162_51, e162_52, e162_53, e162_54, e162_56, e162_57, e162_60, e162_61, e162_64, e162_65, e162_66, e162_69, e162_70, e162_73, e162_76, e162_77, e162_79, e162_82, e162_83, e162_86, e162_89, e162_90, e162_91, e162_92, e162_132, e162_133, e162_134, e162_137, e162_138, e162_139, e162_140, e162_143, e162_144, e162_145, e162_148, e162_149, e162_150, e162_151, e162_154, e162_155, e162_156, e162_157, e162_160, e162_161, e162_162, e162_165, e162_166, e162_167, e162_168, e162_171, e162_172, e162_173, e162_174, e162_177, e162_178, e162_179, e162_182, e162_183, e162_184, e162_185, e162_188, e162_189, e162_190, e162_191, e162_194, e162_195, e162_196, e162_197, e162_200, e162_201, e162_202, e162_205, e162_206, e162_207, e162_208, e162_211, e162_212, e162_213, e162_216, e162_217, e162_218, e162_221, e162_222, e162_223, e162_224, e162_227, e162_228, e162_229, e162_232, kv_s, kh_s, kn_s, kc_v, kc_n, MO_isO, MO_f0, MO_f1, MO_f2, MO_f3, MO_f4, MO_f5, MO_f6, MO_f7, MO_f8, MO_f9, MO_f10, MO_f11, MO_f12, MO_f13, MO_f14, MO_i0, MO_i1, MO_i2, MO_i3, MO_i4, MO_i5, MO_j0, MO_j1, MO_j2, MO_j3, Nat.reduceEqDiff, Nat.one_ne_zero, Nat.reduceLT, Nat.reduceLeDiff, Nat.reduceAdd, Nat.reduceSub, Nat.reduceMul, nI_add, nI_leI, nI_ltI, nI_eq, z_eq, z_lt, z_le, z_gt, z_ge, ↓reduceIte, not_true_eq_false, not_false_eq_true, if_true, if_false, e5, e2]
    · have e : act a 1 (ι 5 0) (ι 5 1) (ι 5 2) = (-1000001, a) := by simp [act, q]
      have e2 := m121o (MO H (u1 ι 0 (flat a)) z κ) (nI (ι 5 0)) (nI (ι 5 1)) (fun h => by
        rw [nI_clamp (by omega)] at h
        have h99 : mc (ι 5 0) ≤ 99 := by unfold mc; (repeat' split) <;> omega
        exact q ⟨((inR_N (by omega) (by omega) (by omega)).mp h.1).2, ((inR_N (by omega) (by omega) (by omega)).mp h.2).2⟩)
      rw [e]
      simp (disch := first | omega | assumption | exact MO_isO _ _ _ _ | (refine b30 ?_; omega) | (refine nI_inR ?_ ?_ ?_ <;> omega)) only [x162, e162_0, e162_1, e162_4, e162_5, e162_6, e162_7, e162_10, e162_11, e162_14, e162_15, e162_18, e162_19, e162_20, e162_23, e162_24, e162_27, e162_28, e162_29, e162_32, e162_33, e162_36, e162_37, e162_38, e162_41, e162_42, e162_44, e162_47, e162_48, e162_51, e162_52, e162_53, e162_54, e162_56, e162_57, e162_60, e162_61, e162_64, e162_65, e162_66, e162_69, e162_70, e162_73, e162_76, e162_77, e162_79, e162_82, e162_83, e162_86, e162_89, e162_90, e162_91, e162_92, e162_132, e162_133, e162_134, e162_137, e162_138, e162_139, e162_140, e162_143, e162_144, e162_145, e162_148, e162_149, e162_150, e162_151, e162_154, e162_155, e162_156, e162_157, e162_160, e162_161, e162_162, e162_165, e162_166, e162_167, e162_168, e162_171, e162_172, e162_173, e162_174, e162_177, e162_178, e162_179, e162_182, e162_183, e162_184, e162_185, e162_188, e162_189, e162_190, e162_191, e162_194, e162_195, e162_196, e162_197, e162_200, e162_201, e162_202, e162_205, e162_206, e162_207, e162_208, e162_211, e162_212, e162_213, e162_216, e162_217, e162_218, e162_221, e162_222, e162_223, e162_224, e162_227, e162_228, e162_229, e162_232, kv_s, kh_s, kn_s, kc_v, kc_n, MO_isO, MO_f0, MO_f1, MO_f2, MO_f3, MO_f4, MO_f5, MO_f6, MO_f7, MO_f8, MO_f9, MO_f10, MO_f11, MO_f12, MO_f13, MO_f14, MO_i0, MO_i1, MO_i2, MO_i3, MO_i4, MO_i5, MO_j0, MO_j1, MO_j2, MO_j3, Nat.reduceEqDiff, Nat.one_ne_zero, Nat.reduceLT, Nat.reduceLeDiff, Nat.reduceAdd, Nat.reduceSub, Nat.reduceMul, nI_add, nI_leI, nI_ltI, nI_eq, z_eq, z_lt, z_le, z_gt, z_ge, ↓reduceIte, not_true_eq_false, not_false_eq_true, if_true, if_false, e5, e2]
  · have n0 := h5 0 (by decide)
    have n1 := h5 1 (by decide)
    by_cases q : ι 5 0 ≤ 20 ∧ (1 ≤ ι 5 1 ∧ ι 5 1 ≤ 6)
    · have e : act a 2 (ι 5 0) (ι 5 1) (ι 5 2) = m_season a (ι 5 0) (ι 5 1) := by simp [act, q]
      have e2 := m126 H ι z κ a (ι 5 0) (ι 5 1) q.2.1 q.2.2 q.1
      rw [e]
      simp (disch := first | omega | assumption | exact MO_isO _ _ _ _ | (refine b30 ?_; omega) | (refine nI_inR ?_ ?_ ?_ <;> omega)) only [x162, e162_0, e162_1, e162_4, e162_5, e162_6, e162_7, e162_10, e162_11, e162_14, e162_15, e162_18, e162_19, e162_20, e162_23, e162_24, e162_27, e162_28, e162_29, e162_32, e162_33, e162_36, e162_37, e162_38, e162_41, e162_42, e162_44, e162_47, e162_48, e162_51, e162_52, e162_53, e162_54, e162_56, e162_57, e162_60, e162_61, e162_64, e162_65, e162_66, e162_69, e162_70, e162_73, e162_76, e162_77, e162_79, e162_82, e162_83, e162_86, e162_89, e162_90, e162_91, e162_92, e162_132, e162_133, e162_134, e162_137, e162_138, e162_139, e162_140, e162_143, e162_144, e162_145, e162_148, e162_149, e162_150, e162_151, e162_154, e162_155, e162_156, e162_157, e162_160, e162_161, e162_162, e162_165, e162_166, e162_167, e162_168, e162_171, e162_172, e162_173, e162_174, e162_177, e162_178, e162_179, e162_182, e162_183, e162_184, e162_185, e162_188, e162_189, e162_190, e162_191, e162_194, e162_195, e162_196, e162_197, e162_200, e162_201, e162_202, e162_205, e162_206, e162_207, e162_208, e162_211, e162_212, e162_213, e162_216, e162_217, e162_218, e162_221, e162_222, e162_223, e162_224, e162_227, e162_228, e162_229, e162_232, kv_s, kh_s, kn_s, kc_v, kc_n, MO_isO, MO_f0, MO_f1, MO_f2, MO_f3, MO_f4, MO_f5, MO_f6, MO_f7, MO_f8, MO_f9, MO_f10, MO_f11, MO_f12, MO_f13, MO_f14, MO_i0, MO_i1, MO_i2, MO_i3, MO_i4, MO_i5, MO_j0, MO_j1, MO_j2, MO_j3, Nat.reduceEqDiff, Nat.one_ne_zero, Nat.reduceLT, Nat.reduceLeDiff, Nat.reduceAdd, Nat.reduceSub, Nat.reduceMul, nI_add, nI_leI, nI_ltI, nI_eq, z_eq, z_lt, z_le, z_gt, z_ge, ↓reduceIte, not_true_eq_false, not_false_eq_true, if_true, if_false, e5, e2]
    · have e : act a 2 (ι 5 0) (ι 5 1) (ι 5 2) = (-1000001, a) := by
        unfold act
        rw [if_neg (by omega), if_neg (by omega), if_pos rfl, if_neg q]
      have e2 := m126o (MO H (u1 ι 0 (flat a)) z κ) (nI (ι 5 0)) (nI (ι 5 1)) (fun h => q ⟨((inR_N (by omega) (by omega) (by omega)).mp h.1).2, (inR_N (by omega) (by omega) (by omega)).mp h.2⟩)
      rw [e]
      simp (disch := first | omega | assumption | exact MO_isO _ _ _ _ | (refine b30 ?_; omega) | (refine nI_inR ?_ ?_ ?_ <;> omega)) only [x162, e162_0, e162_1, e162_4, e162_5, e162_6, e162_7, e162_10, e162_11, e162_14, e162_15, e162_18, e162_19, e162_20, e162_23, e162_24, e162_27, e162_28, e162_29, e162_32, e162_33, e162_36, e162_37, e162_38, e162_41, e162_42, e162_44, e162_47, e162_48, e162_51, e162_52, e162_53, e162_54, e162_56, e162_57, e162_60, e162_61, e162_64, e162_65, e162_66, e162_69, e162_70, e162_73, e162_76, e162_77, e162_79, e162_82, e162_83, e162_86, e162_89, e162_90, e162_91, e162_92, e162_132, e162_133, e162_134, e162_137, e162_138, e162_139, e162_140, e162_143, e162_144, e162_145, e162_148, e162_149, e162_150, e162_151, e162_154, e162_155, e162_156, e162_157, e162_160, e162_161, e162_162, e162_165, e162_166, e162_167, e162_168, e162_171, e162_172, e162_173, e162_174, e162_177, e162_178, e162_179, e162_182, e162_183, e162_184, e162_185, e162_188, e162_189, e162_190, e162_191, e162_194, e162_195, e162_196, e162_197, e162_200, e162_201, e162_202, e162_205, e162_206, e162_207, e162_208, e162_211, e162_212, e162_213, e162_216, e162_217, e162_218, e162_221, e162_222, e162_223, e162_224, e162_227, e162_228, e162_229, e162_232, kv_s, kh_s, kn_s, kc_v, kc_n, MO_isO, MO_f0, MO_f1, MO_f2, MO_f3, MO_f4, MO_f5, MO_f6, MO_f7, MO_f8, MO_f9, MO_f10, MO_f11, MO_f12, MO_f13, MO_f14, MO_i0, MO_i1, MO_i2, MO_i3, MO_i4, MO_i5, MO_j0, MO_j1, MO_j2, MO_j3, Nat.reduceEqDiff, Nat.one_ne_zero, Nat.reduceLT, Nat.reduceLeDiff, Nat.reduceAdd, Nat.reduceSub, Nat.reduceMul, nI_add, nI_leI, nI_ltI, nI_eq, z_eq, z_lt, z_le, z_gt, z_ge, ↓reduceIte, not_true_eq_false, not_false_eq_true, if_true, if_false, e5, e2]
  · have n0 := h5 0 (by decide)
    have n1 := h5 1 (by decide)
    have n2 := h5 2 (by decide)
    by_cases q : (1 ≤ ι 5 0 ∧ ι 5 0 ≤ 6) ∧ ι 5 1 ≤ 20 ∧ (ι 5 1 ≤ ι 5 2 ∧ ι 5 2 ≤ 20)
    · have e : act a 3 (ι 5 0) (ι 5 1) (ι 5 2) = m_plan a (ι 5 0) (ι 5 1) (ι 5 2) := by
        unfold act
        rw [if_neg (by omega), if_neg (by omega), if_neg (by omega), if_pos rfl, if_pos q]
      have e2 := m124 H ι z κ a (ι 5 0) (ι 5 1) (ι 5 2) q.1.1 q.1.2 q.2.2.1 q.2.2.2
      rw [e]
      simp (disch := first | omega | assumption | exact MO_isO _ _ _ _ | (refine b30 ?_; omega) | (refine nI_inR ?_ ?_ ?_ <;> omega)) only [x162, e162_0, e162_1, e162_4, e162_5, e162_6, e162_7, e162_10, e162_11, e162_14, e162_15, e162_18, e162_19, e162_20, e162_23, e162_24, e162_27, e162_28, e162_29, e162_32, e162_33, e162_36, e162_37, e162_38, e162_41, e162_42, e162_44, e162_47, e162_48, e162_51, e162_52, e162_53, e162_54, e162_56, e162_57, e162_60, e162_61, e162_64, e162_65, e162_66, e162_69, e162_70, e162_73, e162_76, e162_77, e162_79, e162_82, e162_83, e162_86, e162_89, e162_90, e162_91, e162_92, e162_132, e162_133, e162_134, e162_137, e162_138, e162_139, e162_140, e162_143, e162_144, e162_145, e162_148, e162_149, e162_150, e162_151, e162_154, e162_155, e162_156, e162_157, e162_160, e162_161, e162_162, e162_165, e162_166, e162_167, e162_168, e162_171, e162_172, e162_173, e162_174, e162_177, e162_178, e162_179, e162_182, e162_183, e162_184, e162_185, e162_188, e162_189, e162_190, e162_191, e162_194, e162_195, e162_196, e162_197, e162_200, e162_201, e162_202, e162_205, e162_206, e162_207, e162_208, e162_211, e162_212, e162_213, e162_216, e162_217, e162_218, e162_221, e162_222, e162_223, e162_224, e162_227, e162_228, e162_229, e162_232, kv_s, kh_s, kn_s, kc_v, kc_n, MO_isO, MO_f0, MO_f1, MO_f2, MO_f3, MO_f4, MO_f5, MO_f6, MO_f7, MO_f8, MO_f9, MO_f10, MO_f11, MO_f12, MO_f13, MO_f14, MO_i0, MO_i1, MO_i2, MO_i3, MO_i4, MO_i5, MO_j0, MO_j1, MO_j2, MO_j3, Nat.reduceEqDiff, Nat.one_ne_zero, Nat.reduceLT, Nat.reduceLeDiff, Nat.reduceAdd, Nat.reduceSub, Nat.reduceMul, nI_add, nI_leI, nI_ltI, nI_eq, z_eq, z_lt, z_le, z_gt, z_ge, ↓reduceIte, not_true_eq_false, not_false_eq_true, if_true, if_false, e5, e2]
    · have e : act a 3 (ι 5 0) (ι 5 1) (ι 5 2) = (-1000001, a) := by
        unfold act
        rw [if_neg (by omega), if_neg (by omega), if_neg (by omega), if_pos rfl, if_neg q]
      have e2 := m124o (MO H (u1 ι 0 (flat a)) z κ) (nI (ι 5 0)) (nI (ι 5 1)) (nI (ι 5 2)) (fun h => q ⟨(inR_N (by omega) (by omega) (by omega)).mp h.1, ((inR_N (by omega) (by omega) (by omega)).mp h.2.1).2, (inR_N (by omega) (by omega) (by omega)).mp h.2.2⟩)
      rw [e]
      simp (disch := first | omega | assumption | exact MO_isO _ _ _ _ | (refine b30 ?_; omega) | (refine nI_inR ?_ ?_ ?_ <;> omega)) only [x162, e162_0, e162_1, e162_4, e162_5, e162_6, e162_7, e162_10, e162_11, e162_14, e162_15, e162_18, e162_19, e162_20, e162_23, e162_24, e162_27, e162_28, e162_29, e162_32, e162_33, e162_36, e162_37, e162_38, e162_41, e162_42, e162_44, e162_47, e162_48, e162_51, e162_52, e162_53, e162_54, e162_56, e162_57, e162_60, e162_61, e162_64, e162_65, e162_66, e162_69, e162_70, e162_73, e162_76, e162_77, e162_79, e162_82, e162_83, e162_86, e162_89, e162_90, e162_91, e162_92, e162_132, e162_133, e162_134, e162_137, e162_138, e162_139, e162_140, e162_143, e162_144, e162_145, e162_148, e162_149, e162_150, e162_151, e162_154, e162_155, e162_156, e162_157, e162_160, e162_161, e162_162, e162_165, e162_166, e162_167, e162_168, e162_171, e162_172, e162_173, e162_174, e162_177, e162_178, e162_179, e162_182, e162_183, e162_184, e162_185, e162_188, e162_189, e162_190, e162_191, e162_194, e162_195, e162_196, e162_197, e162_200, e162_201, e162_202, e162_205, e162_206, e162_207, e162_208, e162_211, e162_212, e162_213, e162_216, e162_217, e162_218, e162_221, e162_222, e162_223, e162_224, e162_227, e162_228, e162_229, e162_232, kv_s, kh_s, kn_s, kc_v, kc_n, MO_isO, MO_f0, MO_f1, MO_f2, MO_f3, MO_f4, MO_f5, MO_f6, MO_f7, MO_f8, MO_f9, MO_f10, MO_f11, MO_f12, MO_f13, MO_f14, MO_i0, MO_i1, MO_i2, MO_i3, MO_i4, MO_i5, MO_j0, MO_j1, MO_j2, MO_j3, Nat.reduceEqDiff, Nat.one_ne_zero, Nat.reduceLT, Nat.reduceLeDiff, Nat.reduceAdd, Nat.reduceSub, Nat.reduceMul, nI_add, nI_leI, nI_ltI, nI_eq, z_eq, z_lt, z_le, z_gt, z_ge, ↓reduceIte, not_true_eq_false, not_false_eq_true, if_true, if_false, e5, e2]
  · have n0 := h5 0 (by decide)
    by_cases q : ι 5 0 ≤ 20
    · have e : act a 4 (ι 5 0) (ι 5 1) (ι 5 2) = m_order a (ι 5 0) := by simp [act, q]
      have e2 := m128 H ι z κ a (ι 5 0) q o6 o7 o8
      rw [e]
      simp (disch := first | omega | assumption | exact MO_isO _ _ _ _ | (refine b30 ?_; omega) | (refine nI_inR ?_ ?_ ?_ <;> omega)) only [x162, e162_0, e162_1, e162_4, e162_5, e162_6, e162_7, e162_10, e162_11, e162_14, e162_15, e162_18, e162_19, e162_20, e162_23, e162_24, e162_27, e162_28, e162_29, e162_32, e162_33, e162_36, e162_37, e162_38, e162_41, e162_42, e162_44, e162_47, e162_48, e162_51, e162_52, e162_53, e162_54, e162_56, e162_57, e162_60, e162_61, e162_64, e162_65, e162_66, e162_69, e162_70, e162_73, e162_76, e162_77, e162_79, e162_82, e162_83, e162_86, e162_89, e162_90, e162_91, e162_92, e162_132, e162_133, e162_134, e162_137, e162_138, e162_139, e162_140, e162_143, e162_144, e162_145, e162_148, e162_149, e162_150, e162_151, e162_154, e162_155, e162_156, e162_157, e162_160, e162_161, e162_162, e162_165, e162_166, e162_167, e162_168, e162_171, e162_172, e162_173, e162_174, e162_177, e162_178, e162_179, e162_182, e162_183, e162_184, e162_185, e162_188, e162_189, e162_190, e162_191, e162_194, e162_195, e162_196, e162_197, e162_200, e162_201, e162_202, e162_205, e162_206, e162_207, e162_208, e162_211, e162_212, e162_213, e162_216, e162_217, e162_218, e162_221, e162_222, e162_223, e162_224, e162_227, e162_228, e162_229, e162_232, kv_s, kh_s, kn_s, kc_v, kc_n, MO_isO, MO_f0, MO_f1, MO_f2, MO_f3, MO_f4, MO_f5, MO_f6, MO_f7, MO_f8, MO_f9, MO_f10, MO_f11, MO_f12, MO_f13, MO_f14, MO_i0, MO_i1, MO_i2, MO_i3, MO_i4, MO_i5, MO_j0, MO_j1, MO_j2, MO_j3, Nat.reduceEqDiff, Nat.one_ne_zero, Nat.reduceLT, Nat.reduceLeDiff, Nat.reduceAdd, Nat.reduceSub, Nat.reduceMul, nI_add, nI_leI, nI_ltI, nI_eq, z_eq, z_lt, z_le, z_gt, z_ge, ↓reduceIte, not_true_eq_false, not_false_eq_true, if_true, if_false, e5, e2]
    · have e : act a 4 (ι 5 0) (ι 5 1) (ι 5 2) = (-1000001, a) := by simp [act, q]
      have e2 := m128o (MO H (u1 ι 0 (flat a)) z κ) (nI (ι 5 0)) (fun h => q ((inR_N (by omega) (by omega) (by omega)).mp h).2)
      rw [e]
      simp (disch := first | omega | assumption | exact MO_isO _ _ _ _ | (refine b30 ?_; omega) | (refine nI_inR ?_ ?_ ?_ <;> omega)) only [x162, e162_0, e162_1, e162_4, e162_5, e162_6, e162_7, e162_10, e162_11, e162_14, e162_15, e162_18, e162_19, e162_20, e162_23, e162_24, e162_27, e162_28, e162_29, e162_32, e162_33, e162_36, e162_37, e162_38, e162_41, e162_42, e162_44, e162_47, e162_48, e162_51, e162_52, e162_53, e162_54, e162_56, e162_57, e162_60, e162_61, e162_64, e162_65, e162_66, e162_69, e162_70, e162_73, e162_76, e162_77, e162_79, e162_82, e162_83, e162_86, e162_89, e162_90, e162_91, e162_92, e162_132, e162_133, e162_134, e162_137, e162_138, e162_139, e162_140, e162_143, e162_144, e162_145, e162_148, e162_149, e162_150, e162_151, e162_154, e162_155, e162_156, e162_157, e162_160, e162_161, e162_162, e162_165, e162_166, e162_167, e162_168, e162_171, e162_172, e162_173, e162_174, e162_177, e162_178, e162_179, e162_182, e162_183, e162_184, e162_185, e162_188, e162_189, e162_190, e162_191, e162_194, e162_195, e162_196, e162_197, e162_200, e162_201, e162_202, e162_205, e162_206, e162_207, e162_208, e162_211, e162_212, e162_213, e162_216, e162_217, e162_218, e162_221, e162_222, e162_223, e162_224, e162_227, e162_228, e162_229, e162_232, kv_s, kh_s, kn_s, kc_v, kc_n, MO_isO, MO_f0, MO_f1, MO_f2, MO_f3, MO_f4, MO_f5, MO_f6, MO_f7, MO_f8, MO_f9, MO_f10, MO_f11, MO_f12, MO_f13, MO_f14, MO_i0, MO_i1, MO_i2, MO_i3, MO_i4, MO_i5, MO_j0, MO_j1, MO_j2, MO_j3, Nat.reduceEqDiff, Nat.one_ne_zero, Nat.reduceLT, Nat.reduceLeDiff, Nat.reduceAdd, Nat.reduceSub, Nat.reduceMul, nI_add, nI_leI, nI_ltI, nI_eq, z_eq, z_lt, z_le, z_gt, z_ge, ↓reduceIte, not_true_eq_false, not_false_eq_true, if_true, if_false, e5, e2]
  · have e : act a 5 (ι 5 0) (ι 5 1) (ι 5 2) = m_follow a := by simp [act]
    have e2 := m130 H ι z κ a o6 o7 o8 o1.2.1 o5
    rw [e]
    simp (disch := first | omega | assumption | exact MO_isO _ _ _ _ | (refine b30 ?_; omega) | (refine nI_inR ?_ ?_ ?_ <;> omega)) only [x162, e162_0, e162_1, e162_4, e162_5, e162_6, e162_7, e162_10, e162_11, e162_14, e162_15, e162_18, e162_19, e162_20, e162_23, e162_24, e162_27, e162_28, e162_29, e162_32, e162_33, e162_36, e162_37, e162_38, e162_41, e162_42, e162_44, e162_47, e162_48, e162_51, e162_52, e162_53, e162_54, e162_56, e162_57, e162_60, e162_61, e162_64, e162_65, e162_66, e162_69, e162_70, e162_73, e162_76, e162_77, e162_79, e162_82, e162_83, e162_86, e162_89, e162_90, e162_91, e162_92, e162_132, e162_133, e162_134, e162_137, e162_138, e162_139, e162_140, e162_143, e162_144, e162_145, e162_148, e162_149, e162_150, e162_151, e162_154, e162_155, e162_156, e162_157, e162_160, e162_161, e162_162, e162_165, e162_166, e162_167, e162_168, e162_171, e162_172, e162_173, e162_174, e162_177, e162_178, e162_179, e162_182, e162_183, e162_184, e162_185, e162_188, e162_189, e162_190, e162_191, e162_194, e162_195, e162_196, e162_197, e162_200, e162_201, e162_202, e162_205, e162_206, e162_207, e162_208, e162_211, e162_212, e162_213, e162_216, e162_217, e162_218, e162_221, e162_222, e162_223, e162_224, e162_227, e162_228, e162_229, e162_232, kv_s, kh_s, kn_s, kc_v, kc_n, MO_isO, MO_f0, MO_f1, MO_f2, MO_f3, MO_f4, MO_f5, MO_f6, MO_f7, MO_f8, MO_f9, MO_f10, MO_f11, MO_f12, MO_f13, MO_f14, MO_i0, MO_i1, MO_i2, MO_i3, MO_i4, MO_i5, MO_j0, MO_j1, MO_j2, MO_j3, Nat.reduceEqDiff, Nat.one_ne_zero, Nat.reduceLT, Nat.reduceLeDiff, Nat.reduceAdd, Nat.reduceSub, Nat.reduceMul, nI_add, nI_leI, nI_ltI, nI_eq, z_eq, z_lt, z_le, z_gt, z_ge, ↓reduceIte, not_true_eq_false, not_false_eq_true, if_true, if_false, e5, e2]
  · have n0 := h5 0 (by decide)
    by_cases q : ι 5 0 ≤ 6
    · have e : act a 6 (ι 5 0) (ι 5 1) (ι 5 2) = m_sell a (ι 5 0) := by simp [act, q]
      have e2 := m132 H ι z κ a (ι 5 0) q o6 o7 (by omega)
      rw [e]
      simp (disch := first | omega | assumption | exact MO_isO _ _ _ _ | (refine b30 ?_; omega) | (refine nI_inR ?_ ?_ ?_ <;> omega)) only [x162, e162_0, e162_1, e162_4, e162_5, e162_6, e162_7, e162_10, e162_11, e162_14, e162_15, e162_18, e162_19, e162_20, e162_23, e162_24, e162_27, e162_28, e162_29, e162_32, e162_33, e162_36, e162_37, e162_38, e162_41, e162_42, e162_44, e162_47, e162_48, e162_51, e162_52, e162_53, e162_54, e162_56, e162_57, e162_60, e162_61, e162_64, e162_65, e162_66, e162_69, e162_70, e162_73, e162_76, e162_77, e162_79, e162_82, e162_83, e162_86, e162_89, e162_90, e162_91, e162_92, e162_132, e162_133, e162_134, e162_137, e162_138, e162_139, e162_140, e162_143, e162_144, e162_145, e162_148, e162_149, e162_150, e162_151, e162_154, e162_155, e162_156, e162_157, e162_160, e162_161, e162_162, e162_165, e162_166, e162_167, e162_168, e162_171, e162_172, e162_173, e162_174, e162_177, e162_178, e162_179, e162_182, e162_183, e162_184, e162_185, e162_188, e162_189, e162_190, e162_191, e162_194, e162_195, e162_196, e162_197, e162_200, e162_201, e162_202, e162_205, e162_206, e162_207, e162_208, e162_211, e162_212, e162_213, e162_216, e162_217, e162_218, e162_221, e162_222, e162_223, e162_224, e162_227, e162_228, e162_229, e162_232, kv_s, kh_s, kn_s, kc_v, kc_n, MO_isO, MO_f0, MO_f1, MO_f2, MO_f3, MO_f4, MO_f5, MO_f6, MO_f7, MO_f8, MO_f9, MO_f10, MO_f11, MO_f12, MO_f13, MO_f14, MO_i0, MO_i1, MO_i2, MO_i3, MO_i4, MO_i5, MO_j0, MO_j1, MO_j2, MO_j3, Nat.reduceEqDiff, Nat.one_ne_zero, Nat.reduceLT, Nat.reduceLeDiff, Nat.reduceAdd, Nat.reduceSub, Nat.reduceMul, nI_add, nI_leI, nI_ltI, nI_eq, z_eq, z_lt, z_le, z_gt, z_ge, ↓reduceIte, not_true_eq_false, not_false_eq_true, if_true, if_false, e5, e2]
    · have e : act a 6 (ι 5 0) (ι 5 1) (ι 5 2) = (-1000001, a) := by simp [act, q]
      have e2 := m132o (MO H (u1 ι 0 (flat a)) z κ) (nI (ι 5 0)) (fun h => q ((inR_N (by omega) (by omega) (by omega)).mp h).2)
      rw [e]
      simp (disch := first | omega | assumption | exact MO_isO _ _ _ _ | (refine b30 ?_; omega) | (refine nI_inR ?_ ?_ ?_ <;> omega)) only [x162, e162_0, e162_1, e162_4, e162_5, e162_6, e162_7, e162_10, e162_11, e162_14, e162_15, e162_18, e162_19, e162_20, e162_23, e162_24, e162_27, e162_28, e162_29, e162_32, e162_33, e162_36, e162_37, e162_38, e162_41, e162_42, e162_44, e162_47, e162_48, e162_51, e162_52, e162_53, e162_54, e162_56, e162_57, e162_60, e162_61, e162_64, e162_65, e162_66, e162_69, e162_70, e162_73, e162_76, e162_77, e162_79, e162_82, e162_83, e162_86, e162_89, e162_90, e162_91, e162_92, e162_132, e162_133, e162_134, e162_137, e162_138, e162_139, e162_140, e162_143, e162_144, e162_145, e162_148, e162_149, e162_150, e162_151, e162_154, e162_155, e162_156, e162_157, e162_160, e162_161, e162_162, e162_165, e162_166, e162_167, e162_168, e162_171, e162_172, e162_173, e162_174, e162_177, e162_178, e162_179, e162_182, e162_183, e162_184, e162_185, e162_188, e162_189, e162_190, e162_191, e162_194, e162_195, e162_196, e162_197, e162_200, e162_201, e162_202, e162_205, e162_206, e162_207, e162_208, e162_211, e162_212, e162_213, e162_216, e162_217, e162_218, e162_221, e162_222, e162_223, e162_224, e162_227, e162_228, e162_229, e162_232, kv_s, kh_s, kn_s, kc_v, kc_n, MO_isO, MO_f0, MO_f1, MO_f2, MO_f3, MO_f4, MO_f5, MO_f6, MO_f7, MO_f8, MO_f9, MO_f10, MO_f11, MO_f12, MO_f13, MO_f14, MO_i0, MO_i1, MO_i2, MO_i3, MO_i4, MO_i5, MO_j0, MO_j1, MO_j2, MO_j3, Nat.reduceEqDiff, Nat.one_ne_zero, Nat.reduceLT, Nat.reduceLeDiff, Nat.reduceAdd, Nat.reduceSub, Nat.reduceMul, nI_add, nI_leI, nI_ltI, nI_eq, z_eq, z_lt, z_le, z_gt, z_ge, ↓reduceIte, not_true_eq_false, not_false_eq_true, if_true, if_false, e5, e2]
theorem ps_s (τ : Nat → Nat) (n p i : Nat) : ps τ n p (i + 1) = match ps τ n p i with | some q => (match n1 τ n q with | some (_, r) => some r | none => none) | none => none := rfl
/-- the numbers of a command -/
theorem l162n (h126 : ∀ i, ι 3 i ≤ 126) (hn : κ 1 ≤ 80) (w : Int32) (m : Nat) (hm : m ≤ 3) (f p : Nat) (hf : f ≤ 1) (hp : p < 800) : ∀ i, i ≤ m → ∃ (ι' : sT) (g q : Nat), ev 162 55 [some (.ref 77), some (.int w), some (.int (nI m)), some (.int (nI 0))] [] (MO H ι z (kk κ f p)) = ev 162 55 [some (.ref 77), some (.int w), some (.int (nI m)), some (.int (nI i))] [] (MO H ι' z (kk κ g q)) ∧ g ≤ 1 ∧ q ≤ p + 3 * i ∧ (∀ t, t ≠ 5 → ι' t = ι t) ∧ (∀ j, j < i → ι' 5 j < 100) ∧ (f = 1 → ∀ r, ps (ι 3) (κ 1) p i = some r → g = 1 ∧ q = r ∧ ∀ j, j < i → ι' 5 j = vs (ι 3) (κ 1) p j) ∧ ((f = 0 ∨ ps (ι 3) (κ 1) p i = none) → g = 0) := by
  intro i
  induction i with
  | zero =>
    intro _
    refine ⟨ι, f, p, rfl, hf, by omega, fun _ _ => rfl, fun j hj => absurd hj (by omega), fun h r hr => ?_, ?_⟩
    · cases hr
      exact ⟨h, rfl, fun j hj => absurd hj (by omega)⟩
    · rintro (h | h)
      · exact h
      · cases h
  | succ i ih =>
    intro hi
    obtain ⟨ι', g, q, e, i1, i2, i3, i4, i5, i6⟩ := ih (by omega)
    have e3 : ι' 3 = ι 3 := i3 3 (by omega)
    obtain ⟨v, q', g', e66, j1, j2, j3, j4, j5, j6⟩ := m166 H ι' z κ (by rw [e3]; exact h126) hn g q i1 (by omega)
    rw [e3] at j5 j6
    refine ⟨u2 ι' 5 i v, g', q', ?_, j4, by omega, ?_, ?_, ?_, ?_⟩
    · rw [e, e162_55]
      simp (disch := first | omega | assumption | exact MO_isO _ _ _ _ | (refine b30 ?_; omega) | (refine nI_inR ?_ ?_ ?_ <;> omega)) only [x162, e162_0, e162_1, e162_4, e162_5, e162_6, e162_7, e162_10, e162_11, e162_14, e162_15, e162_18, e162_19, e162_20, e162_23, e162_24, e162_27, e162_28, e162_29, e162_32, e162_33, e162_36, e162_37, e162_38, e162_41, e162_42, e162_44, e162_47, e162_48, e162_51, e162_52, e162_53, e162_54, e162_56, e162_57, e162_60, e162_61, e162_64, e162_65, e162_66, e162_69, e162_70, e162_73, e162_76, e162_77, e162_79, e162_82, e162_83, e162_86, e162_89, e162_90, e162_91, e162_92, e162_132, e162_133, e162_134, e162_137, e162_138, e162_139, e162_140, e162_143, e162_144, e162_145, e162_148, e162_149, e162_150, e162_151, e162_154, e162_155, e162_156, e162_157, e162_160, e162_161, e162_162, e162_165, e162_166, e162_167, e162_168, e162_171, e162_172, e162_173, e162_174, e162_177, e162_178, e162_179, e162_182, e162_183, e162_184, e162_185, e162_188, e162_189, e162_190, e162_191, e162_194, e162_195, e162_196, e162_197, e162_200, e162_201, e162_202, e162_205, e162_206, e162_207, e162_208, e162_211, e162_212, e162_213, e162_216, e162_217, e162_218, e162_221, e162_222, e162_223, e162_224, e162_227, e162_228, e162_229, e162_232, kv_s, kh_s, kn_s, kc_v, kc_n, MO_isO, MO_f0, MO_f1, MO_f2, MO_f3, MO_f4, MO_f5, MO_f6, MO_f7, MO_f8, MO_f9, MO_f10, MO_f11, MO_f12, MO_f13, MO_f14, MO_i0, MO_i1, MO_i2, MO_i3, MO_i4, MO_i5, MO_j0, MO_j1, MO_j2, MO_j3, MO_wi0, MO_wi1, MO_wi2, MO_wi3, MO_wi4, MO_wi5, MO_wj0, MO_wj1, MO_wj2, MO_wj3, MO_k0, MO_k1, MO_k2, MO_k3, MO_k4, Nat.reduceEqDiff, Nat.one_ne_zero, Nat.reduceLT, Nat.reduceLeDiff, Nat.reduceAdd, Nat.reduceSub, Nat.reduceMul, nI_add, nI_leI, nI_ltI, nI_eq, z_eq, z_lt, z_le, z_gt, z_ge, ↓reduceIte, not_true_eq_false, not_false_eq_true, if_true, if_false, e66, show ¬ m ≤ i by omega]
    · intro t ht
      rw [u2_ne _ _ _ _ _ ht, i3 t ht]
    · intro j hj
      rw [u2_app]
      by_cases h : j = i
      · rw [if_pos ⟨rfl, h⟩]; exact j1
      · rw [if_neg (by omega)]; exact i4 j (by omega)
    · intro hf1 r hr
      rw [ps_s] at hr
      cases hq : ps (ι 3) (κ 1) p i with
      | none => rw [hq] at hr; cases hr
      | some q0 =>
        rw [hq] at hr
        dsimp only at hr
        obtain ⟨k1, k2, k3⟩ := i5 hf1 q0 hq
        subst k2
        cases hx : n1 (ι 3) (κ 1) q with
        | none => rw [hx] at hr; cases hr
        | some xy =>
          obtain ⟨x, y⟩ := xy
          rw [hx] at hr
          cases hr
          obtain ⟨l1, l2, l3⟩ := j5 k1 x r hx
          refine ⟨l3, l2, fun j hj => ?_⟩
          rw [u2_app]
          by_cases h : j = i
          · rw [if_pos ⟨rfl, h⟩, h]
            unfold vs
            rw [hq]
            dsimp only
            rw [hx]
            exact l1
          · rw [if_neg (by omega), k3 j (by omega)]
    · intro h
      apply j6
      rw [ps_s] at h
      rcases h with h | h
      · exact .inl (i6 (.inl h))
      · cases hq : ps (ι 3) (κ 1) p i with
        | none => exact .inl (i6 (.inr hq))
        | some q0 =>
          rw [hq] at h
          dsimp only at h
          by_cases hf1 : f = 1
          · obtain ⟨k1, k2, k3⟩ := i5 hf1 q0 hq
            subst k2
            right
            cases hx : n1 (ι 3) (κ 1) q with
            | none => rfl
            | some xy =>
              obtain ⟨x, y⟩ := xy
              rw [hx] at h
              cases h
          · exact .inl (i6 (.inl (by omega)))
end
