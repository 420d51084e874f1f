-- PART 58: texts, fifth: the reference's text
section
variable (H : pi_H) (z : jT)
theorem m162a (ι : sT) (κ : kT) (t : Nat) (a : sT) (ok : okT t a) (ht : t < 2 ^ 30) (h126 : ∀ i, ι 3 i ≤ 126) (hn : κ 1 ≤ 80) (f p : Nat) (hp : p < 80) (k q : Nat) (hq : psr (ι 3) (κ 1) p = some (k, q)) : ∃ ι' : sT, ex 162 [.ref 77] (MO H (u1 ι 0 (flat a)) z (kk κ f p)) = some (some (.int (act a k (vs (ι 3) (κ 1) (p + wl k) 0) (vs (ι 3) (κ 1) (p + wl k) 1) (vs (ι 3) (κ 1) (p + wl k) 2)).1), MO H (u1 ι' 0 (flat (act a k (vs (ι 3) (κ 1) (p + wl k) 0) (vs (ι 3) (κ 1) (p + wl k) 1) (vs (ι 3) (κ 1) (p + wl k) 2)).2)) z (kk κ 1 q)) ∧ (∀ t, t ≠ 5 → ι' t = ι t) := by
  have s3 : u1 ι 0 (flat a) 3 = ι 3 := u1_n _ _ _ _ (by omega)
  obtain ⟨c, c1, c2, c3, e63⟩ := m163 H (u1 ι 0 (flat a)) z κ (by rw [s3]; exact h126) hn f p (by omega)
  rw [s3] at c2 c3 e63
  have k0 := okb0
  have k1 := okb1
  rcases word_ok (ι 3) (κ 1) p c c1 c2 c3 with ⟨k', hk, w1, w2, w3⟩ | ⟨_, w2⟩
  · unfold psr at hq
    rw [w1] at hq
    dsimp only at hq
    rw [w2, w3] at e63
    have b := wl_le k' hk
    have hm : many k' ≤ 3 := by unfold many; (repeat' split) <;> omega
    obtain ⟨ι1, g, q1, e, i1, i2, i3, i4, i5, i6⟩ := l162n H (u1 ι 0 (flat a)) z κ (by rw [s3]; exact h126) hn (nI k') (many k') hm 1 (p + wl k') (by omega) (by omega) (many k') (by omega)
    rw [s3] at i5 i6
    cases hps : ps (ι 3) (κ 1) (p + wl k') (many k') with
    | none => rw [hps] at hq; cases hq
    | some r =>
      rw [hps] at hq
      dsimp only at hq
      obtain ⟨rfl, rfl, j3⟩ := i5 rfl r hps
      by_cases hs : q1 < κ 1 ∧ ι 3 q1 = 59
      · rw [if_pos hs] at hq
        cases hq
        have e13 : ι1 3 = ι 3 := (i3 3 (by omega)).trans s3
        have e10 : ι1 = u1 (u1 ι1 0 (ι 0)) 0 (flat a) := by
          have h0 : ι1 0 = flat a := (i3 0 (by omega)).trans (u1_s _ _ _)
          rw [u1_u1, ← h0, u1_id]
        have e67 := m167 H ι1 z κ (by rw [e13]; exact h126) hn 1 q1 59 (by omega) (by omega) (by omega)
        rw [e13, if_pos ⟨rfl, hs⟩] at e67
        have e5 : (u1 ι1 0 (ι 0)) 5 = ι1 5 := u1_n _ _ _ _ (by omega)
        have eA := l162k H (u1 ι1 0 (ι 0)) z (kk κ 1 (q1 + 1)) t a ok ht k hk (fun i hi => by rw [e5]; exact i4 i hi) (nI (many k)) (nI (many k))
        rw [e5, ← e10, act_cg a k hk (ι1 5) (vs (ι 3) (κ 1) (p + wl k)) j3] at eA
        refine ⟨u1 ι1 0 (ι 0), ?_, fun t ht => ?_⟩
        · have eM : ev 162 18 [some (.ref 77), some (.int (nI k)), none, none] [] (MO H (u1 ι 0 (flat a)) z (kk κ 1 (p + wl k))) = ev 162 55 [some (.ref 77), some (.int (nI k)), some (.int (nI (many k))), some (.int (nI 0))] [] (MO H (u1 ι 0 (flat a)) z (kk κ 1 (p + wl k))) := by
            have hk7 : k = 0 ∨ k = 1 ∨ k = 2 ∨ k = 3 ∨ k = 4 ∨ k = 5 ∨ k = 6 := by omega
            rcases hk7 with rfl | rfl | rfl | rfl | rfl | rfl | rfl <;> simp (disch := first | omega | assumption | exact MO_isO _ _ _ _ | (refine b30 ?_; omega) | (refine nI_inR ?_ ?_ ?_ <;> omega)) only [x162, e162_0, e162_1, e162_4, e162_5, e162_6, e162_7, e162_10, e162_11, e162_14, e162_15, e162_18, e162_19, e162_20, e162_23, e162_24, e162_27, e162_28, e162_29, e162_32, e162_33, e162_36, e162_37, e162_38, e162_41, e162_42, e162_44, e162_47, e162_48, e162_51, e162_52, e162_53, e162_54, e162_56, e162_57, e162_60, e162_61, e162_64, e162_65, e162_66, e162_69, e162_70, e162_73, e162_76, e162_77, e162_79, e162_82, e162_83, e162_86, e162_89, e162_90, e162_91, e162_92, e162_132, e162_133, e162_134, e162_137, e162_138, e162_139, e162_140, e162_143, e162_144, e162_145, e162_148, e162_149, e162_150, e162_151, e162_154, e162_155, e162_156, e162_157, e162_160, e162_161, e162_162, e162_165, e162_166, e162_167, e162_168, e162_171, e162_172, e162_173, e162_174, e162_177, e162_178, e162_179, e162_182, e162_183, e162_184, e162_185, e162_188, e162_189, e162_190, e162_191, e162_194, e162_195, e162_196, e162_197, e162_200, e162_201, e162_202, e162_205, e162_206, e162_207, e162_208, e162_211, e162_212, e162_213, e162_216, e162_217, e162_218, e162_221, e162_222, e162_223, e162_224, e162_227, e162_228, e162_229, e162_232, kv_s, kh_s, kn_s, kc_v, kc_n, Nat.reduceEqDiff, Nat.one_ne_zero, Nat.reduceLT, Nat.reduceLeDiff, Nat.reduceAdd, Nat.reduceSub, Nat.reduceMul, nI_add, nI_leI, nI_ltI, nI_eq, z_eq, z_lt, z_le, z_gt, z_ge, ↓reduceIte, not_true_eq_false, not_false_eq_true, if_true, if_false, Nat.reduceEqDiff] <;> rfl
          simp (disch := first | omega | assumption | exact MO_isO _ _ _ _ | (refine b30 ?_; omega) | (refine nI_inR ?_ ?_ ?_ <;> omega)) only [x162, e162_0, e162_1, e162_4, e162_5, e162_6, e162_7, e162_10, e162_11, e162_14, e162_15, e162_19, e162_20, e162_23, e162_24, e162_27, e162_28, e162_29, e162_32, e162_33, e162_36, e162_37, e162_38, e162_41, e162_42, e162_44, e162_47, e162_48, e162_51, e162_52, e162_53, e162_54, e162_56, e162_57, e162_60, e162_61, e162_64, e162_65, e162_66, e162_69, e162_70, e162_73, e162_76, e162_77, e162_79, e162_82, e162_83, e162_86, e162_89, e162_90, e162_92, e162_132, e162_133, e162_134, e162_137, e162_138, e162_139, e162_140, e162_143, e162_144, e162_145, e162_148, e162_149, e162_150, e162_151, e162_154, e162_155, e162_156, e162_157, e162_160, e162_161, e162_162, e162_165, e162_166, e162_167, e162_168, e162_171, e162_172, e162_173, e162_174, e162_177, e162_178, e162_179, e162_182, e162_183, e162_184, e162_185, e162_188, e162_189, e162_190, e162_191, e162_194, e162_195, e162_196, e162_197, e162_200, e162_201, e162_202, e162_205, e162_206, e162_207, e162_208, e162_211, e162_212, e162_213, e162_216, e162_217, e162_218, e162_221, e162_222, e162_223, e162_224, e162_227, e162_228, e162_229, e162_232, kv_s, kh_s, kn_s, kc_v, kc_n, MO_isO, MO_f0, MO_f1, MO_f2, MO_f3, MO_f4, MO_f5, MO_f6, MO_f7, MO_f8, MO_f9, MO_f10, MO_f11, MO_f12, MO_f13, MO_f14, MO_i0, MO_i1, MO_i2, MO_i3, MO_i4, MO_i5, MO_j0, MO_j1, MO_j2, MO_j3, MO_wi0, MO_wi1, MO_wi2, MO_wi3, MO_wi4, MO_wi5, MO_wj0, MO_wj1, MO_wj2, MO_wj3, MO_k0, MO_k1, MO_k2, MO_k3, MO_k4, Nat.reduceEqDiff, Nat.one_ne_zero, Nat.reduceLT, Nat.reduceLeDiff, Nat.reduceAdd, Nat.reduceSub, Nat.reduceMul, nI_add, nI_leI, nI_ltI, nI_eq, z_eq, z_lt, z_le, z_gt, z_ge, ↓reduceIte, not_true_eq_false, not_false_eq_true, if_true, if_false, kk_0, kk_1, kk_2, kk_3, kk_w2, kk_w3, e63]
          rw [eM, e, e162_55]
          simp (disch := first | omega | assumption | exact MO_isO _ _ _ _ | (refine b30 ?_; omega) | (refine nI_inR ?_ ?_ ?_ <;> omega)) only [x162, e162_0, e162_1, e162_4, e162_5, e162_6, e162_7, e162_10, e162_11, e162_14, e162_15, e162_19, e162_20, e162_23, e162_24, e162_27, e162_28, e162_29, e162_32, e162_33, e162_36, e162_37, e162_38, e162_41, e162_42, e162_44, e162_47, e162_48, e162_51, e162_52, e162_53, e162_54, e162_56, e162_57, e162_60, e162_61, e162_64, e162_65, e162_66, e162_69, e162_70, e162_73, e162_76, e162_77, e162_79, e162_82, e162_83, e162_86, e162_89, e162_90, e162_92, e162_132, e162_133, e162_134, e162_137, e162_138, e162_139, e162_140, e162_143, e162_144, e162_145, e162_148, e162_149, e162_150, e162_151, e162_154, e162_155, e162_156, e162_157, e162_160, e162_161, e162_162, e162_165, e162_166, e162_167, e162_168, e162_171, e162_172, e162_173, e162_174, e162_177, e162_178, e162_179, e162_182, e162_183, e162_184, e162_185, e162_188, e162_189, e162_190, e162_191, e162_194, e162_195, e162_196, e162_197, e162_200, e162_201, e162_202, e162_205, e162_206, e162_207, e162_208, e162_211, e162_212, e162_213, e162_216, e162_217, e162_218, e162_221, e162_222, e162_223, e162_224, e162_227, e162_228, e162_229, e162_232, kv_s, kh_s, kn_s, kc_v, kc_n, MO_isO, MO_f0, MO_f1, MO_f2, MO_f3, MO_f4, MO_f5, MO_f6, MO_f7, MO_f8, MO_f9, MO_f10, MO_f11, MO_f12, MO_f13, MO_f14, MO_i0, MO_i1, MO_i2, MO_i3, MO_i4, MO_i5, MO_j0, MO_j1, MO_j2, MO_j3, MO_wi0, MO_wi1, MO_wi2, MO_wi3, MO_wi4, MO_wi5, MO_wj0, MO_wj1, MO_wj2, MO_wj3, MO_k0, MO_k1, MO_k2, MO_k3, MO_k4, Nat.reduceEqDiff, Nat.one_ne_zero, Nat.reduceLT, Nat.reduceLeDiff, Nat.reduceAdd, Nat.reduceSub, Nat.reduceMul, nI_add, nI_leI, nI_ltI, nI_eq, z_eq, z_lt, z_le, z_gt, z_ge, ↓reduceIte, not_true_eq_false, not_false_eq_true, if_true, if_false, kk_0, kk_1, kk_2, kk_3, kk_w2, kk_w3, e67, show many k ≤ many k by omega]
          exact eA
        · by_cases h0 : t = 0
          · rw [h0, u1_s]
          · rw [u1_n _ _ _ _ h0, i3 t ht, u1_n _ _ _ _ h0]
      · rw [if_neg hs] at hq
        cases hq
  · rw [w2] at hq
    cases hq
theorem m162b (ι : sT) (κ : kT) (a : sT) (h126 : ∀ i, ι 3 i ≤ 126) (hn : κ 1 ≤ 80) (f p : Nat) (hp : p < 80) (hq : psr (ι 3) (κ 1) p = none) : ∃ (ι' : sT) (q : Nat), ex 162 [.ref 77] (MO H (u1 ι 0 (flat a)) z (kk κ f p)) = some (some (.int (nI 0)), MO H (u1 ι' 0 (flat a)) z (kk κ 0 q)) ∧ (∀ t, t ≠ 5 → ι' t = ι t) := by
  have s3 : u1 ι 0 (flat a) 3 = ι 3 := u1_n _ _ _ _ (by omega)
  obtain ⟨c, c1, c2, c3, e63⟩ := m163 H (u1 ι 0 (flat a)) z κ (by rw [s3]; exact h126) hn f p (by omega)
  rw [s3] at c2 c3 e63
  have k0 := okb0
  have k1 := okb1
  have hn1 : (-1 : Int32) < 0 := by decide
  have key : ∀ (w : Int32) (m g0 : Nat) (pw : Nat), m ≤ 3 → g0 ≤ 1 → pw < 800 → (g0 = 0 ∨ ps (ι 3) (κ 1) pw m = none ∨ ∃ r, ps (ι 3) (κ 1) pw m = some r ∧ ¬ (r < κ 1 ∧ ι 3 r = 59)) → ∃ (ι' : sT) (q : Nat), ev 162 55 [some (.ref 77), some (.int w), some (.int (nI m)), some (.int (nI 0))] [] (MO H (u1 ι 0 (flat a)) z (kk κ g0 pw)) = some (some (.int (nI 0)), MO H (u1 ι' 0 (flat a)) z (kk κ 0 q)) ∧ (∀ t, t ≠ 5 → ι' t = ι t) := by
    intro w m g0 pw hm hg hpw hc
    obtain ⟨ι1, g, q1, e, i1, i2, i3, i4, i5, i6⟩ := l162n H (u1 ι 0 (flat a)) z κ (by rw [s3]; exact h126) hn w m hm g0 pw hg hpw m (by omega)
    rw [s3] at i5 i6
    have e13 : ι1 3 = ι 3 := (i3 3 (by omega)).trans s3
    have e10 : ι1 = u1 (u1 ι1 0 (ι 0)) 0 (flat a) := by
      have h0 : ι1 0 = flat a := (i3 0 (by omega)).trans (u1_s _ _ _)
      rw [u1_u1, ← h0, u1_id]
    have e67 := m167 H ι1 z κ (by rw [e13]; exact h126) hn g q1 59 i1 (by omega) (by omega)
    have hz : ¬ (g = 1 ∧ (q1 < κ 1 ∧ ι1 3 q1 = 59)) := by
      rintro ⟨g1, g2⟩
      rw [e13] at g2
      by_cases h0 : g0 = 0
      · have := i6 (.inl h0)
        omega
      · rcases hc with h | h | ⟨r, h, hr⟩
        · exact h0 h
        · have := i6 (.inr h)
          omega
        · obtain ⟨_, j2, _⟩ := i5 (by omega) r h
          rw [j2] at g2
          exact hr g2
    rw [if_neg hz] at e67
    refine ⟨u1 ι1 0 (ι 0), q1 + 1, ?_, fun t ht => ?_⟩
    · rw [← e10, e, e162_55]
      simp (disch := first | omega | assumption | exact MO_isO _ _ _ _ | (refine b30 ?_; omega) | (refine nI_inR ?_ ?_ ?_ <;> omega)) only [x162, e162_0, e162_1, e162_4, e162_5, e162_6, e162_7, e162_10, e162_11, e162_14, e162_15, e162_18, e162_19, e162_20, e162_23, e162_24, e162_27, e162_28, e162_29, e162_32, e162_33, e162_36, e162_37, e162_38, e162_41, e162_42, e162_44, e162_47, e162_48, e162_51, e162_52, e162_53, e162_54, e162_56, e162_57, e162_60, e162_61, e162_64, e162_65, e162_66, e162_69, e162_70, e162_73, e162_76, e162_77, e162_79, e162_82, e162_83, e162_86, e162_89, e162_90, e162_92, e162_132, e162_133, e162_134, e162_137, e162_138, e162_139, e162_140, e162_143, e162_144, e162_145, e162_148, e162_149, e162_150, e162_151, e162_154, e162_155, e162_156, e162_157, e162_160, e162_161, e162_162, e162_165, e162_166, e162_167, e162_168, e162_171, e162_172, e162_173, e162_174, e162_177, e162_178, e162_179, e162_182, e162_183, e162_184, e162_185, e162_188, e162_189, e162_190, e162_191, e162_194, e162_195, e162_196, e162_197, e162_200, e162_201, e162_202, e162_205, e162_206, e162_207, e162_208, e162_211, e162_212, e162_213, e162_216, e162_217, e162_218, e162_221, e162_222, e162_223, e162_224, e162_227, e162_228, e162_229, e162_232, kv_s, kh_s, kn_s, kc_v, kc_n, MO_isO, MO_f0, MO_f1, MO_f2, MO_f3, MO_f4, MO_f5, MO_f6, MO_f7, MO_f8, MO_f9, MO_f10, MO_f11, MO_f12, MO_f13, MO_f14, MO_i0, MO_i1, MO_i2, MO_i3, MO_i4, MO_i5, MO_j0, MO_j1, MO_j2, MO_j3, MO_wi0, MO_wi1, MO_wi2, MO_wi3, MO_wi4, MO_wi5, MO_wj0, MO_wj1, MO_wj2, MO_wj3, MO_k0, MO_k1, MO_k2, MO_k3, MO_k4, Nat.reduceEqDiff, Nat.one_ne_zero, Nat.reduceLT, Nat.reduceLeDiff, Nat.reduceAdd, Nat.reduceSub, Nat.reduceMul, nI_add, nI_leI, nI_ltI, nI_eq, z_eq, z_lt, z_le, z_gt, z_ge, ↓reduceIte, not_true_eq_false, not_false_eq_true, if_true, if_false, kk_0, kk_1, kk_2, kk_3, kk_w2, kk_w3, e67, show m ≤ m by omega]
    · by_cases h0 : t = 0
      · rw [h0, u1_s]
      · rw [u1_n _ _ _ _ h0, i3 t ht, u1_n _ _ _ _ h0]
  rcases word_ok (ι 3) (κ 1) p c c1 c2 c3 with ⟨k, hk, w1, w2, w3⟩ | ⟨w1, _⟩
  · have b := wl_le k hk
    have hm : many k ≤ 3 := by unfold many; (repeat' split) <;> omega
    rw [w2, w3] at e63
    have hc : 1 = 0 ∨ ps (ι 3) (κ 1) (p + wl k) (many k) = none ∨ ∃ r, ps (ι 3) (κ 1) (p + wl k) (many k) = some r ∧ ¬ (r < κ 1 ∧ ι 3 r = 59) := by
      right
      unfold psr at hq
      rw [w1] at hq
      dsimp only at hq
      cases hps : ps (ι 3) (κ 1) (p + wl k) (many k) with
      | none => exact .inl rfl
      | some r =>
        rw [hps] at hq
        dsimp only at hq
        refine .inr ⟨r, rfl, fun hs => ?_⟩
        rw [if_pos hs] at hq
        cases hq
    obtain ⟨ι', q, e, i1⟩ := key (nI k) (many k) 1 (p + wl k) hm (by omega) (by omega) hc
    refine ⟨ι', q, ?_, i1⟩
    have eM : ev 162 18 [some (.ref 77), some (.int (nI k)), none, none] [] (MO H (u1 ι 0 (flat a)) z (kk κ 1 (p + wl k))) = ev 162 55 [some (.ref 77), some (.int (nI k)), some (.int (nI (many k))), some (.int (nI 0))] [] (MO H (u1 ι 0 (flat a)) z (kk κ 1 (p + wl k))) := by
      have hk7 : k = 0 ∨ k = 1 ∨ k = 2 ∨ k = 3 ∨ k = 4 ∨ k = 5 ∨ k = 6 := by omega
      rcases hk7 with rfl | rfl | rfl | rfl | rfl | rfl | rfl <;> simp (disch := first | omega | assumption | exact MO_isO _ _ _ _ | (refine b30 ?_; omega) | (refine nI_inR ?_ ?_ ?_ <;> omega)) only [x162, e162_0, e162_1, e162_4, e162_5, e162_6, e162_7, e162_10, e162_11, e162_14, e162_15, e162_18, e162_19, e162_20, e162_23, e162_24, e162_27, e162_28, e162_29, e162_32, e162_33, e162_36, e162_37, e162_38, e162_41, e162_42, e162_44, e162_47, e162_48, e162_51, e162_52, e162_53, e162_54, e162_56, e162_57, e162_60, e162_61, e162_64, e162_65, e162_66, e162_69, e162_70, e162_73, e162_76, e162_77, e162_79, e162_82, e162_83, e162_86, e162_89, e162_90, e162_91, e162_92, e162_132, e162_133, e162_134, e162_137, e162_138, e162_139, e162_140, e162_143, e162_144, e162_145, e162_148, e162_149, e162_150, e162_151, e162_154, e162_155, e162_156, e162_157, e162_160, e162_161, e162_162, e162_165, e162_166, e162_167, e162_168, e162_171, e162_172, e162_173, e162_174, e162_177, e162_178, e162_179, e162_182, e162_183, e162_184, e162_185, e162_188, e162_189, e162_190, e162_191, e162_194, e162_195, e162_196, e162_197, e162_200, e162_201, e162_202, e162_205, e162_206, e162_207, e162_208, e162_211, e162_212, e162_213, e162_216, e162_217, e162_218, e162_221, e162_222, e162_223, e162_224, e162_227, e162_228, e162_229, e162_232, kv_s, kh_s, kn_s, kc_v, kc_n, Nat.reduceEqDiff, Nat.one_ne_zero, Nat.reduceLT, Nat.reduceLeDiff, Nat.reduceAdd, Nat.reduceSub, Nat.reduceMul, nI_add, nI_leI, nI_ltI, nI_eq, z_eq, z_lt, z_le, z_gt, z_ge, ↓reduceIte, not_true_eq_false, not_false_eq_true, if_true, if_false, Nat.reduceEqDiff] <;> rfl
    simp (disch := first | omega | assumption | exact MO_isO _ _ _ _ | (refine b30 ?_; omega) | (refine nI_inR ?_ ?_ ?_ <;> omega)) only [x162, e162_0, e162_1, e162_4, e162_5, e162_6, e162_7, e162_10, e162_11, e162_14, e162_15, e162_19, e162_20, e162_23, e162_24, e162_27, e162_28, e162_29, e162_32, e162_33, e162_36, e162_37, e162_38, e162_41, e162_42, e162_44, e162_47, e162_48, e162_51, e162_52, e162_53, e162_54, e162_56, e162_57, e162_60, e162_61, e162_64, e162_65, e162_66, e162_69, e162_70, e162_73, e162_76, e162_77, e162_79, e162_82, e162_83, e162_86, e162_89, e162_90, e162_92, e162_132, e162_133, e162_134, e162_137, e162_138, e162_139, e162_140, e162_143, e162_144, e162_145, e162_148, e162_149, e162_150, e162_151, e162_154, e162_155, e162_156, e162_157, e162_160, e162_161, e162_162, e162_165, e162_166, e162_167, e162_168, e162_171, e162_172, e162_173, e162_174, e162_177, e162_178, e162_179, e162_182, e162_183, e162_184, e162_185, e162_188, e162_189, e162_190, e162_191, e162_194, e162_195, e162_196, e162_197, e162_200, e162_201, e162_202, e162_205, e162_206, e162_207, e162_208, e162_211, e162_212, e162_213, e162_216, e162_217, e162_218, e162_221, e162_222, e162_223, e162_224, e162_227, e162_228, e162_229, e162_232, kv_s, kh_s, kn_s, kc_v, kc_n, MO_isO, MO_f0, MO_f1, MO_f2, MO_f3, MO_f4, MO_f5, MO_f6, MO_f7, MO_f8, MO_f9, MO_f10, MO_f11, MO_f12, MO_f13, MO_f14, MO_i0, MO_i1, MO_i2, MO_i3, MO_i4, MO_i5, MO_j0, MO_j1, MO_j2, MO_j3, MO_wi0, MO_wi1, MO_wi2, MO_wi3, MO_wi4, MO_wi5, MO_wj0, MO_wj1, MO_wj2, MO_wj3, MO_k0, MO_k1, MO_k2, MO_k3, MO_k4, Nat.reduceEqDiff, Nat.one_ne_zero, Nat.reduceLT, Nat.reduceLeDiff, Nat.reduceAdd, Nat.reduceSub, Nat.reduceMul, nI_add, nI_leI, nI_ltI, nI_eq, z_eq, z_lt, z_le, z_gt, z_ge, ↓reduceIte, not_true_eq_false, not_false_eq_true, if_true, if_false, kk_0, kk_1, kk_2, kk_3, kk_w2, kk_w3, e63]
    rw [eM, e]
  · rw [w1] at e63
    obtain ⟨ι', q, e, i1⟩ := key (-1) 2 0 (p + c) (by omega) (by omega) (by omega) (.inl rfl)
    refine ⟨ι', q, ?_, i1⟩
    have d5 : ¬ (-1 : Int32) = nI 5 := by decide
    have d3 : ¬ (-1 : Int32) = nI 3 := by decide
    have d4 : ¬ (-1 : Int32) = nI 4 := by decide
    have d6 : ¬ (-1 : Int32) = nI 6 := by decide
    simp (disch := first | omega | assumption | exact MO_isO _ _ _ _ | (refine b30 ?_; omega) | (refine nI_inR ?_ ?_ ?_ <;> omega)) only [x162, e162_0, e162_1, e162_4, e162_5, e162_6, e162_7, e162_10, e162_11, e162_14, e162_15, e162_18, e162_19, e162_20, e162_23, e162_24, e162_27, e162_28, e162_29, e162_32, e162_33, e162_36, e162_37, e162_38, e162_41, e162_42, e162_44, e162_47, e162_48, e162_51, e162_52, e162_53, e162_54, e162_56, e162_57, e162_60, e162_61, e162_64, e162_65, e162_66, e162_69, e162_70, e162_73, e162_76, e162_77, e162_79, e162_82, e162_83, e162_86, e162_89, e162_90, e162_92, e162_132, e162_133, e162_134, e162_137, e162_138, e162_139, e162_140, e162_143, e162_144, e162_145, e162_148, e162_149, e162_150, e162_151, e162_154, e162_155, e162_156, e162_157, e162_160, e162_161, e162_162, e162_165, e162_166, e162_167, e162_168, e162_171, e162_172, e162_173, e162_174, e162_177, e162_178, e162_179, e162_182, e162_183, e162_184, e162_185, e162_188, e162_189, e162_190, e162_191, e162_194, e162_195, e162_196, e162_197, e162_200, e162_201, e162_202, e162_205, e162_206, e162_207, e162_208, e162_211, e162_212, e162_213, e162_216, e162_217, e162_218, e162_221, e162_222, e162_223, e162_224, e162_227, e162_228, e162_229, e162_232, kv_s, kh_s, kn_s, kc_v, kc_n, MO_isO, MO_f0, MO_f1, MO_f2, MO_f3, MO_f4, MO_f5, MO_f6, MO_f7, MO_f8, MO_f9, MO_f10, MO_f11, MO_f12, MO_f13, MO_f14, MO_i0, MO_i1, MO_i2, MO_i3, MO_i4, MO_i5, MO_j0, MO_j1, MO_j2, MO_j3, MO_wi0, MO_wi1, MO_wi2, MO_wi3, MO_wi4, MO_wi5, MO_wj0, MO_wj1, MO_wj2, MO_wj3, MO_k0, MO_k1, MO_k2, MO_k3, MO_k4, Nat.reduceEqDiff, Nat.one_ne_zero, Nat.reduceLT, Nat.reduceLeDiff, Nat.reduceAdd, Nat.reduceSub, Nat.reduceMul, nI_add, nI_leI, nI_ltI, nI_eq, z_eq, z_lt, z_le, z_gt, z_ge, ↓reduceIte, not_true_eq_false, not_false_eq_true, if_true, if_false, kk_0, kk_1, kk_2, kk_3, kk_w2, kk_w3, e63, hn1, d5, d3, d4, d6]
    exact e
end
