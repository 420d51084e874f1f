-- PART 47: the reference's methods, fourteenth: the best way
def okR (a : sT) (p : Nat) (z : jT) (u : Nat → Nat) : Prop := (∀ n, n < 7 → z 2 n = pw a n) ∧ (∀ n, n ≤ p → ∀ k, k < 21 → z 0 (21 * n + k) = lsT a n k) ∧ (∀ n, 1 ≤ n → n ≤ p → ∀ k, k < 21 → z 1 (21 * n + k) = vlT a n k ∧ u (21 * n + k) = btT a n k)
section
variable (H : pi_H) (κ : kT) (a : sT)
theorem l138 (ι : sT) (z : jT) (p n k : Nat) (hn : n < 7) (hk : k < 21) (h0 : z 2 n = pw a n) (hc : a 1 0 < 2 ^ 31) : ∀ j, k + j ≤ 20 → ∀ v8 : Option Value, ∃ v8' : Option Value, ev 138 75 [some (.ref 77), some (.int (nI p)), some (.int (nI n)), some (.int (nI k)), some (.int (nI k)), some (.long (z 1 (21 * n + k))), none, some (.int (nI (k + 1))), v8, none] [] (MO H (u1 ι 0 (flat a)) z κ) = ev 138 75 [some (.ref 77), some (.int (nI p)), some (.int (nI n)), some (.int (nI k)), some (.int (nI (bs (fun y => z 1 (21 * n + y)) (lN (a 1 0) * pw a n) k j).1)), some (.long (bs (fun y => z 1 (21 * n + y)) (lN (a 1 0) * pw a n) k j).2), none, some (.int (nI (k + 1 + j))), v8', none] [] (MO H (u1 ι 0 (flat a)) z κ) := by
  intro j
  induction j with
  | zero =>
    intro _ v8
    exact ⟨v8, rfl⟩
  | succ j ih =>
    intro hj v8
    obtain ⟨v8', e⟩ := ih (by omega) v8
    have ec : pw a n * lN (a 1 0) = lN (a 1 0) * pw a n := Int64.mul_comm _ _
    have eb : bs (fun y => z 1 (21 * n + y)) (lN (a 1 0) * pw a n) k (j + 1) = if z 1 (21 * n + (k + 1 + j)) + lN (a 1 0) * pw a n < (bs (fun y => z 1 (21 * n + y)) (lN (a 1 0) * pw a n) k j).2 then (k + 1 + j, z 1 (21 * n + (k + 1 + j)) + lN (a 1 0) * pw a n) else bs (fun y => z 1 (21 * n + y)) (lN (a 1 0) * pw a n) k j := rfl
    refine ⟨some (.long (z 1 (21 * n + (k + 1 + j)) + lN (a 1 0) * pw a n)), ?_⟩
    rw [e, e138_75, eb]
    by_cases h : z 1 (21 * n + (k + 1 + j)) + lN (a 1 0) * pw a n < (bs (fun y => z 1 (21 * n + y)) (lN (a 1 0) * pw a n) k j).2
    · simp (disch := first | omega | assumption | exact MO_isO _ _ _ _ | (refine b30 ?_; omega) | (refine nI_inR ?_ ?_ ?_ <;> omega)) only [x138, e138_0, e138_1, e138_4, e138_5, e138_7, e138_8, e138_11, e138_12, e138_14, e138_16, e138_19, e138_20, e138_23, e138_25, e138_26, e138_27, e138_28, e138_29, e138_30, e138_31, e138_34, e138_35, e138_36, e138_39, e138_40, e138_43, e138_46, e138_47, e138_49, e138_51, e138_54, e138_55, e138_57, e138_58, e138_61, e138_63, e138_64, e138_65, e138_66, e138_67, e138_68, e138_70, e138_71, e138_72, e138_73, e138_77, e138_79, e138_82, e138_83, e138_86, e138_88, e138_89, e138_90, e138_92, e138_93, e138_94, e138_95, e138_98, e138_99, e138_100, e138_101, e138_104, e138_106, e138_107, e138_108, e138_109, e138_110, e138_112, e138_114, e138_116, e138_117, e138_120, e138_122, e138_125, e138_127, e138_129, e138_131, e138_133, e138_134, e138_137, e138_139, e138_142, e138_144, e138_146, e138_149, e138_152, e138_153, e138_156, e138_158, e138_159, e138_160, e138_161, e138_162, e138_164, e138_165, e138_166, e138_169, e138_171, e138_172, e138_173, e138_174, e138_175, e138_177, e138_178, e138_181, e138_182, e138_183, e138_184, e138_187, e138_189, e138_190, e138_191, e138_192, e138_193, e138_194, e138_195, e138_196, e138_197, e138_200, e138_203, e138_206, e138_209, kv_s, kh_s, kn_s, kc_v, kc_n, MO_isO, MO_f0, MO_f1, MO_f2, MO_f3, MO_f4, MO_f5, MO_f6, MO_f7, MO_f8, MO_f9, MO_f10, MO_f11, MO_f12, MO_f13, MO_f14, MO_i0, MO_i1, MO_i2, MO_i3, MO_i4, MO_i5, MO_j0, MO_j1, MO_j2, MO_j3, fl7, fl8, fl9, fl10, fl11, fl24, fl25, fl26, fl27, fl28, fl29, fl30, fl31, fl32, fl33, upN_app, Nat.reduceEqDiff, Nat.one_ne_zero, Nat.reduceLT, Nat.reduceLeDiff, Nat.reduceAdd, Nat.reduceSub, Nat.reduceMul, nI_add, nI_leI, nI_ltI, nI_eq, z_eq, z_lt, z_le, z_gt, z_ge, ↓reduceIte, not_true_eq_false, not_false_eq_true, if_true, if_false, u1_0, pk_mul, nI_l, h0, ec, cmp_ge, h, show ¬ 21 ≤ k + 1 + j by omega]
      rfl
    · simp (disch := first | omega | assumption | exact MO_isO _ _ _ _ | (refine b30 ?_; omega) | (refine nI_inR ?_ ?_ ?_ <;> omega)) only [x138, e138_0, e138_1, e138_4, e138_5, e138_7, e138_8, e138_11, e138_12, e138_14, e138_16, e138_19, e138_20, e138_23, e138_25, e138_26, e138_27, e138_28, e138_29, e138_30, e138_31, e138_34, e138_35, e138_36, e138_39, e138_40, e138_43, e138_46, e138_47, e138_49, e138_51, e138_54, e138_55, e138_57, e138_58, e138_61, e138_63, e138_64, e138_65, e138_66, e138_67, e138_68, e138_70, e138_71, e138_72, e138_73, e138_77, e138_79, e138_82, e138_83, e138_86, e138_88, e138_89, e138_90, e138_92, e138_93, e138_94, e138_95, e138_98, e138_99, e138_100, e138_101, e138_104, e138_106, e138_107, e138_108, e138_109, e138_110, e138_112, e138_114, e138_116, e138_117, e138_120, e138_122, e138_125, e138_127, e138_129, e138_131, e138_133, e138_134, e138_137, e138_139, e138_142, e138_144, e138_146, e138_149, e138_152, e138_153, e138_156, e138_158, e138_159, e138_160, e138_161, e138_162, e138_164, e138_165, e138_166, e138_169, e138_171, e138_172, e138_173, e138_174, e138_175, e138_177, e138_178, e138_181, e138_182, e138_183, e138_184, e138_187, e138_189, e138_190, e138_191, e138_192, e138_193, e138_194, e138_195, e138_196, e138_197, e138_200, e138_203, e138_206, e138_209, kv_s, kh_s, kn_s, kc_v, kc_n, MO_isO, MO_f0, MO_f1, MO_f2, MO_f3, MO_f4, MO_f5, MO_f6, MO_f7, MO_f8, MO_f9, MO_f10, MO_f11, MO_f12, MO_f13, MO_f14, MO_i0, MO_i1, MO_i2, MO_i3, MO_i4, MO_i5, MO_j0, MO_j1, MO_j2, MO_j3, fl7, fl8, fl9, fl10, fl11, fl24, fl25, fl26, fl27, fl28, fl29, fl30, fl31, fl32, fl33, upN_app, Nat.reduceEqDiff, Nat.one_ne_zero, Nat.reduceLT, Nat.reduceLeDiff, Nat.reduceAdd, Nat.reduceSub, Nat.reduceMul, nI_add, nI_leI, nI_ltI, nI_eq, z_eq, z_lt, z_le, z_gt, z_ge, ↓reduceIte, not_true_eq_false, not_false_eq_true, if_true, if_false, u1_0, pk_mul, nI_l, h0, ec, cmp_ge, h, show ¬ 21 ≤ k + 1 + j by omega]
      rfl
theorem m138 (ok : okA a) (ι : sT) (z : jT) (p : Nat) (hp7 : p < 7) : ∃ (ι' : sT) (z' : jT), ex 138 [.ref 77, .int (nI p)] (MO H (u1 ι 0 (flat a)) z κ) = some (none, MO H (u1 ι' 0 (flat a)) z' κ) ∧ okR a p z' (ι' 4) ∧ (∀ t, t ≠ 4 → ι' t = ι t) := by
  have l1 : ∀ q, q ≤ p → ∃ (ι' : sT) (z' : jT) (v3 v4 v5 v7 v8 : Option Value), ex 138 [.ref 77, .int (nI p)] (MO H (u1 ι 0 (flat a)) z κ) = ev 138 6 [some (.ref 77), some (.int (nI p)), some (.int (nI (q + 1))), v3, v4, v5, none, v7, v8, none] [] (MO H (u1 ι' 0 (flat a)) z' κ) ∧ okR a q z' (ι' 4) ∧ (∀ t, t ≠ 4 → ι' t = ι t) := by
    intro q
    induction q with
    | zero =>
      intro _
      obtain ⟨z1, e1, j1, j2, j3⟩ := m139 H ι κ a ok z
      refine ⟨ι, z1, none, none, none, none, none, ?_, ⟨j1, ?_, fun n h1 h2 => absurd h1 (by omega)⟩, fun _ _ => rfl⟩
      · simp (disch := first | omega | assumption | exact MO_isO _ _ _ _ | (refine b30 ?_; omega) | (refine nI_inR ?_ ?_ ?_ <;> omega)) only [x138, e138_0, e138_1, e138_4, e138_5, e138_7, e138_8, e138_11, e138_12, e138_14, e138_16, e138_19, e138_20, e138_23, e138_25, e138_26, e138_27, e138_28, e138_29, e138_30, e138_31, e138_34, e138_35, e138_36, e138_39, e138_40, e138_43, e138_46, e138_47, e138_49, e138_51, e138_54, e138_55, e138_57, e138_58, e138_61, e138_63, e138_64, e138_65, e138_66, e138_67, e138_68, e138_70, e138_71, e138_72, e138_73, e138_77, e138_79, e138_82, e138_83, e138_86, e138_88, e138_89, e138_90, e138_92, e138_93, e138_94, e138_95, e138_98, e138_99, e138_100, e138_101, e138_104, e138_106, e138_107, e138_108, e138_109, e138_110, e138_112, e138_114, e138_116, e138_117, e138_120, e138_122, e138_125, e138_127, e138_129, e138_131, e138_133, e138_134, e138_137, e138_139, e138_142, e138_144, e138_146, e138_149, e138_152, e138_153, e138_156, e138_158, e138_159, e138_160, e138_161, e138_162, e138_164, e138_165, e138_166, e138_169, e138_171, e138_172, e138_173, e138_174, e138_175, e138_177, e138_178, e138_181, e138_182, e138_183, e138_184, e138_187, e138_189, e138_190, e138_191, e138_192, e138_193, e138_194, e138_195, e138_196, e138_197, e138_200, e138_203, e138_206, e138_209, kv_s, kh_s, kn_s, kc_v, kc_n, Nat.reduceEqDiff, Nat.one_ne_zero, Nat.reduceLT, Nat.reduceLeDiff, Nat.reduceAdd, Nat.reduceSub, Nat.reduceMul, nI_add, nI_leI, nI_ltI, nI_eq, z_eq, z_lt, z_le, z_gt, z_ge, ↓reduceIte, not_true_eq_false, not_false_eq_true, if_true, if_false, e1, Nat.zero_add]
      · intro n hn k hk
        rw [show n = 0 by omega, Nat.mul_zero, Nat.zero_add, j2 k hk]
        rfl
    | succ q ih =>
      intro hq
      obtain ⟨ι', z', v3, v4, v5, v7, v8, e, ⟨k0, k1, k2⟩, k3⟩ := ih (by omega)
      have c0 : a 1 0 < 2 ^ 31 := by have := ok.2.1.1; omega
      have c1 : a 1 1 < 2 ^ 31 := by have := ok.2.1.2.1; omega
      have l2 : ∀ y, y ≤ 21 → ∃ z2 : jT, ex 138 [.ref 77, .int (nI p)] (MO H (u1 ι 0 (flat a)) z κ) = ev 138 13 [some (.ref 77), some (.int (nI p)), some (.int (nI (q + 1))), some (.int (nI y)), v4, v5, none, v7, v8, none] [] (MO H (u1 ι' 0 (flat a)) z2 κ) ∧ (∀ t, ¬ t = 1 → z2 t = z' t) ∧ (∀ i, i < 21 * (q + 1) → z2 1 i = z' 1 i) ∧ (∀ i, i < y → z2 1 (21 * (q + 1) + i) = vlT a (q + 1) i) := by
        intro y
        induction y with
        | zero =>
          intro _
          refine ⟨z', ?_, fun _ _ => rfl, fun _ _ => rfl, fun i hi => absurd hi (by omega)⟩
          rw [e, e138_6]
          simp (disch := first | omega | assumption | exact MO_isO _ _ _ _ | (refine b30 ?_; omega) | (refine nI_inR ?_ ?_ ?_ <;> omega)) only [x138, e138_0, e138_1, e138_4, e138_5, e138_7, e138_8, e138_11, e138_12, e138_14, e138_16, e138_19, e138_20, e138_23, e138_25, e138_26, e138_27, e138_28, e138_29, e138_30, e138_31, e138_34, e138_35, e138_36, e138_39, e138_40, e138_43, e138_46, e138_47, e138_49, e138_51, e138_54, e138_55, e138_57, e138_58, e138_61, e138_63, e138_64, e138_65, e138_66, e138_67, e138_68, e138_70, e138_71, e138_72, e138_73, e138_77, e138_79, e138_82, e138_83, e138_86, e138_88, e138_89, e138_90, e138_92, e138_93, e138_94, e138_95, e138_98, e138_99, e138_100, e138_101, e138_104, e138_106, e138_107, e138_108, e138_109, e138_110, e138_112, e138_114, e138_116, e138_117, e138_120, e138_122, e138_125, e138_127, e138_129, e138_131, e138_133, e138_134, e138_137, e138_139, e138_142, e138_144, e138_146, e138_149, e138_152, e138_153, e138_156, e138_158, e138_159, e138_160, e138_161, e138_162, e138_164, e138_165, e138_166, e138_169, e138_171, e138_172, e138_173, e138_174, e138_175, e138_177, e138_178, e138_181, e138_182, e138_183, e138_184, e138_187, e138_189, e138_190, e138_191, e138_192, e138_193, e138_194, e138_195, e138_196, e138_197, e138_200, e138_203, e138_206, e138_209, kv_s, kh_s, kn_s, kc_v, kc_n, Nat.reduceEqDiff, Nat.one_ne_zero, Nat.reduceLT, Nat.reduceLeDiff, Nat.reduceAdd, Nat.reduceSub, Nat.reduceMul, nI_add, nI_leI, nI_ltI, nI_eq, z_eq, z_lt, z_le, z_gt, z_ge, ↓reduceIte, not_true_eq_false, not_false_eq_true, if_true, if_false, show ¬ p < q + 1 by omega]
        | succ y ih2 =>
          intro hy
          obtain ⟨z2, e2, i0, i1, i2⟩ := ih2 (by omega)
          have e40 := m140 H ι' κ a ok z2 q y 82 (by omega) (by omega) (z2 0) (by omega) rfl (MO_c5 H _ κ z2) (fun n hn => by rw [i0 2 (by omega), k0 n hn])
          refine ⟨ul z2 1 (21 * (q + 1) + y) (vl a q (fun k => z2 0 (21 * q + k)) y), ?_, ?_, ?_, ?_⟩
          · rw [e2, e138_13]
            simp (disch := first | omega | assumption | exact MO_isO _ _ _ _ | (refine b30 ?_; omega) | (refine nI_inR ?_ ?_ ?_ <;> omega)) only [x138, e138_0, e138_1, e138_4, e138_5, e138_7, e138_8, e138_11, e138_12, e138_14, e138_16, e138_19, e138_20, e138_23, e138_25, e138_26, e138_27, e138_28, e138_29, e138_30, e138_31, e138_34, e138_35, e138_36, e138_39, e138_40, e138_43, e138_46, e138_47, e138_49, e138_51, e138_54, e138_55, e138_57, e138_58, e138_61, e138_63, e138_64, e138_65, e138_66, e138_67, e138_68, e138_70, e138_71, e138_72, e138_73, e138_77, e138_79, e138_82, e138_83, e138_86, e138_88, e138_89, e138_90, e138_92, e138_93, e138_94, e138_95, e138_98, e138_99, e138_100, e138_101, e138_104, e138_106, e138_107, e138_108, e138_109, e138_110, e138_112, e138_114, e138_116, e138_117, e138_120, e138_122, e138_125, e138_127, e138_129, e138_131, e138_133, e138_134, e138_137, e138_139, e138_142, e138_144, e138_146, e138_149, e138_152, e138_153, e138_156, e138_158, e138_159, e138_160, e138_161, e138_162, e138_164, e138_165, e138_166, e138_169, e138_171, e138_172, e138_173, e138_174, e138_175, e138_177, e138_178, e138_181, e138_182, e138_183, e138_184, e138_187, e138_189, e138_190, e138_191, e138_192, e138_193, e138_194, e138_195, e138_196, e138_197, e138_200, e138_203, e138_206, e138_209, kv_s, kh_s, kn_s, kc_v, kc_n, MO_isO, MO_f0, MO_f1, MO_f2, MO_f3, MO_f4, MO_f5, MO_f6, MO_f7, MO_f8, MO_f9, MO_f10, MO_f11, MO_f12, MO_f13, MO_f14, MO_i0, MO_i1, MO_i2, MO_i3, MO_i4, MO_i5, MO_j0, MO_j1, MO_j2, MO_j3, MO_wi0, MO_wi1, MO_wi2, MO_wi3, MO_wi4, MO_wi5, MO_wj0, MO_wj1, MO_wj2, MO_wj3, MO_k0, MO_k1, MO_k2, MO_k3, MO_k4, Nat.reduceEqDiff, Nat.one_ne_zero, Nat.reduceLT, Nat.reduceLeDiff, Nat.reduceAdd, Nat.reduceSub, Nat.reduceMul, nI_add, nI_leI, nI_ltI, nI_eq, z_eq, z_lt, z_le, z_gt, z_ge, ↓reduceIte, not_true_eq_false, not_false_eq_true, if_true, if_false, u1_0, pk_mul, e40, show ¬ 21 ≤ y by omega]
          · intro t ht
            rw [ul_ne _ _ _ _ _ ht, i0 t ht]
          · intro i hi
            rw [ul_neq _ _ _ _ _ _ (by omega), i1 i hi]
          · intro i hi
            rw [ul_app]
            by_cases h : i = y
            · subst h
              rw [if_pos ⟨rfl, rfl⟩]
              show vl a q _ i = vl a (q + 1 - 1) (lsT a (q + 1 - 1)) i
              unfold vl
              rw [Nat.add_sub_cancel, cb_congr a (fun k => z2 0 (21 * q + k)) (lsT a q) q i (fun k hk => by
                show z2 0 (21 * q + k) = _
                rw [i0 0 (by omega), k1 q (by omega) k (by omega)])]
            · rw [if_neg (by omega), i2 i (by omega)]
      obtain ⟨z2, e2, i0, i1, i2⟩ := l2 21 (by omega)
      have hv : ∀ y, y < 21 → (fun y => z2 1 (21 * (q + 1) + y)) y = vlT a (q + 1) y := i2
      have l3 : ∀ k, k ≤ 21 → ∃ (ι3 : sT) (z3 : jT) (w4 w5 w7 w8 : Option Value), ex 138 [.ref 77, .int (nI p)] (MO H (u1 ι 0 (flat a)) z κ) = ev 138 48 [some (.ref 77), some (.int (nI p)), some (.int (nI (q + 1))), some (.int (nI k)), w4, w5, none, w7, w8, none] [] (MO H (u1 ι3 0 (flat a)) z3 κ) ∧ (∀ t, ¬ t = 0 → z3 t = z2 t) ∧ (∀ i, i < 21 * (q + 1) → z3 0 i = z2 0 i) ∧ (∀ i, i < k → z3 0 (21 * (q + 1) + i) = lsT a (q + 1) i) ∧ (∀ i, i < 21 * (q + 1) → ι3 4 i = ι' 4 i) ∧ (∀ i, i < k → ι3 4 (21 * (q + 1) + i) = btT a (q + 1) i) ∧ (∀ t, t ≠ 4 → ι3 t = ι' t) := by
        intro k
        induction k with
        | zero =>
          intro _
          refine ⟨ι', z2, v4, v5, v7, v8, ?_, fun _ _ => rfl, fun _ _ => rfl, fun i hi => absurd hi (by omega), fun _ _ => rfl, fun i hi => absurd hi (by omega), fun _ _ => rfl⟩
          rw [e2, e138_13]
          simp (disch := first | omega | assumption | exact MO_isO _ _ _ _ | (refine b30 ?_; omega) | (refine nI_inR ?_ ?_ ?_ <;> omega)) only [x138, e138_0, e138_1, e138_4, e138_5, e138_7, e138_8, e138_11, e138_12, e138_14, e138_16, e138_19, e138_20, e138_23, e138_25, e138_26, e138_27, e138_28, e138_29, e138_30, e138_31, e138_34, e138_35, e138_36, e138_39, e138_40, e138_43, e138_46, e138_47, e138_49, e138_51, e138_54, e138_55, e138_57, e138_58, e138_61, e138_63, e138_64, e138_65, e138_66, e138_67, e138_68, e138_70, e138_71, e138_72, e138_73, e138_77, e138_79, e138_82, e138_83, e138_86, e138_88, e138_89, e138_90, e138_92, e138_93, e138_94, e138_95, e138_98, e138_99, e138_100, e138_101, e138_104, e138_106, e138_107, e138_108, e138_109, e138_110, e138_112, e138_114, e138_116, e138_117, e138_120, e138_122, e138_125, e138_127, e138_129, e138_131, e138_133, e138_134, e138_137, e138_139, e138_142, e138_144, e138_146, e138_149, e138_152, e138_153, e138_156, e138_158, e138_159, e138_160, e138_161, e138_162, e138_164, e138_165, e138_166, e138_169, e138_171, e138_172, e138_173, e138_174, e138_175, e138_177, e138_178, e138_181, e138_182, e138_183, e138_184, e138_187, e138_189, e138_190, e138_191, e138_192, e138_193, e138_194, e138_195, e138_196, e138_197, e138_200, e138_203, e138_206, e138_209, kv_s, kh_s, kn_s, kc_v, kc_n, Nat.reduceEqDiff, Nat.one_ne_zero, Nat.reduceLT, Nat.reduceLeDiff, Nat.reduceAdd, Nat.reduceSub, Nat.reduceMul, nI_add, nI_leI, nI_ltI, nI_eq, z_eq, z_lt, z_le, z_gt, z_ge, ↓reduceIte, not_true_eq_false, not_false_eq_true, if_true, if_false]
        | succ k ih3 =>
          intro hk
          obtain ⟨ι3, z3, w4, w5, w7, w8, e3, j0, j1, j2, j3, j4, j5⟩ := ih3 (by omega)
          have g0 : z3 2 (q + 1) = pw a (q + 1) := by rw [j0 2 (by omega), i0 2 (by omega), k0 _ (by omega)]
          have g1 : z3 1 = z2 1 := j0 1 (by omega)
          obtain ⟨v8', e4⟩ := l138 H κ a ι3 z3 p (q + 1) k (by omega) (by omega) g0 c0 (20 - k) (by omega) w8
          rw [g1, bs_congr (fun y => z2 1 (21 * (q + 1) + y)) (vlT a (q + 1)) (lN (a 1 0) * pw a (q + 1)) k (by omega) hv (20 - k) (by omega)] at e4
          have hl := bs_le (vlT a (q + 1)) (lN (a 1 0) * pw a (q + 1)) k (20 - k)
          have eq2 : (bs (vlT a (q + 1)) (lN (a 1 0) * pw a (q + 1)) k (20 - k)).2 - pw a (q + 1) * lN (a 1 1) * lN k = lsT a (q + 1) k := by
            show _ = (bs (vlT a (q + 1)) (lN (a 1 0) * pw a (q + 1)) k (20 - k)).2 - lN (a 1 1 * k) * pw a (q + 1)
            rw [← lN_mul]
            grind
          have eq1 : (bs (vlT a (q + 1)) (lN (a 1 0) * pw a (q + 1)) k (20 - k)).1 = btT a (q + 1) k := rfl
          refine ⟨u2 ι3 4 (21 * (q + 1) + k) (btT a (q + 1) k), ul z3 0 (21 * (q + 1) + k) (lsT a (q + 1) k), some (.int (nI (btT a (q + 1) k))), some (.long (bs (vlT a (q + 1)) (lN (a 1 0) * pw a (q + 1)) k (20 - k)).2), some (.int (nI (k + 1 + (20 - k)))), v8', ?_, ?_, ?_, ?_, ?_, ?_, ?_⟩
          · rw [e3, e138_48]
            simp (disch := first | omega | assumption | exact MO_isO _ _ _ _ | (refine b30 ?_; omega) | (refine nI_inR ?_ ?_ ?_ <;> omega)) only [x138, e138_0, e138_1, e138_4, e138_5, e138_7, e138_8, e138_11, e138_12, e138_14, e138_16, e138_19, e138_20, e138_23, e138_25, e138_26, e138_27, e138_28, e138_29, e138_30, e138_31, e138_34, e138_35, e138_36, e138_39, e138_40, e138_43, e138_46, e138_47, e138_49, e138_51, e138_54, e138_55, e138_57, e138_58, e138_61, e138_63, e138_64, e138_65, e138_66, e138_67, e138_68, e138_70, e138_71, e138_72, e138_73, e138_77, e138_79, e138_82, e138_83, e138_86, e138_88, e138_89, e138_90, e138_92, e138_93, e138_94, e138_95, e138_98, e138_99, e138_100, e138_101, e138_104, e138_106, e138_107, e138_108, e138_109, e138_110, e138_112, e138_114, e138_116, e138_117, e138_120, e138_122, e138_125, e138_127, e138_129, e138_131, e138_133, e138_134, e138_137, e138_139, e138_142, e138_144, e138_146, e138_149, e138_152, e138_153, e138_156, e138_158, e138_159, e138_160, e138_161, e138_162, e138_164, e138_165, e138_166, e138_169, e138_171, e138_172, e138_173, e138_174, e138_175, e138_177, e138_178, e138_181, e138_182, e138_183, e138_184, e138_187, e138_189, e138_190, e138_191, e138_192, e138_193, e138_194, e138_195, e138_196, e138_197, e138_200, e138_203, e138_206, e138_209, kv_s, kh_s, kn_s, kc_v, kc_n, MO_isO, MO_f0, MO_f1, MO_f2, MO_f3, MO_f4, MO_f5, MO_f6, MO_f7, MO_f8, MO_f9, MO_f10, MO_f11, MO_f12, MO_f13, MO_f14, MO_i0, MO_i1, MO_i2, MO_i3, MO_i4, MO_i5, MO_j0, MO_j1, MO_j2, MO_j3, Nat.reduceEqDiff, Nat.one_ne_zero, Nat.reduceLT, Nat.reduceLeDiff, Nat.reduceAdd, Nat.reduceSub, Nat.reduceMul, nI_add, nI_leI, nI_ltI, nI_eq, z_eq, z_lt, z_le, z_gt, z_ge, ↓reduceIte, not_true_eq_false, not_false_eq_true, if_true, if_false, pk_mul, g1, show ¬ 21 ≤ k by omega]
            rw [e4, e138_75]
            simp (disch := first | omega | assumption | exact MO_isO _ _ _ _ | (refine b30 ?_; omega) | (refine nI_inR ?_ ?_ ?_ <;> omega)) only [x138, e138_0, e138_1, e138_4, e138_5, e138_7, e138_8, e138_11, e138_12, e138_14, e138_16, e138_19, e138_20, e138_23, e138_25, e138_26, e138_27, e138_28, e138_29, e138_30, e138_31, e138_34, e138_35, e138_36, e138_39, e138_40, e138_43, e138_46, e138_47, e138_49, e138_51, e138_54, e138_55, e138_57, e138_58, e138_61, e138_63, e138_64, e138_65, e138_66, e138_67, e138_68, e138_70, e138_71, e138_72, e138_73, e138_77, e138_79, e138_82, e138_83, e138_86, e138_88, e138_89, e138_90, e138_92, e138_93, e138_94, e138_95, e138_98, e138_99, e138_100, e138_101, e138_104, e138_106, e138_107, e138_108, e138_109, e138_110, e138_112, e138_114, e138_116, e138_117, e138_120, e138_122, e138_125, e138_127, e138_129, e138_131, e138_133, e138_134, e138_137, e138_139, e138_142, e138_144, e138_146, e138_149, e138_152, e138_153, e138_156, e138_158, e138_159, e138_160, e138_161, e138_162, e138_164, e138_165, e138_166, e138_169, e138_171, e138_172, e138_173, e138_174, e138_175, e138_177, e138_178, e138_181, e138_182, e138_183, e138_184, e138_187, e138_189, e138_190, e138_191, e138_192, e138_193, e138_194, e138_195, e138_196, e138_197, e138_200, e138_203, e138_206, e138_209, kv_s, kh_s, kn_s, kc_v, kc_n, MO_isO, MO_f0, MO_f1, MO_f2, MO_f3, MO_f4, MO_f5, MO_f6, MO_f7, MO_f8, MO_f9, MO_f10, MO_f11, MO_f12, MO_f13, MO_f14, MO_i0, MO_i1, MO_i2, MO_i3, MO_i4, MO_i5, MO_j0, MO_j1, MO_j2, MO_j3, MO_wi0, MO_wi1, MO_wi2, MO_wi3, MO_wi4, MO_wi5, MO_wj0, MO_wj1, MO_wj2, MO_wj3, MO_k0, MO_k1, MO_k2, MO_k3, MO_k4, fl7, fl8, fl9, fl10, fl11, fl24, fl25, fl26, fl27, fl28, fl29, fl30, fl31, fl32, fl33, upN_app, Nat.reduceEqDiff, Nat.one_ne_zero, Nat.reduceLT, Nat.reduceLeDiff, Nat.reduceAdd, Nat.reduceSub, Nat.reduceMul, nI_add, nI_leI, nI_ltI, nI_eq, z_eq, z_lt, z_le, z_gt, z_ge, ↓reduceIte, not_true_eq_false, not_false_eq_true, if_true, if_false, u1_0, pk_mul, nI_l, g0, show 21 ≤ k + 1 + (20 - k) by omega, u2_u1n, ne_eq, Nat.reduceEqDiff, not_false_eq_true, eq2]
            rw [eq1]
          · intro t ht
            rw [ul_ne _ _ _ _ _ ht, j0 t ht]
          · intro i hi
            rw [ul_neq _ _ _ _ _ _ (by omega), j1 i hi]
          · intro i hi
            rw [ul_app]
            by_cases h : i = k
            · rw [if_pos ⟨rfl, by omega⟩, h]
            · rw [if_neg (by omega), j2 i (by omega)]
          · intro i hi
            rw [u2_app, if_neg (by omega), j3 i hi]
          · intro i hi
            rw [u2_app]
            by_cases h : i = k
            · rw [if_pos ⟨rfl, by omega⟩, h]
            · rw [if_neg (by omega), j4 i (by omega)]
          · intro t ht
            rw [u2_ne _ _ _ _ _ ht, j5 t ht]
      obtain ⟨ι3, z3, w4, w5, w7, w8, e3, j0, j1, j2, j3, j4, j5⟩ := l3 21 (by omega)
      refine ⟨ι3, z3, some (.int (nI 21)), w4, w5, w7, w8, ?_, ⟨?_, ?_, ?_⟩, ?_⟩
      · rw [e3, e138_48]
        simp (disch := first | omega | assumption | exact MO_isO _ _ _ _ | (refine b30 ?_; omega) | (refine nI_inR ?_ ?_ ?_ <;> omega)) only [x138, e138_0, e138_1, e138_4, e138_5, e138_7, e138_8, e138_11, e138_12, e138_14, e138_16, e138_19, e138_20, e138_23, e138_25, e138_26, e138_27, e138_28, e138_29, e138_30, e138_31, e138_34, e138_35, e138_36, e138_39, e138_40, e138_43, e138_46, e138_47, e138_49, e138_51, e138_54, e138_55, e138_57, e138_58, e138_61, e138_63, e138_64, e138_65, e138_66, e138_67, e138_68, e138_70, e138_71, e138_72, e138_73, e138_77, e138_79, e138_82, e138_83, e138_86, e138_88, e138_89, e138_90, e138_92, e138_93, e138_94, e138_95, e138_98, e138_99, e138_100, e138_101, e138_104, e138_106, e138_107, e138_108, e138_109, e138_110, e138_112, e138_114, e138_116, e138_117, e138_120, e138_122, e138_125, e138_127, e138_129, e138_131, e138_133, e138_134, e138_137, e138_139, e138_142, e138_144, e138_146, e138_149, e138_152, e138_153, e138_156, e138_158, e138_159, e138_160, e138_161, e138_162, e138_164, e138_165, e138_166, e138_169, e138_171, e138_172, e138_173, e138_174, e138_175, e138_177, e138_178, e138_181, e138_182, e138_183, e138_184, e138_187, e138_189, e138_190, e138_191, e138_192, e138_193, e138_194, e138_195, e138_196, e138_197, e138_200, e138_203, e138_206, e138_209, kv_s, kh_s, kn_s, kc_v, kc_n, Nat.reduceEqDiff, Nat.one_ne_zero, Nat.reduceLT, Nat.reduceLeDiff, Nat.reduceAdd, Nat.reduceSub, Nat.reduceMul, nI_add, nI_leI, nI_ltI, nI_eq, z_eq, z_lt, z_le, z_gt, z_ge, ↓reduceIte, not_true_eq_false, not_false_eq_true, if_true, if_false]
      · intro n hn
        rw [j0 2 (by omega), i0 2 (by omega), k0 n hn]
      · intro n hn k hk
        by_cases h : n = q + 1
        · subst h
          exact j2 k hk
        · rw [j1 _ (by omega), i0 0 (by omega), k1 n (by omega) k hk]
      · intro n h1 hn k hk
        by_cases h : n = q + 1
        · subst h
          rw [j0 1 (by omega)]
          exact ⟨i2 k hk, j4 k hk⟩
        · rw [j0 1 (by omega), i1 _ (by omega), j3 _ (by omega)]
          exact k2 n h1 (by omega) k hk
      · intro t ht
        rw [j5 t ht, k3 t ht]
  obtain ⟨ι', z', v3, v4, v5, v7, v8, e, k0, k1⟩ := l1 p (by omega)
  refine ⟨ι', z', ?_, k0, k1⟩
  rw [e, e138_6]
  simp (disch := first | omega | assumption | exact MO_isO _ _ _ _ | (refine b30 ?_; omega) | (refine nI_inR ?_ ?_ ?_ <;> omega)) only [x138, e138_0, e138_1, e138_4, e138_5, e138_7, e138_8, e138_11, e138_12, e138_14, e138_16, e138_19, e138_20, e138_23, e138_25, e138_26, e138_27, e138_28, e138_29, e138_30, e138_31, e138_34, e138_35, e138_36, e138_39, e138_40, e138_43, e138_46, e138_47, e138_49, e138_51, e138_54, e138_55, e138_57, e138_58, e138_61, e138_63, e138_64, e138_65, e138_66, e138_67, e138_68, e138_70, e138_71, e138_72, e138_73, e138_77, e138_79, e138_82, e138_83, e138_86, e138_88, e138_89, e138_90, e138_92, e138_93, e138_94, e138_95, e138_98, e138_99, e138_100, e138_101, e138_104, e138_106, e138_107, e138_108, e138_109, e138_110, e138_112, e138_114, e138_116, e138_117, e138_120, e138_122, e138_125, e138_127, e138_129, e138_131, e138_133, e138_134, e138_137, e138_139, e138_142, e138_144, e138_146, e138_149, e138_152, e138_153, e138_156, e138_158, e138_159, e138_160, e138_161, e138_162, e138_164, e138_165, e138_166, e138_169, e138_171, e138_172, e138_173, e138_174, e138_175, e138_177, e138_178, e138_181, e138_182, e138_183, e138_184, e138_187, e138_189, e138_190, e138_191, e138_192, e138_193, e138_194, e138_195, e138_196, e138_197, e138_200, e138_203, e138_206, e138_209, kv_s, kh_s, kn_s, kc_v, kc_n, Nat.reduceEqDiff, Nat.one_ne_zero, Nat.reduceLT, Nat.reduceLeDiff, Nat.reduceAdd, Nat.reduceSub, Nat.reduceMul, nI_add, nI_leI, nI_ltI, nI_eq, z_eq, z_lt, z_le, z_gt, z_ge, ↓reduceIte, not_true_eq_false, not_false_eq_true, if_true, if_false, show p < p + 1 by omega]
end
