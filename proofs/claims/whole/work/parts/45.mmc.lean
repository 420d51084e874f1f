-- PART 45: the reference's methods, twelfth: powers, levels, plans
section
variable (H : pi_H) (ι : sT) (κ : kT) (a : sT)
theorem m118' (z : jT) : ex 118 [.ref 77] (MO H (u1 ι 0 (flat a)) z κ) = some (some (.int (nI (wsum a))), MO H (u1 ι 0 (flat a)) z κ) := by
  have h18 := m118 H (u1 ι 0 (flat a)) z κ
  rw [u1_s, fl0 a 0 (by omega), fl0 a 1 (by omega), fl0 a 2 (by omega), fl0 a 3 (by omega), fl0 a 4 (by omega), fl0 a 5 (by omega), fl0 a 6 (by omega)] at h18
  exact h18
theorem ul_neq (z : jT) (t i : Nat) (x : Int64) (t' i' : Nat) (h : ¬ (t' = t ∧ i' = i)) : ul z t i x t' i' = z t' i' := if_neg h
theorem m139 (ok : okA a) (z : jT) : ∃ z' : jT, ex 139 [.ref 77] (MO H (u1 ι 0 (flat a)) z κ) = some (none, MO H (u1 ι 0 (flat a)) z' κ) ∧ (∀ n, n < 7 → z' 2 n = pw a n) ∧ (∀ k, k < 21 → z' 0 k = lN (a 1 4 * k)) ∧ (∀ k, k < 21 → z' 3 k = lN (a 1 4 * k)) := by
  obtain ⟨hw, hc, hs⟩ := ok
  have l1 : ∀ n, n ≤ 6 → ∃ z' : jT, ex 139 [.ref 77] (MO H (u1 ι 0 (flat a)) z κ) = ev 139 9 [some (.ref 77), some (.int (nI (n + 1)))] [] (MO H (u1 ι 0 (flat a)) z' κ) ∧ (∀ i, i ≤ n → z' 2 i = pw a i) := by
    intro n
    induction n with
    | zero =>
      intro _
      refine ⟨ul z 2 0 (lN 1), ?_, ?_⟩
      · simp (disch := first | omega | assumption | exact MO_isO _ _ _ _ | (refine b30 ?_; omega) | (refine nI_inR ?_ ?_ ?_ <;> omega)) only [x139, e139_0, e139_1, e139_4, e139_5, e139_6, e139_7, e139_8, e139_10, e139_12, e139_15, e139_16, e139_19, e139_20, e139_21, e139_24, e139_25, e139_26, e139_27, e139_28, e139_29, e139_32, e139_33, e139_34, e139_35, e139_38, e139_41, e139_42, e139_43, e139_44, e139_46, e139_49, e139_50, e139_53, e139_54, e139_55, e139_58, e139_60, e139_61, e139_62, e139_63, e139_64, e139_65, e139_66, e139_67, e139_70, e139_71, e139_72, e139_75, e139_77, e139_78, e139_79, e139_80, e139_81, e139_82, e139_83, e139_86, e139_89, kv_s, kh_s, kn_s, kc_v, kc_n, MO_isO, MO_f0, MO_f1, MO_f2, MO_f3, MO_f4, MO_f5, MO_f6, MO_f7, MO_f8, MO_f9, MO_f10, MO_f11, MO_f12, MO_f13, MO_f14, MO_i0, MO_i1, MO_i2, MO_i3, MO_i4, MO_i5, MO_j0, MO_j1, MO_j2, MO_j3, MO_wi0, MO_wi1, MO_wi2, MO_wi3, MO_wi4, MO_wi5, MO_wj0, MO_wj1, MO_wj2, MO_wj3, MO_k0, MO_k1, MO_k2, MO_k3, MO_k4, Nat.reduceEqDiff, Nat.one_ne_zero, Nat.reduceLT, Nat.reduceLeDiff, Nat.reduceAdd, Nat.reduceSub, Nat.reduceMul, nI_add, nI_leI, nI_ltI, nI_eq, z_eq, z_lt, z_le, z_gt, z_ge, ↓reduceIte, not_true_eq_false, not_false_eq_true, if_true, if_false, Nat.zero_add]
      · intro i hi
        rw [ul_app, if_pos ⟨rfl, by omega⟩, show i = 0 by omega]
        rfl
    | succ n ih =>
      intro hn
      obtain ⟨z', e, i1⟩ := ih (by omega)
      refine ⟨ul z' 2 (n + 1) (pw a (n + 1)), ?_, ?_⟩
      · have i3 := i1 n (by omega)
        have h18 := m118' H ι κ a
        rw [e, e139_9]
        simp (disch := first | omega | assumption | exact MO_isO _ _ _ _ | (refine b30 ?_; omega) | (refine nI_inR ?_ ?_ ?_ <;> omega)) only [x139, e139_0, e139_1, e139_4, e139_5, e139_6, e139_7, e139_8, e139_10, e139_12, e139_15, e139_16, e139_19, e139_20, e139_21, e139_24, e139_25, e139_26, e139_27, e139_28, e139_29, e139_32, e139_33, e139_34, e139_35, e139_38, e139_41, e139_42, e139_43, e139_44, e139_46, e139_49, e139_50, e139_53, e139_54, e139_55, e139_58, e139_60, e139_61, e139_62, e139_63, e139_64, e139_65, e139_66, e139_67, e139_70, e139_71, e139_72, e139_75, e139_77, e139_78, e139_79, e139_80, e139_81, e139_82, e139_83, e139_86, e139_89, kv_s, kh_s, kn_s, kc_v, kc_n, MO_isO, MO_f0, MO_f1, MO_f2, MO_f3, MO_f4, MO_f5, MO_f6, MO_f7, MO_f8, MO_f9, MO_f10, MO_f11, MO_f12, MO_f13, MO_f14, MO_i0, MO_i1, MO_i2, MO_i3, MO_i4, MO_i5, MO_j0, MO_j1, MO_j2, MO_j3, MO_wi0, MO_wi1, MO_wi2, MO_wi3, MO_wi4, MO_wi5, MO_wj0, MO_wj1, MO_wj2, MO_wj3, MO_k0, MO_k1, MO_k2, MO_k3, MO_k4, Nat.reduceEqDiff, Nat.one_ne_zero, Nat.reduceLT, Nat.reduceLeDiff, Nat.reduceAdd, Nat.reduceSub, Nat.reduceMul, nI_add, nI_leI, nI_ltI, nI_eq, z_eq, z_lt, z_le, z_gt, z_ge, ↓reduceIte, not_true_eq_false, not_false_eq_true, if_true, if_false, pk_sub, nI_l, show ¬ 6 < n + 1 by omega, Nat.add_sub_cancel, i3, h18]
        rfl
      · intro i hi
        rw [ul_app]
        by_cases h : i = n + 1
        · rw [if_pos ⟨rfl, h⟩, h]
        · rw [if_neg (by omega), i1 i (by omega)]
  have l2 : ∀ n, n ≤ 21 → ∃ z' : jT, ex 139 [.ref 77] (MO H (u1 ι 0 (flat a)) z κ) = ev 139 43 [some (.ref 77), some (.int (nI n))] [] (MO H (u1 ι 0 (flat a)) z' κ) ∧ (∀ i, i < 7 → z' 2 i = pw a i) ∧ (∀ k, k < n → z' 0 k = lN (a 1 4 * k)) ∧ (∀ k, k < n → z' 3 k = lN (a 1 4 * k)) := by
    intro n
    induction n with
    | zero =>
      intro _
      obtain ⟨z', e, i1⟩ := l1 6 (by omega)
      refine ⟨z', ?_, fun i hi => i1 i (by omega), fun i hi => absurd hi (by omega), fun i hi => absurd hi (by omega)⟩
      rw [e, e139_9]
      simp (disch := first | omega | assumption | exact MO_isO _ _ _ _ | (refine b30 ?_; omega) | (refine nI_inR ?_ ?_ ?_ <;> omega)) only [x139, e139_0, e139_1, e139_4, e139_5, e139_6, e139_7, e139_8, e139_10, e139_12, e139_15, e139_16, e139_19, e139_20, e139_21, e139_24, e139_25, e139_26, e139_27, e139_28, e139_29, e139_32, e139_33, e139_34, e139_35, e139_38, e139_41, e139_42, e139_44, e139_46, e139_49, e139_50, e139_53, e139_54, e139_55, e139_58, e139_60, e139_61, e139_62, e139_63, e139_64, e139_65, e139_66, e139_67, e139_70, e139_71, e139_72, e139_75, e139_77, e139_78, e139_79, e139_80, e139_81, e139_82, e139_83, e139_86, e139_89, kv_s, kh_s, kn_s, kc_v, kc_n, Nat.reduceEqDiff, Nat.one_ne_zero, Nat.reduceLT, Nat.reduceLeDiff, Nat.reduceAdd, Nat.reduceSub, Nat.reduceMul, nI_add, nI_leI, nI_ltI, nI_eq, z_eq, z_lt, z_le, z_gt, z_ge, ↓reduceIte, not_true_eq_false, not_false_eq_true, if_true, if_false]
    | succ n ih =>
      intro hn
      obtain ⟨z', e, i1, i2, i3⟩ := ih (by omega)
      have hb : a 1 4 < 2 ^ 31 := by have := hc.2.2.2.2; omega
      refine ⟨ul (ul z' 0 n (lN (a 1 4 * n))) 3 n (lN (a 1 4 * n)), ?_, ?_, ?_, ?_⟩
      · rw [e, e139_43]
        simp (disch := first | omega | assumption | exact MO_isO _ _ _ _ | (refine b30 ?_; omega) | (refine nI_inR ?_ ?_ ?_ <;> omega)) only [x139, e139_0, e139_1, e139_4, e139_5, e139_6, e139_7, e139_8, e139_10, e139_12, e139_15, e139_16, e139_19, e139_20, e139_21, e139_24, e139_25, e139_26, e139_27, e139_28, e139_29, e139_32, e139_33, e139_34, e139_35, e139_38, e139_41, e139_42, e139_44, e139_46, e139_49, e139_50, e139_53, e139_54, e139_55, e139_58, e139_60, e139_61, e139_62, e139_63, e139_64, e139_65, e139_66, e139_67, e139_70, e139_71, e139_72, e139_75, e139_77, e139_78, e139_79, e139_80, e139_81, e139_82, e139_83, e139_86, e139_89, kv_s, kh_s, kn_s, kc_v, kc_n, MO_isO, MO_f0, MO_f1, MO_f2, MO_f3, MO_f4, MO_f5, MO_f6, MO_f7, MO_f8, MO_f9, MO_f10, MO_f11, MO_f12, MO_f13, MO_f14, MO_i0, MO_i1, MO_i2, MO_i3, MO_i4, MO_i5, MO_j0, MO_j1, MO_j2, MO_j3, MO_wi0, MO_wi1, MO_wi2, MO_wi3, MO_wi4, MO_wi5, MO_wj0, MO_wj1, MO_wj2, MO_wj3, MO_k0, MO_k1, MO_k2, MO_k3, MO_k4, fl7, fl8, fl9, fl10, fl11, fl24, fl25, fl26, fl27, fl28, fl29, fl30, fl31, fl32, fl33, upN_app, Nat.reduceEqDiff, Nat.one_ne_zero, Nat.reduceLT, Nat.reduceLeDiff, Nat.reduceAdd, Nat.reduceSub, Nat.reduceMul, nI_add, nI_leI, nI_ltI, nI_eq, z_eq, z_lt, z_le, z_gt, z_ge, ↓reduceIte, not_true_eq_false, not_false_eq_true, if_true, if_false, u1_0, nI_l, lN_mul, show ¬ 21 ≤ n by omega]
      · intro i hi
        rw [ul_neq _ _ _ _ _ _ (by omega), ul_neq _ _ _ _ _ _ (by omega), i1 i hi]
      · intro i hi
        rw [ul_neq _ _ _ _ _ _ (by omega), ul_app]
        by_cases h : i = n
        · rw [if_pos ⟨rfl, h⟩, h]
        · rw [if_neg (by omega), i2 i (by omega)]
      · intro i hi
        rw [ul_app]
        by_cases h : i = n
        · rw [if_pos ⟨rfl, h⟩, h]
        · rw [if_neg (by omega), ul_neq _ _ _ _ _ _ (by omega), i3 i (by omega)]
  obtain ⟨z', e, i1, i2, i3⟩ := l2 21 (by omega)
  refine ⟨z', ?_, i1, i2, i3⟩
  rw [e, e139_43]
  simp (disch := first | omega | assumption | exact MO_isO _ _ _ _ | (refine b30 ?_; omega) | (refine nI_inR ?_ ?_ ?_ <;> omega)) only [x139, e139_0, e139_1, e139_4, e139_5, e139_6, e139_7, e139_8, e139_10, e139_12, e139_15, e139_16, e139_19, e139_20, e139_21, e139_24, e139_25, e139_26, e139_27, e139_28, e139_29, e139_32, e139_33, e139_34, e139_35, e139_38, e139_41, e139_42, e139_44, e139_46, e139_49, e139_50, e139_53, e139_54, e139_55, e139_58, e139_60, e139_61, e139_62, e139_63, e139_64, e139_65, e139_66, e139_67, e139_70, e139_71, e139_72, e139_75, e139_77, e139_78, e139_79, e139_80, e139_81, e139_82, e139_83, e139_86, e139_89, kv_s, kh_s, kn_s, kc_v, kc_n, Nat.reduceEqDiff, Nat.one_ne_zero, Nat.reduceLT, Nat.reduceLeDiff, Nat.reduceAdd, Nat.reduceSub, Nat.reduceMul, nI_add, nI_leI, nI_ltI, nI_eq, z_eq, z_lt, z_le, z_gt, z_ge, ↓reduceIte, not_true_eq_false, not_false_eq_true, if_true, if_false]
/-- a level, by the means f of n periods -/
theorem m140 (ok : okA a) (z : jT) (n y r : Nat) (hn : n < 6) (hy : y < 21) (f : Nat → Int64) (hr : r < 1000) (hr0 : pi_isO (some (.inl (2, 147, .inr (.inl f)))) 5 = false) (hg : pi_get (MO H (u1 ι 0 (flat a)) z κ) r = some (.inl (2, 147, .inr (.inl f)))) (h0 : ∀ n, n < 7 → z 2 n = pw a n) : ex 140 [.ref 77, .ref r, .int (nI (n + 1)), .int (nI y)] (MO H (u1 ι 0 (flat a)) z κ) = some (some (.long (vl a n (fun k => f (21 * n + k)) y)), MO H (u1 ι 0 (flat a)) z κ) := by
  obtain ⟨hw, hc, hs⟩ := ok
  have ha : ∀ j, j < 147 → pi_al (pi_get (MO H (u1 ι 0 (flat a)) z κ) r) (nI j) 3 = some (.long (f j)) := fun j hj => by
    rw [hg]
    exact al_l hj (by omega)
  have p1 := h0 (n + 1) (by omega)
  have p0 := h0 n (by omega)
  have c1 : a 1 1 < 2 ^ 31 := by have := hc.2.1; omega
  have l1 : ∀ d, d ≤ 7 → ∃ v7 v8 v9 : Option Value, ex 140 [.ref 77, .ref r, .int (nI (n + 1)), .int (nI y)] (MO H (u1 ι 0 (flat a)) z κ) = ev 140 23 [some (.ref 77), some (.ref r), some (.int (nI (n + 1))), some (.int (nI y)), some (.long (lN (a 1 1 * y) * pw a (n + 1) + (ppS a y d * pw a n + rsS a (fun k => f (21 * n + k)) y d))), none, some (.int (nI d)), v7, v8, v9, none] [] (MO H (u1 ι 0 (flat a)) z κ) := by
    intro d
    induction d with
    | zero =>
      intro _
      refine ⟨none, none, none, ?_⟩
      have e : pw a (n + 1) * lN (a 1 1) * lN y = lN (a 1 1 * y) * pw a (n + 1) + (ppS a y 0 * pw a n + rsS a (fun k => f (21 * n + k)) y 0) := by
        rw [← lN_mul]
        show _ = _ + ((0 : Int64) * _ + (0 : Int64))
        grind
      simp (disch := first | omega | assumption | exact MO_isO _ _ _ _ | (refine b30 ?_; omega) | (refine nI_inR ?_ ?_ ?_ <;> omega)) only [x140, e140_0, e140_1, e140_4, e140_5, e140_6, e140_7, e140_10, e140_12, e140_13, e140_14, e140_15, e140_16, e140_17, e140_18, e140_20, e140_21, e140_25, e140_27, e140_30, e140_32, e140_33, e140_36, e140_37, e140_39, e140_40, e140_43, e140_44, e140_46, e140_48, e140_49, e140_52, e140_53, e140_56, e140_58, e140_59, e140_60, e140_62, e140_63, e140_66, e140_67, e140_68, e140_69, e140_70, e140_71, e140_74, e140_76, e140_77, e140_79, e140_80, e140_81, e140_84, e140_86, e140_87, e140_89, e140_90, e140_91, e140_92, e140_93, e140_95, e140_97, e140_98, e140_101, e140_102, e140_104, e140_105, e140_106, e140_107, e140_109, e140_110, e140_112, e140_113, e140_114, e140_115, e140_116, e140_118, e140_119, e140_120, e140_121, e140_122, e140_123, e140_125, e140_128, e140_131, e140_133, kv_s, kh_s, kn_s, kc_v, kc_n, MO_isO, MO_f0, MO_f1, MO_f2, MO_f3, MO_f4, MO_f5, MO_f6, MO_f7, MO_f8, MO_f9, MO_f10, MO_f11, MO_f12, MO_f13, MO_f14, MO_i0, MO_i1, MO_i2, MO_i3, MO_i4, MO_i5, MO_j0, MO_j1, MO_j2, MO_j3, fl7, fl8, fl9, fl10, fl11, fl24, fl25, fl26, fl27, fl28, fl29, fl30, fl31, fl32, fl33, upN_app, Nat.reduceEqDiff, Nat.one_ne_zero, Nat.reduceLT, Nat.reduceLeDiff, Nat.reduceAdd, Nat.reduceSub, Nat.reduceMul, nI_add, nI_leI, nI_ltI, nI_eq, z_eq, z_lt, z_le, z_gt, z_ge, ↓reduceIte, not_true_eq_false, not_false_eq_true, if_true, if_false, u1_0, nI_l, p1, e]
    | succ d ih =>
      intro hd
      obtain ⟨v7, v8, v9, e⟩ := ih (by omega)
      have hwd := hw d (by omega)
      have hpp := pprice_le a hc y d (by omega) (by omega)
      have hfd : flat a (0 + d) = a 0 d := by rw [Nat.zero_add]; exact fl0 a d (by omega)
      have es : lN (a 1 1 * y) * pw a (n + 1) + (ppS a y d * pw a n + rsS a (fun k => f (21 * n + k)) y d) + lN (a 0 d) * (pw a n * lN (pprice a y d) + f (21 * n + (y - d))) = lN (a 1 1 * y) * pw a (n + 1) + (ppS a y (d + 1) * pw a n + rsS a (fun k => f (21 * n + k)) y (d + 1)) := by
        show _ = _ + ((ppS a y d + lN (a 0 d) * lN (pprice a y d)) * pw a n + (rsS a (fun k => f (21 * n + k)) y d + lN (a 0 d) * f (21 * n + (y - d))))
        grind
      refine ⟨some (.int (nI (y - d))), some (.int (nI (d - y))), some (.long (pw a n * lN (pprice a y d))), ?_⟩
      rw [e, e140_23]
      unfold pprice at es hpp ⊢
      by_cases h : d < y
      · rw [show d - y = 0 by omega] at es hpp ⊢
        simp (disch := first | omega | assumption | exact MO_isO _ _ _ _ | (refine b30 ?_; omega) | (refine nI_inR ?_ ?_ ?_ <;> omega)) only [x140, e140_0, e140_1, e140_4, e140_5, e140_6, e140_7, e140_10, e140_12, e140_13, e140_14, e140_15, e140_16, e140_17, e140_18, e140_20, e140_21, e140_25, e140_27, e140_30, e140_32, e140_33, e140_36, e140_37, e140_39, e140_40, e140_43, e140_44, e140_46, e140_48, e140_49, e140_52, e140_53, e140_56, e140_58, e140_59, e140_60, e140_62, e140_63, e140_66, e140_67, e140_68, e140_69, e140_70, e140_71, e140_74, e140_76, e140_77, e140_79, e140_80, e140_81, e140_84, e140_86, e140_87, e140_89, e140_90, e140_91, e140_92, e140_93, e140_95, e140_97, e140_98, e140_101, e140_102, e140_104, e140_105, e140_106, e140_107, e140_109, e140_110, e140_112, e140_113, e140_114, e140_115, e140_116, e140_118, e140_119, e140_120, e140_121, e140_122, e140_123, e140_125, e140_128, e140_131, e140_133, kv_s, kh_s, kn_s, kc_v, kc_n, MO_isO, MO_f0, MO_f1, MO_f2, MO_f3, MO_f4, MO_f5, MO_f6, MO_f7, MO_f8, MO_f9, MO_f10, MO_f11, MO_f12, MO_f13, MO_f14, MO_i0, MO_i1, MO_i2, MO_i3, MO_i4, MO_i5, MO_j0, MO_j1, MO_j2, MO_j3, fl7, fl8, fl9, fl10, fl11, fl24, fl25, fl26, fl27, fl28, fl29, fl30, fl31, fl32, fl33, upN_app, Nat.reduceEqDiff, Nat.one_ne_zero, Nat.reduceLT, Nat.reduceLeDiff, Nat.reduceAdd, Nat.reduceSub, Nat.reduceMul, nI_add, nI_leI, nI_ltI, nI_eq, z_eq, z_lt, z_le, z_gt, z_ge, ↓reduceIte, not_true_eq_false, not_false_eq_true, if_true, if_false, u1_0, nI_l, pk_mul, pk_sub, ha, hfd, p0, show ¬ 7 ≤ d by omega, show ¬ y ≤ d by omega, Nat.add_sub_cancel, es]
      · rw [show y - d = 0 by omega] at es hpp ⊢
        simp (disch := first | omega | assumption | exact MO_isO _ _ _ _ | (refine b30 ?_; omega) | (refine nI_inR ?_ ?_ ?_ <;> omega)) only [x140, e140_0, e140_1, e140_4, e140_5, e140_6, e140_7, e140_10, e140_12, e140_13, e140_14, e140_15, e140_16, e140_17, e140_18, e140_20, e140_21, e140_25, e140_27, e140_30, e140_32, e140_33, e140_36, e140_37, e140_39, e140_40, e140_43, e140_44, e140_46, e140_48, e140_49, e140_52, e140_53, e140_56, e140_58, e140_59, e140_60, e140_62, e140_63, e140_66, e140_67, e140_68, e140_69, e140_70, e140_71, e140_74, e140_76, e140_77, e140_79, e140_80, e140_81, e140_84, e140_86, e140_87, e140_89, e140_90, e140_91, e140_92, e140_93, e140_95, e140_97, e140_98, e140_101, e140_102, e140_104, e140_105, e140_106, e140_107, e140_109, e140_110, e140_112, e140_113, e140_114, e140_115, e140_116, e140_118, e140_119, e140_120, e140_121, e140_122, e140_123, e140_125, e140_128, e140_131, e140_133, kv_s, kh_s, kn_s, kc_v, kc_n, MO_isO, MO_f0, MO_f1, MO_f2, MO_f3, MO_f4, MO_f5, MO_f6, MO_f7, MO_f8, MO_f9, MO_f10, MO_f11, MO_f12, MO_f13, MO_f14, MO_i0, MO_i1, MO_i2, MO_i3, MO_i4, MO_i5, MO_j0, MO_j1, MO_j2, MO_j3, fl7, fl8, fl9, fl10, fl11, fl24, fl25, fl26, fl27, fl28, fl29, fl30, fl31, fl32, fl33, upN_app, Nat.reduceEqDiff, Nat.one_ne_zero, Nat.reduceLT, Nat.reduceLeDiff, Nat.reduceAdd, Nat.reduceSub, Nat.reduceMul, nI_add, nI_leI, nI_ltI, nI_eq, z_eq, z_lt, z_le, z_gt, z_ge, ↓reduceIte, not_true_eq_false, not_false_eq_true, if_true, if_false, u1_0, nI_l, pk_mul, pk_sub, ha, hfd, p0, show ¬ 7 ≤ d by omega, show y ≤ d by omega, Nat.add_sub_cancel, es]
  obtain ⟨v7, v8, v9, e⟩ := l1 7 (by omega)
  rw [e, e140_23]
  simp (disch := first | omega | assumption | exact MO_isO _ _ _ _ | (refine b30 ?_; omega) | (refine nI_inR ?_ ?_ ?_ <;> omega)) only [x140, e140_0, e140_1, e140_4, e140_5, e140_6, e140_7, e140_10, e140_12, e140_13, e140_14, e140_15, e140_16, e140_17, e140_18, e140_20, e140_21, e140_25, e140_27, e140_30, e140_32, e140_33, e140_36, e140_37, e140_39, e140_40, e140_43, e140_44, e140_46, e140_48, e140_49, e140_52, e140_53, e140_56, e140_58, e140_59, e140_60, e140_62, e140_63, e140_66, e140_67, e140_68, e140_69, e140_70, e140_71, e140_74, e140_76, e140_77, e140_79, e140_80, e140_81, e140_84, e140_86, e140_87, e140_89, e140_90, e140_91, e140_92, e140_93, e140_95, e140_97, e140_98, e140_101, e140_102, e140_104, e140_105, e140_106, e140_107, e140_109, e140_110, e140_112, e140_113, e140_114, e140_115, e140_116, e140_118, e140_119, e140_120, e140_121, e140_122, e140_123, e140_125, e140_128, e140_131, e140_133, kv_s, kh_s, kn_s, kc_v, kc_n, Nat.reduceEqDiff, Nat.one_ne_zero, Nat.reduceLT, Nat.reduceLeDiff, Nat.reduceAdd, Nat.reduceSub, Nat.reduceMul, nI_add, nI_leI, nI_ltI, nI_eq, z_eq, z_lt, z_le, z_gt, z_ge, ↓reduceIte, not_true_eq_false, not_false_eq_true, if_true, if_false]
  rfl
end
