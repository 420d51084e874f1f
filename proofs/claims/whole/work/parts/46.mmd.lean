-- PART 46: the reference's methods, thirteenth: plans by two levels
theorem u2_u1n (ι : sT) (k : Nat) (F : Nat → Nat) (t i x : Nat) (h : t ≠ k) : u2 (u1 ι k F) t i x = u1 (u2 ι t i x) k F := by
  funext k' j
  rw [u2_app]
  by_cases hk : k' = k
  · subst hk
    rw [u1_s, u1_s, if_neg (by omega)]
  · rw [u1_n _ _ _ _ hk, u1_n _ _ _ _ hk, u2_app]
section
variable (H : pi_H) (ι : sT) (κ : kT) (a : sT)
theorem MO_c5 (z : jT) : pi_get (MO H ι z κ) 82 = some (.inl (2, 147, .inr (.inl (z 0)))) := by rw [MO_g _ _ _ _ _ (by omega)]; rfl
theorem MO_c9 (z : jT) : pi_get (MO H ι z κ) 86 = some (.inl (2, 147, .inr (.inl (z 3)))) := by rw [MO_g _ _ _ _ _ (by omega)]; rfl
theorem m145 (ok : okA a) (z : jT) (n k lo hi : Nat) (hn : n < 6) (hk : k < 21) (hlo : lo ≤ hi) (hhi : hi < 21) (h0 : ∀ n, n < 7 → z 2 n = pw a n) : ex 145 [.ref 77, .int (nI (n + 1)), .int (nI k), .int (nI lo), .int (nI hi)] (MO H (u1 ι 0 (flat a)) z κ) = some (some (.long (pl a n (fun q => z 3 (21 * n + q)) lo hi k)), MO H (u1 ι 0 (flat a)) z κ) := by
  have p1 := h0 (n + 1) (by omega)
  have c0 : a 1 0 < 2 ^ 31 := by have := ok.2.1.1; omega
  have c1 : a 1 1 < 2 ^ 31 := by have := ok.2.1.2.1; omega
  have e40 : ∀ y, y < 21 → ex 140 [.ref 77, .ref 86, .int (nI (n + 1)), .int (nI y)] (MO H (u1 ι 0 (flat a)) z κ) = some (some (.long (vl a n (fun q => z 3 (21 * n + q)) y)), MO H (u1 ι 0 (flat a)) z κ) := fun y hy => m140 H ι κ a ok z n y 86 hn hy (z 3) (by omega) rfl (MO_c9 H _ κ z) h0
  unfold pl
  by_cases h : k < lo
  · have hl : lvl k lo hi = hi := if_pos h
    have e1 := e40 hi hhi
    have es : vl a n (fun q => z 3 (21 * n + q)) hi + pw a (n + 1) * lN (a 1 0) - pw a (n + 1) * lN (a 1 1) * lN k = lN (oprice a k hi) * pw a (n + 1) + cb a (fun q => z 3 (21 * n + q)) n hi := by
      unfold vl oprice
      rw [if_neg (by omega), ← lN_add, ← lN_mul, ← lN_mul, ← lN_sub (show k ≤ hi by omega)]
      grind
    rw [hl, if_pos (by omega), ← es]
    simp (disch := first | omega | assumption | exact MO_isO _ _ _ _ | (refine b30 ?_; omega) | (refine nI_inR ?_ ?_ ?_ <;> omega)) only [x145, e145_0, e145_1, e145_2, e145_5, e145_7, e145_10, e145_11, e145_13, e145_14, e145_15, e145_18, e145_19, e145_21, e145_24, e145_25, e145_28, e145_29, e145_30, e145_32, e145_33, e145_36, e145_37, e145_40, e145_42, e145_43, e145_46, e145_47, e145_48, e145_49, e145_50, e145_51, e145_54, e145_55, e145_56, e145_57, e145_60, e145_62, e145_63, e145_64, e145_65, e145_66, e145_67, e145_68, e145_69, kv_s, kh_s, kn_s, kc_v, kc_n, MO_isO, MO_f0, MO_f1, MO_f2, MO_f3, MO_f4, MO_f5, MO_f6, MO_f7, MO_f8, MO_f9, MO_f10, MO_f11, MO_f12, MO_f13, MO_f14, MO_i0, MO_i1, MO_i2, MO_i3, MO_i4, MO_i5, MO_j0, MO_j1, MO_j2, MO_j3, fl7, fl8, fl9, fl10, fl11, fl24, fl25, fl26, fl27, fl28, fl29, fl30, fl31, fl32, fl33, upN_app, Nat.reduceEqDiff, Nat.one_ne_zero, Nat.reduceLT, Nat.reduceLeDiff, Nat.reduceAdd, Nat.reduceSub, Nat.reduceMul, nI_add, nI_leI, nI_ltI, nI_eq, z_eq, z_lt, z_le, z_gt, z_ge, ↓reduceIte, not_true_eq_false, not_false_eq_true, if_true, if_false, u1_0, nI_l, p1, e1, show ¬ lo ≤ k by omega, show ¬ hi ≤ k by omega]
  · have hl : lvl k lo hi = k := if_neg h
    have e1 := e40 k hk
    have es : vl a n (fun q => z 3 (21 * n + q)) k + pw a (n + 1) * lN 0 - pw a (n + 1) * lN (a 1 1) * lN k = cb a (fun q => z 3 (21 * n + q)) n k := by
      unfold vl
      rw [← lN_mul, lN_0]
      grind
    rw [hl, if_neg (by omega), ← es]
    simp (disch := first | omega | assumption | exact MO_isO _ _ _ _ | (refine b30 ?_; omega) | (refine nI_inR ?_ ?_ ?_ <;> omega)) only [x145, e145_0, e145_1, e145_2, e145_5, e145_7, e145_10, e145_11, e145_13, e145_14, e145_15, e145_18, e145_19, e145_21, e145_24, e145_25, e145_28, e145_29, e145_30, e145_32, e145_33, e145_36, e145_37, e145_40, e145_42, e145_43, e145_46, e145_47, e145_48, e145_49, e145_50, e145_51, e145_54, e145_55, e145_56, e145_57, e145_60, e145_62, e145_63, e145_64, e145_65, e145_66, e145_67, e145_68, e145_69, kv_s, kh_s, kn_s, kc_v, kc_n, MO_isO, MO_f0, MO_f1, MO_f2, MO_f3, MO_f4, MO_f5, MO_f6, MO_f7, MO_f8, MO_f9, MO_f10, MO_f11, MO_f12, MO_f13, MO_f14, MO_i0, MO_i1, MO_i2, MO_i3, MO_i4, MO_i5, MO_j0, MO_j1, MO_j2, MO_j3, fl7, fl8, fl9, fl10, fl11, fl24, fl25, fl26, fl27, fl28, fl29, fl30, fl31, fl32, fl33, upN_app, Nat.reduceEqDiff, Nat.one_ne_zero, Nat.reduceLT, Nat.reduceLeDiff, Nat.reduceAdd, Nat.reduceSub, Nat.reduceMul, nI_add, nI_leI, nI_ltI, nI_eq, z_eq, z_lt, z_le, z_gt, z_ge, ↓reduceIte, not_true_eq_false, not_false_eq_true, if_true, if_false, u1_0, nI_l, p1, e1, show lo ≤ k by omega, show k ≤ k by omega]
def okMP (a : sT) (lo hi : Nat → Nat) (p : Nat) (z : jT) : Prop := (∀ n, n < 7 → z 2 n = pw a n) ∧ (∀ n, n ≤ p → ∀ k, k < 21 → z 3 (21 * n + k) = plT a lo hi n k)
theorem m144 (ok : okA a) (hp : ∀ p, p < 7 → a 2 p ≤ a 3 p ∧ a 3 p ≤ 20) (z : jT) (p : Nat) (hp7 : p < 7) : ∃ z' : jT, ex 144 [.ref 77, .int (nI p)] (MO H (u1 ι 0 (flat a)) z κ) = some (none, MO H (u1 ι 0 (flat a)) z' κ) ∧ okMP a (a 2) (a 3) p z' := by
  have l1 : ∀ q, q ≤ p → ∃ (z' : jT) (v3 : Option Value), ex 144 [.ref 77, .int (nI p)] (MO H (u1 ι 0 (flat a)) z κ) = ev 144 6 [some (.ref 77), some (.int (nI p)), some (.int (nI (q + 1))), v3] [] (MO H (u1 ι 0 (flat a)) z' κ) ∧ okMP a (a 2) (a 3) q z' := by
    intro q
    induction q with
    | zero =>
      intro _
      obtain ⟨z1, e1, j1, j2, j3⟩ := m139 H ι κ a ok z
      refine ⟨z1, none, ?_, j1, ?_⟩
      · simp (disch := first | omega | assumption | exact MO_isO _ _ _ _ | (refine b30 ?_; omega) | (refine nI_inR ?_ ?_ ?_ <;> omega)) only [x144, e144_0, e144_1, e144_4, e144_5, e144_7, e144_8, e144_11, e144_12, e144_14, e144_16, e144_19, e144_20, e144_23, e144_25, e144_26, e144_27, e144_28, e144_29, e144_30, e144_31, e144_32, e144_33, e144_36, e144_38, e144_39, e144_40, e144_41, e144_42, e144_45, e144_47, e144_48, e144_49, e144_50, e144_53, e144_54, e144_57, e144_60, e144_63, e144_66, kv_s, kh_s, kn_s, kc_v, kc_n, Nat.reduceEqDiff, Nat.one_ne_zero, Nat.reduceLT, Nat.reduceLeDiff, Nat.reduceAdd, Nat.reduceSub, Nat.reduceMul, nI_add, nI_leI, nI_ltI, nI_eq, z_eq, z_lt, z_le, z_gt, z_ge, ↓reduceIte, not_true_eq_false, not_false_eq_true, if_true, if_false, e1, Nat.zero_add]
      · intro n hn k hk
        rw [show n = 0 by omega, Nat.mul_zero, Nat.zero_add, j3 k hk]
        rfl
    | succ q ih =>
      intro hq
      obtain ⟨z', v3, e, k0, k1⟩ := ih (by omega)
      have hh := hp (q + 1) (by omega)
      have f2 := fl2 a (q + 1) (by omega) (by omega)
      have f3 := fl3 a (q + 1) (by omega) (by omega)
      have l2 : ∀ k, k ≤ 21 → ∃ z2 : jT, ex 144 [.ref 77, .int (nI p)] (MO H (u1 ι 0 (flat a)) z κ) = ev 144 13 [some (.ref 77), some (.int (nI p)), some (.int (nI (q + 1))), some (.int (nI k))] [] (MO H (u1 ι 0 (flat a)) z2 κ) ∧ (∀ n, n < 7 → z2 2 n = pw a n) ∧ (∀ i, i < 21 * (q + 1) → z2 3 i = z' 3 i) ∧ (∀ i, i < k → z2 3 (21 * (q + 1) + i) = plT a (a 2) (a 3) (q + 1) i) := by
        intro k
        induction k with
        | zero =>
          intro _
          refine ⟨z', ?_, k0, fun _ _ => rfl, fun i hi => absurd hi (by omega)⟩
          rw [e, e144_6]
          simp (disch := first | omega | assumption | exact MO_isO _ _ _ _ | (refine b30 ?_; omega) | (refine nI_inR ?_ ?_ ?_ <;> omega)) only [x144, e144_0, e144_1, e144_4, e144_5, e144_7, e144_8, e144_11, e144_12, e144_14, e144_16, e144_19, e144_20, e144_23, e144_25, e144_26, e144_27, e144_28, e144_29, e144_30, e144_31, e144_32, e144_33, e144_36, e144_38, e144_39, e144_40, e144_41, e144_42, e144_45, e144_47, e144_48, e144_49, e144_50, e144_53, e144_54, e144_57, e144_60, e144_63, e144_66, kv_s, kh_s, kn_s, kc_v, kc_n, Nat.reduceEqDiff, Nat.one_ne_zero, Nat.reduceLT, Nat.reduceLeDiff, Nat.reduceAdd, Nat.reduceSub, Nat.reduceMul, nI_add, nI_leI, nI_ltI, nI_eq, z_eq, z_lt, z_le, z_gt, z_ge, ↓reduceIte, not_true_eq_false, not_false_eq_true, if_true, if_false, show ¬ p < q + 1 by omega]
        | succ k ih2 =>
          intro hk
          obtain ⟨z2, e2, i0, i1, i2⟩ := ih2 (by omega)
          have e45 := m145 H ι κ a ok z2 q k (a 2 (q + 1)) (a 3 (q + 1)) (by omega) (by omega) hh.1 (by omega) i0
          refine ⟨ul z2 3 (21 * (q + 1) + k) (pl a q (fun y => z2 3 (21 * q + y)) (a 2 (q + 1)) (a 3 (q + 1)) k), ?_, ?_, ?_, ?_⟩
          · rw [e2, e144_13]
            simp (disch := first | omega | assumption | exact MO_isO _ _ _ _ | (refine b30 ?_; omega) | (refine nI_inR ?_ ?_ ?_ <;> omega)) only [x144, e144_0, e144_1, e144_4, e144_5, e144_7, e144_8, e144_11, e144_12, e144_14, e144_16, e144_19, e144_20, e144_23, e144_25, e144_26, e144_27, e144_28, e144_29, e144_30, e144_31, e144_32, e144_33, e144_36, e144_38, e144_39, e144_40, e144_41, e144_42, e144_45, e144_47, e144_48, e144_49, e144_50, e144_53, e144_54, e144_57, e144_60, e144_63, e144_66, kv_s, kh_s, kn_s, kc_v, kc_n, MO_isO, MO_f0, MO_f1, MO_f2, MO_f3, MO_f4, MO_f5, MO_f6, MO_f7, MO_f8, MO_f9, MO_f10, MO_f11, MO_f12, MO_f13, MO_f14, MO_i0, MO_i1, MO_i2, MO_i3, MO_i4, MO_i5, MO_j0, MO_j1, MO_j2, MO_j3, MO_wi0, MO_wi1, MO_wi2, MO_wi3, MO_wi4, MO_wi5, MO_wj0, MO_wj1, MO_wj2, MO_wj3, MO_k0, MO_k1, MO_k2, MO_k3, MO_k4, Nat.reduceEqDiff, Nat.one_ne_zero, Nat.reduceLT, Nat.reduceLeDiff, Nat.reduceAdd, Nat.reduceSub, Nat.reduceMul, nI_add, nI_leI, nI_ltI, nI_eq, z_eq, z_lt, z_le, z_gt, z_ge, ↓reduceIte, not_true_eq_false, not_false_eq_true, if_true, if_false, u1_0, pk_mul, f2, f3, e45, show ¬ 21 ≤ k by omega]
          · intro n hn
            rw [ul_neq _ _ _ _ _ _ (by omega), i0 n hn]
          · intro i hi
            rw [ul_neq _ _ _ _ _ _ (by omega), i1 i hi]
          · intro i hi
            rw [ul_app]
            by_cases h : i = k
            · subst h
              rw [if_pos ⟨rfl, rfl⟩, pl_congr a q (fun y => z2 3 (21 * q + y)) (plT a (a 2) (a 3) q) _ _ i 20 (by omega) (by omega) (fun y hy => by
                show z2 3 (21 * q + y) = _
                rw [i1 _ (by omega), k1 q (by omega) y (by omega)])]
              rfl
            · rw [if_neg (by omega), i2 i (by omega)]
      obtain ⟨z2, e2, i0, i1, i2⟩ := l2 21 (by omega)
      refine ⟨z2, some (.int (nI 21)), ?_, i0, ?_⟩
      · rw [e2, e144_13]
        simp (disch := first | omega | assumption | exact MO_isO _ _ _ _ | (refine b30 ?_; omega) | (refine nI_inR ?_ ?_ ?_ <;> omega)) only [x144, e144_0, e144_1, e144_4, e144_5, e144_7, e144_8, e144_11, e144_12, e144_14, e144_16, e144_19, e144_20, e144_23, e144_25, e144_26, e144_27, e144_28, e144_29, e144_30, e144_31, e144_32, e144_33, e144_36, e144_38, e144_39, e144_40, e144_41, e144_42, e144_45, e144_47, e144_48, e144_49, e144_50, e144_53, e144_54, e144_57, e144_60, e144_63, e144_66, kv_s, kh_s, kn_s, kc_v, kc_n, Nat.reduceEqDiff, Nat.one_ne_zero, Nat.reduceLT, Nat.reduceLeDiff, Nat.reduceAdd, Nat.reduceSub, Nat.reduceMul, nI_add, nI_leI, nI_ltI, nI_eq, z_eq, z_lt, z_le, z_gt, z_ge, ↓reduceIte, not_true_eq_false, not_false_eq_true, if_true, if_false]
      · intro n hn k hk
        by_cases h : n = q + 1
        · subst h
          exact i2 k hk
        · rw [i1 _ (by omega), k1 n (by omega) k hk]
  obtain ⟨z', v3, e, k0, k1⟩ := l1 p (by omega)
  refine ⟨z', ?_, k0, k1⟩
  rw [e, e144_6]
  simp (disch := first | omega | assumption | exact MO_isO _ _ _ _ | (refine b30 ?_; omega) | (refine nI_inR ?_ ?_ ?_ <;> omega)) only [x144, e144_0, e144_1, e144_4, e144_5, e144_7, e144_8, e144_11, e144_12, e144_14, e144_16, e144_19, e144_20, e144_23, e144_25, e144_26, e144_27, e144_28, e144_29, e144_30, e144_31, e144_32, e144_33, e144_36, e144_38, e144_39, e144_40, e144_41, e144_42, e144_45, e144_47, e144_48, e144_49, e144_50, e144_53, e144_54, e144_57, e144_60, e144_63, e144_66, kv_s, kh_s, kn_s, kc_v, kc_n, Nat.reduceEqDiff, Nat.one_ne_zero, Nat.reduceLT, Nat.reduceLeDiff, Nat.reduceAdd, Nat.reduceSub, Nat.reduceMul, nI_add, nI_leI, nI_ltI, nI_eq, z_eq, z_lt, z_le, z_gt, z_ge, ↓reduceIte, not_true_eq_false, not_false_eq_true, if_true, if_false, show p < p + 1 by omega]
end
