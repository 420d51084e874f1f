-- PART 35: the reference's methods, second
theorem u2_u1 (ι : sT) (F : Nat → Nat) (i x : Nat) : u2 (u1 ι 0 F) 0 i x = u1 ι 0 (upN F i x) := by
  funext k j
  rw [u2_app]
  by_cases hk : k = 0
  · subst hk
    rw [u1_s, u1_s, upN_app]
    simp
  · rw [if_neg (by omega), u1_n _ _ _ _ hk, u1_n _ _ _ _ hk]
theorem u1_0 (ι : sT) (F : Nat → Nat) (i : Nat) : u1 ι 0 F 0 i = F i := by rw [u1_s]
section
variable (H : pi_H) (ι : sT) (z : jT) (κ : kT)
theorem m122 (k : Nat) (hk : k ≤ 4) : ex 122 [.int (nI k)] H = some (some (.int (nI (mc k))), H) := by
  have h : k = 0 ∨ k = 1 ∨ k = 2 ∨ k = 3 ∨ k = 4 := by omega
  rcases h with rfl | rfl | rfl | rfl | rfl <;> simp (disch := first | omega | assumption | exact MO_isO _ _ _ _ | (refine b30 ?_; omega) | (refine nI_inR ?_ ?_ ?_ <;> omega)) only [x122, e122_0, e122_1, e122_4, e122_6, e122_9, e122_10, e122_11, e122_14, e122_16, e122_19, e122_21, Nat.reduceEqDiff, Nat.one_ne_zero, Nat.reduceLT, Nat.reduceLeDiff, Nat.reduceAdd, Nat.reduceSub, Nat.reduceMul, nI_add, nI_leI, nI_ltI, nI_eq, z_eq, z_lt, z_le, z_gt, z_ge, ↓reduceIte, not_true_eq_false, not_false_eq_true, if_true, if_false, kv_s, kh_s, kn_s, kc_v, kc_n] <;> rfl
theorem m121 (a : sT) (k v : Nat) (hk : k ≤ 4) (hv : v ≤ mc k) : ex 121 [.ref 77, .int (nI k), .int (nI v)] (MO H (u1 ι 0 (flat a)) z κ) = some (some (.int (m_cost a k v).1), MO H (u1 ι 0 (flat (m_cost a k v).2)) z κ) := by
  have h99 : mc k ≤ 99 := by unfold mc; (repeat' split) <;> omega
  have hf := fl1 a k (by omega)
  have hu := fu1 a k v (by omega)
  simp (disch := first | omega | assumption | exact MO_isO _ _ _ _ | (refine b30 ?_; omega) | (refine nI_inR ?_ ?_ ?_ <;> omega)) only [x121, e121_0, e121_1, e121_2, e121_3, e121_6, e121_9, e121_10, e121_11, e121_12, e121_15, e121_18, e121_21, e121_23, e121_24, e121_25, e121_28, e121_30, e121_31, e121_32, e121_33, e121_34, e121_35, e121_38, e121_40, e121_41, e121_42, e121_43, e121_44, e121_45, Nat.reduceEqDiff, Nat.one_ne_zero, Nat.reduceLT, Nat.reduceLeDiff, Nat.reduceAdd, Nat.reduceSub, Nat.reduceMul, nI_add, nI_leI, nI_ltI, nI_eq, z_eq, z_lt, z_le, z_gt, z_ge, ↓reduceIte, not_true_eq_false, not_false_eq_true, if_true, if_false, kv_s, kh_s, kn_s, kc_v, kc_n, MO_isO, MO_f0, MO_f1, MO_f2, MO_f3, MO_f4, MO_f5, MO_f6, MO_f7, MO_f8, MO_f9, MO_f10, MO_f11, MO_f12, MO_f13, MO_f14, MO_i0, MO_i1, MO_i2, MO_i3, MO_i4, MO_i5, MO_j0, MO_j1, MO_j2, MO_j3, MO_wi0, MO_wi1, MO_wi2, MO_wi3, MO_wi4, MO_wi5, MO_wj0, MO_wj1, MO_wj2, MO_wj3, MO_k0, MO_k1, MO_k2, MO_k3, MO_k4, m117i, m122, u1_0, u2_u1, hf]
  unfold m_cost
  rw [hu]
theorem m124 (a : sT) (p lo hi : Nat) (h1 : 1 ≤ p) (h2 : p ≤ 6) (h3 : lo ≤ hi) (h4 : hi ≤ 20) : ex 124 [.ref 77, .int (nI p), .int (nI lo), .int (nI hi)] (MO H (u1 ι 0 (flat a)) z κ) = some (some (.int (m_plan a p lo hi).1), MO H (u1 ι 0 (flat (m_plan a p lo hi).2)) z κ) := by
  have e1 := fl2 a p h1 (by omega)
  have e2 := fl3 a p h1 (by omega)
  simp (disch := first | omega | assumption | exact MO_isO _ _ _ _ | (refine b30 ?_; omega) | (refine nI_inR ?_ ?_ ?_ <;> omega)) only [x124, e124_0, e124_1, e124_2, e124_4, e124_7, e124_10, e124_11, e124_12, e124_14, e124_17, e124_20, e124_21, e124_22, e124_24, e124_27, e124_30, e124_32, e124_33, e124_35, e124_36, e124_39, e124_41, e124_42, e124_43, e124_44, e124_45, e124_46, e124_49, e124_51, e124_52, e124_53, e124_54, e124_55, e124_57, e124_58, e124_61, e124_63, e124_64, e124_65, e124_66, e124_67, e124_68, e124_71, e124_73, e124_74, e124_75, e124_76, e124_77, e124_79, Nat.reduceEqDiff, Nat.one_ne_zero, Nat.reduceLT, Nat.reduceLeDiff, Nat.reduceAdd, Nat.reduceSub, Nat.reduceMul, nI_add, nI_leI, nI_ltI, nI_eq, z_eq, z_lt, z_le, z_gt, z_ge, ↓reduceIte, not_true_eq_false, not_false_eq_true, if_true, if_false, kv_s, kh_s, kn_s, kc_v, kc_n, MO_isO, MO_f0, MO_f1, MO_f2, MO_f3, MO_f4, MO_f5, MO_f6, MO_f7, MO_f8, MO_f9, MO_f10, MO_f11, MO_f12, MO_f13, MO_f14, MO_i0, MO_i1, MO_i2, MO_i3, MO_i4, MO_i5, MO_j0, MO_j1, MO_j2, MO_j3, MO_wi0, MO_wi1, MO_wi2, MO_wi3, MO_wi4, MO_wi5, MO_wj0, MO_wj1, MO_wj2, MO_wj3, MO_k0, MO_k1, MO_k2, MO_k3, MO_k4, m117i, u1_0, u2_u1, e1, e2, pk_mul]
  unfold m_plan
  rw [fu3 _ p hi h1 (by omega), fu2 _ p lo h1 (by omega)]
theorem m126 (a : sT) (st p : Nat) (h1 : 1 ≤ p) (h2 : p ≤ 6) (h3 : st ≤ 20) : ex 126 [.ref 77, .int (nI st), .int (nI p)] (MO H (u1 ι 0 (flat a)) z κ) = some (some (.int (m_season a st p).1), MO H (u1 ι 0 (flat (m_season a st p).2)) z κ) := by
  simp (disch := first | omega | assumption | exact MO_isO _ _ _ _ | (refine b30 ?_; omega) | (refine nI_inR ?_ ?_ ?_ <;> omega)) only [x126, e126_0, e126_1, e126_2, e126_4, e126_7, e126_10, e126_11, e126_12, e126_14, e126_17, e126_20, e126_22, e126_23, e126_24, e126_27, e126_29, e126_30, e126_31, e126_32, e126_35, e126_37, e126_38, e126_39, e126_40, e126_43, e126_45, e126_46, e126_47, e126_48, e126_51, e126_53, e126_54, e126_55, e126_56, Nat.reduceEqDiff, Nat.one_ne_zero, Nat.reduceLT, Nat.reduceLeDiff, Nat.reduceAdd, Nat.reduceSub, Nat.reduceMul, nI_add, nI_leI, nI_ltI, nI_eq, z_eq, z_lt, z_le, z_gt, z_ge, ↓reduceIte, not_true_eq_false, not_false_eq_true, if_true, if_false, kv_s, kh_s, kn_s, kc_v, kc_n, MO_isO, MO_f0, MO_f1, MO_f2, MO_f3, MO_f4, MO_f5, MO_f6, MO_f7, MO_f8, MO_f9, MO_f10, MO_f11, MO_f12, MO_f13, MO_f14, MO_i0, MO_i1, MO_i2, MO_i3, MO_i4, MO_i5, MO_j0, MO_j1, MO_j2, MO_j3, MO_wi0, MO_wi1, MO_wi2, MO_wi3, MO_wi4, MO_wi5, MO_wj0, MO_wj1, MO_wj2, MO_wj3, MO_k0, MO_k1, MO_k2, MO_k3, MO_k4, m117i, u1_0, u2_u1]
  unfold m_season
  rw [fuS _ 7 0 (by omega) (by omega), fuS _ 6 p (by omega) (by omega), fuS _ 5 st (by omega) (by omega)]
  rfl
end
