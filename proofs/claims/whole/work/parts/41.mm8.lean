-- PART 41: the reference's methods, eighth: the history
theorem u2_u1k (ι : sT) (k : Nat) (F : Nat → Nat) (i x : Nat) : u2 (u1 ι k F) k i x = u1 ι k (upN F i x) := by
  funext k' j
  rw [u2_app]
  by_cases hk : k' = k
  · subst hk
    rw [u1_s, u1_s, upN_app]
    simp
  · rw [if_neg (by omega), u1_n _ _ _ _ hk, u1_n _ _ _ _ hk]
theorem u1_id (ι : sT) (k : Nat) : u1 ι k (ι k) = ι := by
  funext k' j
  unfold u1
  split
  · rename_i h
    rw [h]
  · rfl
def shP (F : Nat → Nat) (n : Nat) : Nat → Nat := fun i => if i < n then F (i + 58) else F i
def wrP (F : Nat → Nat) (c : Nat) (G : Nat → Nat) (n : Nat) : Nat → Nat := fun i => if c ≤ i ∧ i < c + n then G (i - c) else F i
theorem shP_0 (F : Nat → Nat) : shP F 0 = F := by
  funext i
  exact if_neg (by omega)
theorem shP_s (F : Nat → Nat) (n : Nat) : upN (shP F n) n (F (n + 58)) = shP F (n + 1) := by
  funext i
  rw [upN_app]
  unfold shP
  by_cases h : i = n
  · rw [if_pos h, if_pos (by omega), h]
  · rw [if_neg h]
    by_cases h2 : i < n
    · rw [if_pos h2, if_pos (by omega)]
    · rw [if_neg h2, if_neg (by omega)]
theorem wrP_0 (F : Nat → Nat) (c : Nat) (G : Nat → Nat) : wrP F c G 0 = F := by
  funext i
  exact if_neg (by omega)
theorem wrP_s (F : Nat → Nat) (c : Nat) (G : Nat → Nat) (n : Nat) : upN (wrP F c G n) (c + n) (G n) = wrP F c G (n + 1) := by
  funext i
  rw [upN_app]
  unfold wrP
  by_cases h : i = c + n
  · rw [if_pos h, if_pos (by omega), h, show c + n - c = n by omega]
  · rw [if_neg h]
    by_cases h2 : c ≤ i ∧ i < c + n
    · rw [if_pos h2, if_pos (by omega)]
    · rw [if_neg h2, if_neg (by omega)]
section
variable (H : pi_H) (ι : sT) (z : jT) (κ : kT)
theorem l119a (F : Nat → Nat) (r : Int32) : ev 119 16 [some (.ref 77), some (.int r), some (.int (nI 0))] [] (MO H (u1 ι 2 F) z κ) = ev 119 44 [some (.ref 77), some (.int r), some (.int (nI 174))] [] (MO H (u1 ι 2 (shP F 174)) z κ) := by
  have h := ev_loop (fun n => ev 119 16 [some (.ref 77), some (.int r), some (.int (nI n))] [] (MO H (u1 ι 2 (shP F n)) z κ)) 174 (fun n hn => by
    have e := shP_s F n
    have e2 : shP F n (n + 58) = F (n + 58) := if_neg (by omega)
    have e3 : u1 ι 2 (shP F n) 2 = shP F n := u1_s _ _ _
    rw [← e, e119_16]
    simp (disch := first | omega | assumption | exact MO_isO _ _ _ _ | (refine b30 ?_; omega) | (refine nI_inR ?_ ?_ ?_ <;> omega)) only [x119, e119_0, e119_1, e119_4, e119_5, e119_6, e119_7, e119_10, e119_11, e119_14, e119_15, e119_17, e119_20, e119_23, e119_24, e119_27, e119_28, e119_29, e119_32, e119_33, e119_35, e119_36, e119_37, e119_38, e119_41, e119_44, e119_45, e119_46, e119_49, e119_50, e119_51, e119_54, e119_55, e119_56, e119_57, e119_59, e119_62, e119_63, e119_66, e119_68, e119_69, e119_72, e119_73, e119_74, e119_75, e119_76, e119_79, e119_80, e119_81, e119_82, e119_85, e119_88, e119_89, e119_90, e119_93, e119_94, e119_95, e119_98, e119_99, Nat.reduceEqDiff, Nat.one_ne_zero, Nat.reduceLT, Nat.reduceLeDiff, Nat.reduceAdd, Nat.reduceSub, Nat.reduceMul, nI_add, nI_leI, nI_ltI, nI_eq, z_eq, z_lt, z_le, z_gt, z_ge, ↓reduceIte, not_true_eq_false, not_false_eq_true, if_true, if_false, kv_s, kh_s, kn_s, kc_v, kc_n, MO_isO, MO_f0, MO_f1, MO_f2, MO_f3, MO_f4, MO_f5, MO_f6, MO_f7, MO_f8, MO_f9, MO_f10, MO_f11, MO_f12, MO_f13, MO_f14, MO_i0, MO_i1, MO_i2, MO_i3, MO_i4, MO_i5, MO_j0, MO_j1, MO_j2, MO_j3, MO_wi0, MO_wi1, MO_wi2, MO_wi3, MO_wi4, MO_wi5, MO_wj0, MO_wj1, MO_wj2, MO_wj3, MO_k0, MO_k1, MO_k2, MO_k3, MO_k4, u2_u1k, e3, e2, show ¬ 174 ≤ n by omega])
  rw [shP_0] at h
  rw [h, e119_16]
  simp (disch := first | omega | assumption | exact MO_isO _ _ _ _ | (refine b30 ?_; omega) | (refine nI_inR ?_ ?_ ?_ <;> omega)) only [x119, e119_0, e119_1, e119_4, e119_5, e119_6, e119_7, e119_10, e119_11, e119_14, e119_15, e119_17, e119_20, e119_23, e119_24, e119_27, e119_28, e119_29, e119_32, e119_33, e119_35, e119_36, e119_37, e119_38, e119_41, e119_45, e119_46, e119_49, e119_50, e119_51, e119_54, e119_55, e119_56, e119_57, e119_59, e119_62, e119_63, e119_66, e119_68, e119_69, e119_72, e119_73, e119_74, e119_75, e119_76, e119_79, e119_80, e119_81, e119_82, e119_85, e119_88, e119_89, e119_90, e119_93, e119_94, e119_95, e119_98, e119_99, Nat.reduceEqDiff, Nat.one_ne_zero, Nat.reduceLT, Nat.reduceLeDiff, Nat.reduceAdd, Nat.reduceSub, Nat.reduceMul, nI_add, nI_leI, nI_ltI, nI_eq, z_eq, z_lt, z_le, z_gt, z_ge, ↓reduceIte, not_true_eq_false, not_false_eq_true, if_true, if_false, kv_s, kh_s, kn_s, kc_v, kc_n]
theorem l119b (F : Nat → Nat) (r : Int32) (n0 : Nat) (hn0 : n0 ≤ 3) (hκ : κ 0 = n0) : ev 119 56 [some (.ref 77), some (.int r), some (.int (nI 0))] [] (MO H (u1 ι 2 F) z κ) = some (some (.int r), MO H (u1 ι 2 (wrP F (58 * n0) (ι 1) 58)) z (uk κ 0 (n0 + 1))) := by
  have h := ev_loop (fun n => ev 119 56 [some (.ref 77), some (.int r), some (.int (nI n))] [] (MO H (u1 ι 2 (wrP F (58 * n0) (ι 1) n)) z κ)) 58 (fun n hn => by
    have e := wrP_s F (58 * n0) (ι 1) n
    have e3 : u1 ι 2 (wrP F (58 * n0) (ι 1) n) 1 = ι 1 := u1_n _ _ _ _ (by omega)
    rw [← e, e119_56]
    simp (disch := first | omega | assumption | exact MO_isO _ _ _ _ | (refine b30 ?_; omega) | (refine nI_inR ?_ ?_ ?_ <;> omega)) only [x119, e119_0, e119_1, e119_4, e119_5, e119_6, e119_7, e119_10, e119_11, e119_14, e119_15, e119_16, e119_17, e119_20, e119_23, e119_24, e119_27, e119_28, e119_29, e119_32, e119_33, e119_35, e119_36, e119_37, e119_38, e119_41, e119_44, e119_45, e119_46, e119_49, e119_50, e119_51, e119_54, e119_55, e119_57, e119_59, e119_62, e119_63, e119_66, e119_68, e119_69, e119_72, e119_73, e119_74, e119_75, e119_76, e119_79, e119_80, e119_81, e119_82, e119_85, e119_88, e119_89, e119_90, e119_93, e119_94, e119_95, e119_98, e119_99, Nat.reduceEqDiff, Nat.one_ne_zero, Nat.reduceLT, Nat.reduceLeDiff, Nat.reduceAdd, Nat.reduceSub, Nat.reduceMul, nI_add, nI_leI, nI_ltI, nI_eq, z_eq, z_lt, z_le, z_gt, z_ge, ↓reduceIte, not_true_eq_false, not_false_eq_true, if_true, if_false, kv_s, kh_s, kn_s, kc_v, kc_n, MO_isO, MO_f0, MO_f1, MO_f2, MO_f3, MO_f4, MO_f5, MO_f6, MO_f7, MO_f8, MO_f9, MO_f10, MO_f11, MO_f12, MO_f13, MO_f14, MO_i0, MO_i1, MO_i2, MO_i3, MO_i4, MO_i5, MO_j0, MO_j1, MO_j2, MO_j3, MO_wi0, MO_wi1, MO_wi2, MO_wi3, MO_wi4, MO_wi5, MO_wj0, MO_wj1, MO_wj2, MO_wj3, MO_k0, MO_k1, MO_k2, MO_k3, MO_k4, u2_u1k, e3, hκ, pk_mul, show ¬ 58 ≤ n by omega])
  rw [wrP_0] at h
  rw [h, e119_56]
  simp (disch := first | omega | assumption | exact MO_isO _ _ _ _ | (refine b30 ?_; omega) | (refine nI_inR ?_ ?_ ?_ <;> omega)) only [x119, e119_0, e119_1, e119_4, e119_5, e119_6, e119_7, e119_10, e119_11, e119_14, e119_15, e119_16, e119_17, e119_20, e119_23, e119_24, e119_27, e119_28, e119_29, e119_32, e119_33, e119_35, e119_36, e119_37, e119_38, e119_41, e119_44, e119_45, e119_46, e119_49, e119_50, e119_51, e119_54, e119_55, e119_57, e119_59, e119_62, e119_63, e119_66, e119_68, e119_69, e119_72, e119_73, e119_74, e119_75, e119_76, e119_79, e119_80, e119_81, e119_82, e119_85, e119_88, e119_89, e119_90, e119_93, e119_94, e119_95, e119_98, e119_99, Nat.reduceEqDiff, Nat.one_ne_zero, Nat.reduceLT, Nat.reduceLeDiff, Nat.reduceAdd, Nat.reduceSub, Nat.reduceMul, nI_add, nI_leI, nI_ltI, nI_eq, z_eq, z_lt, z_le, z_gt, z_ge, ↓reduceIte, not_true_eq_false, not_false_eq_true, if_true, if_false, kv_s, kh_s, kn_s, kc_v, kc_n, MO_isO, MO_f0, MO_f1, MO_f2, MO_f3, MO_f4, MO_f5, MO_f6, MO_f7, MO_f8, MO_f9, MO_f10, MO_f11, MO_f12, MO_f13, MO_f14, MO_i0, MO_i1, MO_i2, MO_i3, MO_i4, MO_i5, MO_j0, MO_j1, MO_j2, MO_j3, MO_wi0, MO_wi1, MO_wi2, MO_wi3, MO_wi4, MO_wi5, MO_wj0, MO_wj1, MO_wj2, MO_wj3, MO_k0, MO_k1, MO_k2, MO_k3, MO_k4, hκ]
end
