-- PART 42: the reference's methods, ninth: an act is recorded
/-- n states stand in the reference's past, the oldest first -/
def okPast (h : Nat → sT) (n : Nat) (P : Nat → Nat) : Prop := ∀ j, j < n → ∀ i, i < 58 → P (58 * j + i) = flat (h j) i
/-- a state more, of which 4 at most are kept -/
def pushH (h : Nat → sT) (n : Nat) (a : sT) : Nat → sT := if n = 4 then (fun j => if j = 3 then a else h (j + 1)) else (fun j => if j = n then a else h j)
def pushN (n : Nat) : Nat := if n = 4 then 4 else n + 1
section
variable (H : pi_H) (ι : sT) (z : jT) (κ : kT)
theorem m119n (x : Int32) (h : x < 0) : ex 119 [.ref 77, .int x] H = some (some (.int x), H) := by
  have h2 : ¬ 0 ≤ x := by grind
  simp (disch := first | omega | assumption | exact MO_isO _ _ _ _ | (refine b30 ?_; omega) | (refine nI_inR ?_ ?_ ?_ <;> omega)) only [x119, e119_0, e119_1, e119_4, e119_5, e119_6, e119_7, e119_10, e119_11, e119_14, e119_15, e119_16, e119_17, e119_20, e119_23, e119_24, e119_27, e119_28, e119_29, e119_32, e119_33, e119_35, e119_36, e119_37, e119_38, e119_41, e119_44, e119_45, e119_46, e119_49, e119_50, e119_51, e119_54, e119_55, e119_56, e119_57, e119_59, e119_62, e119_63, e119_66, e119_68, e119_69, e119_72, e119_73, e119_74, e119_75, e119_76, e119_79, e119_80, e119_81, e119_82, e119_85, e119_88, e119_89, e119_90, e119_93, e119_94, e119_95, e119_98, e119_99, Nat.reduceEqDiff, Nat.one_ne_zero, Nat.reduceLT, Nat.reduceLeDiff, Nat.reduceAdd, Nat.reduceSub, Nat.reduceMul, nI_add, nI_leI, nI_ltI, nI_eq, z_eq, z_lt, z_le, z_gt, z_ge, ↓reduceIte, not_true_eq_false, not_false_eq_true, if_true, if_false, kv_s, kh_s, kn_s, kc_v, kc_n, h2]
theorem m119 (h : Nat → sT) (n r : Nat) (hr : r < 2 ^ 31) (hn : n ≤ 4) (hκ : κ 0 = n) (a : sT) (hP : okPast h n (ι 2)) (hb : ∀ i, i < 58 → ι 1 i = flat a i) : ∃ (P : Nat → Nat), ex 119 [.ref 77, .int (nI r)] (MO H ι z κ) = some (some (.int (nI r)), MO H (u1 ι 2 P) z (uk κ 0 (pushN n))) ∧ okPast (pushH h n a) (pushN n) P := by
  by_cases q : n = 4
  · subst q
    have hk : ∀ i, uk κ 0 3 i = if i = 0 then 3 else κ i := fun _ => rfl
    have e2 := l119b H ι z (uk κ 0 3) (shP (ι 2) 174) (nI r) 3 (by omega) rfl
    have e1 := l119a H ι z κ (ι 2) (nI r)
    rw [u1_id] at e1
    have e3 : uk (uk κ 0 3) 0 (3 + 1) = uk κ 0 (pushN 4) := by
      funext i
      unfold uk pushN
      split <;> rfl
    refine ⟨wrP (shP (ι 2) 174) (58 * 3) (ι 1) 58, ?_, ?_⟩
    · simp (disch := first | omega | assumption | exact MO_isO _ _ _ _ | (refine b30 ?_; omega) | (refine nI_inR ?_ ?_ ?_ <;> omega)) only [x119, e119_0, e119_1, e119_4, e119_5, e119_6, e119_7, e119_10, e119_11, e119_14, e119_15, e119_17, e119_20, e119_23, e119_24, e119_27, e119_28, e119_29, e119_32, e119_33, e119_35, e119_36, e119_37, e119_38, e119_41, e119_44, e119_45, e119_46, e119_49, e119_50, e119_51, e119_54, e119_55, e119_57, e119_59, e119_62, e119_63, e119_66, e119_68, e119_69, e119_72, e119_73, e119_74, e119_75, e119_76, e119_79, e119_80, e119_81, e119_82, e119_85, e119_88, e119_89, e119_90, e119_93, e119_94, e119_95, e119_98, e119_99, Nat.reduceEqDiff, Nat.one_ne_zero, Nat.reduceLT, Nat.reduceLeDiff, Nat.reduceAdd, Nat.reduceSub, Nat.reduceMul, nI_add, nI_leI, nI_ltI, nI_eq, z_eq, z_lt, z_le, z_gt, z_ge, ↓reduceIte, not_true_eq_false, not_false_eq_true, if_true, if_false, kv_s, kh_s, kn_s, kc_v, kc_n, MO_isO, MO_f0, MO_f1, MO_f2, MO_f3, MO_f4, MO_f5, MO_f6, MO_f7, MO_f8, MO_f9, MO_f10, MO_f11, MO_f12, MO_f13, MO_f14, MO_i0, MO_i1, MO_i2, MO_i3, MO_i4, MO_i5, MO_j0, MO_j1, MO_j2, MO_j3, hκ]
      rw [e1]
      simp (disch := first | omega | assumption | exact MO_isO _ _ _ _ | (refine b30 ?_; omega) | (refine nI_inR ?_ ?_ ?_ <;> omega)) only [x119, e119_0, e119_1, e119_4, e119_5, e119_6, e119_7, e119_10, e119_11, e119_14, e119_15, e119_17, e119_20, e119_23, e119_24, e119_27, e119_28, e119_29, e119_32, e119_33, e119_35, e119_36, e119_37, e119_38, e119_41, e119_44, e119_45, e119_46, e119_49, e119_50, e119_51, e119_54, e119_55, e119_57, e119_59, e119_62, e119_63, e119_66, e119_68, e119_69, e119_72, e119_73, e119_74, e119_75, e119_76, e119_79, e119_80, e119_81, e119_82, e119_85, e119_88, e119_89, e119_90, e119_93, e119_94, e119_95, e119_98, e119_99, Nat.reduceEqDiff, Nat.one_ne_zero, Nat.reduceLT, Nat.reduceLeDiff, Nat.reduceAdd, Nat.reduceSub, Nat.reduceMul, nI_add, nI_leI, nI_ltI, nI_eq, z_eq, z_lt, z_le, z_gt, z_ge, ↓reduceIte, not_true_eq_false, not_false_eq_true, if_true, if_false, kv_s, kh_s, kn_s, kc_v, kc_n, MO_isO, MO_f0, MO_f1, MO_f2, MO_f3, MO_f4, MO_f5, MO_f6, MO_f7, MO_f8, MO_f9, MO_f10, MO_f11, MO_f12, MO_f13, MO_f14, MO_i0, MO_i1, MO_i2, MO_i3, MO_i4, MO_i5, MO_j0, MO_j1, MO_j2, MO_j3, MO_wi0, MO_wi1, MO_wi2, MO_wi3, MO_wi4, MO_wi5, MO_wj0, MO_wj1, MO_wj2, MO_wj3, MO_k0, MO_k1, MO_k2, MO_k3, MO_k4, hκ, pk_sub]
      rw [e2, e3]
    · intro j hj i hi
      unfold pushN at hj
      rw [if_pos rfl] at hj
      unfold pushH wrP shP
      rw [if_pos rfl]
      by_cases h3 : j = 3
      · rw [if_pos (by omega), if_pos h3, show 58 * j + i - 58 * 3 = i by omega, hb i hi]
      · rw [if_neg (by omega), if_pos (by omega), if_neg h3, show 58 * j + i + 58 = 58 * (j + 1) + i by omega, hP (j + 1) (by omega) i hi]
  · have e2 := l119b H ι z κ (ι 2) (nI r) n (by omega) hκ
    rw [u1_id] at e2
    have e3 : n + 1 = pushN n := by
      unfold pushN
      rw [if_neg q]
    refine ⟨wrP (ι 2) (58 * n) (ι 1) 58, ?_, ?_⟩
    · simp (disch := first | omega | assumption | exact MO_isO _ _ _ _ | (refine b30 ?_; omega) | (refine nI_inR ?_ ?_ ?_ <;> omega)) only [x119, e119_0, e119_1, e119_4, e119_5, e119_6, e119_7, e119_10, e119_11, e119_14, e119_15, e119_17, e119_20, e119_23, e119_24, e119_27, e119_28, e119_29, e119_32, e119_33, e119_35, e119_36, e119_37, e119_38, e119_41, e119_44, e119_45, e119_46, e119_49, e119_50, e119_51, e119_54, e119_55, e119_57, e119_59, e119_62, e119_63, e119_66, e119_68, e119_69, e119_72, e119_73, e119_74, e119_75, e119_76, e119_79, e119_80, e119_81, e119_82, e119_85, e119_88, e119_89, e119_90, e119_93, e119_94, e119_95, e119_98, e119_99, Nat.reduceEqDiff, Nat.one_ne_zero, Nat.reduceLT, Nat.reduceLeDiff, Nat.reduceAdd, Nat.reduceSub, Nat.reduceMul, nI_add, nI_leI, nI_ltI, nI_eq, z_eq, z_lt, z_le, z_gt, z_ge, ↓reduceIte, not_true_eq_false, not_false_eq_true, if_true, if_false, kv_s, kh_s, kn_s, kc_v, kc_n, MO_isO, MO_f0, MO_f1, MO_f2, MO_f3, MO_f4, MO_f5, MO_f6, MO_f7, MO_f8, MO_f9, MO_f10, MO_f11, MO_f12, MO_f13, MO_f14, MO_i0, MO_i1, MO_i2, MO_i3, MO_i4, MO_i5, MO_j0, MO_j1, MO_j2, MO_j3, hκ, q]
      rw [e2, e3]
    · intro j hj i hi
      rw [← e3] at hj
      unfold pushH wrP
      rw [if_neg q]
      by_cases h3 : j = n
      · rw [if_pos (by omega), if_pos h3, show 58 * j + i - 58 * n = i by rw [h3]; omega, hb i hi]
      · rw [if_neg (by omega), if_neg h3, hP j (by omega) i hi]
end
