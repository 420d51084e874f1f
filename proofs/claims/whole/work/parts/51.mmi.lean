-- PART 51: the reference's methods, seventeenth: gaps, the shape
theorem fst1_le (P : Nat → Bool) : ∀ n v, fst1 P n = some v → v ≤ n
  | 0, v, h => by cases h
  | n + 1, v, h => by
    have e : fst1 P (n + 1) = match fst1 P n with | some v => some v | none => if P (n + 1) then some (n + 1) else none := rfl
    rw [e] at h
    cases hn : fst1 P n with
    | none =>
      rw [hn] at h
      dsimp only at h
      split at h
      · cases h; exact Nat.le_refl _
      · cases h
    | some w =>
      rw [hn] at h
      dsimp only at h
      cases h
      exact Nat.le_succ_of_le (fst1_le P n v hn)
theorem lastO_lt (b : Nat → Nat) : ∀ n v, lastO b n = some v → v < n
  | 0, v, h => by cases h
  | n + 1, v, h => by
    unfold lastO at h
    split at h
    · cases h; omega
    · exact Nat.lt_succ_of_lt (lastO_lt b n v h)
theorem neg1 : ¬ (0 : Int32) ≤ -1 := by decide
section
variable (H : pi_H) (ι : sT) (z : jT) (κ : kT)
theorem l153 (P : Nat → Bool) (n o f : Int32) (j : Nat) (hj : j < 20) (v7 : Option Value) : ev 153 66 [some (.ref 77), some (.int n), some (.int o), some (.int f), some (.int (nI (cnt P j))), some (.int (o1 (fst1 P j))), some (.int (nI (j + 1))), v7] [.int (bI (P (j + 1) = true))] (MO H ι z κ) = ev 153 9 [some (.ref 77), some (.int n), some (.int o), some (.int f), some (.int (nI (cnt P (j + 1)))), some (.int (o1 (fst1 P (j + 1)))), some (.int (nI (j + 1 + 1))), some (.int (bI (P (j + 1) = true)))] [] (MO H ι z κ) := by
  have hn1 := neg1
  have hc := cnt_le P j
  have e : cnt P (j + 1) = cnt P j + (if P (j + 1) then 1 else 0) := rfl
  rw [e]
  cases hq : fst1 P j with
  | none =>
    rw [fst1_s P j hq]
    by_cases h : P (j + 1) = true
    · rw [if_pos h, if_pos h]
      show ev 153 66 [_, _, _, _, _, some (.int (-1)), _, _] _ _ = _
      simp (disch := first | omega | assumption | exact MO_isO _ _ _ _ | (refine b30 ?_; omega) | (refine nI_inR ?_ ?_ ?_ <;> omega)) only [x153, e153_0, e153_1, e153_3, e153_4, e153_6, e153_7, e153_11, e153_12, e153_15, e153_17, e153_20, e153_22, e153_25, e153_26, e153_29, e153_30, e153_31, e153_33, e153_36, e153_39, e153_40, e153_41, e153_43, e153_44, e153_45, e153_48, e153_51, e153_52, e153_55, e153_56, e153_59, e153_60, e153_61, e153_63, e153_66, e153_68, e153_70, e153_73, e153_75, e153_78, e153_80, e153_83, e153_85, e153_87, e153_89, e153_91, e153_94, e153_95, e153_98, e153_99, e153_100, e153_102, e153_105, e153_108, e153_109, e153_112, e153_114, e153_117, e153_119, kv_s, kh_s, kn_s, kc_v, kc_n, Nat.reduceEqDiff, Nat.one_ne_zero, Nat.reduceLT, Nat.reduceLeDiff, Nat.reduceAdd, Nat.reduceSub, Nat.reduceMul, nI_add, nI_leI, nI_ltI, nI_eq, z_eq, z_lt, z_le, z_gt, z_ge, ↓reduceIte, not_true_eq_false, not_false_eq_true, if_true, if_false, bI_z, h, hn1, Bool.false_eq_true, Nat.add_zero]
      rfl
    · rw [if_neg h, if_neg h]
      show ev 153 66 [_, _, _, _, _, some (.int (-1)), _, _] _ _ = _
      simp (disch := first | omega | assumption | exact MO_isO _ _ _ _ | (refine b30 ?_; omega) | (refine nI_inR ?_ ?_ ?_ <;> omega)) only [x153, e153_0, e153_1, e153_3, e153_4, e153_6, e153_7, e153_11, e153_12, e153_15, e153_17, e153_20, e153_22, e153_25, e153_26, e153_29, e153_30, e153_31, e153_33, e153_36, e153_39, e153_40, e153_41, e153_43, e153_44, e153_45, e153_48, e153_51, e153_52, e153_55, e153_56, e153_59, e153_60, e153_61, e153_63, e153_66, e153_68, e153_70, e153_73, e153_75, e153_78, e153_80, e153_83, e153_85, e153_87, e153_89, e153_91, e153_94, e153_95, e153_98, e153_99, e153_100, e153_102, e153_105, e153_108, e153_109, e153_112, e153_114, e153_117, e153_119, kv_s, kh_s, kn_s, kc_v, kc_n, Nat.reduceEqDiff, Nat.one_ne_zero, Nat.reduceLT, Nat.reduceLeDiff, Nat.reduceAdd, Nat.reduceSub, Nat.reduceMul, nI_add, nI_leI, nI_ltI, nI_eq, z_eq, z_lt, z_le, z_gt, z_ge, ↓reduceIte, not_true_eq_false, not_false_eq_true, if_true, if_false, bI_z, h, hn1, Bool.false_eq_true, Nat.add_zero]
      rfl
  | some v =>
    have hv := fst1_le P j v hq
    rw [fst1_k P j v hq 1]
    show ev 153 66 [_, _, _, _, _, some (.int (nI v)), _, _] _ _ = ev 153 9 [_, _, _, _, _, some (.int (nI v)), _, _] _ _
    by_cases h : P (j + 1) = true
    · rw [if_pos h]
      simp (disch := first | omega | assumption | exact MO_isO _ _ _ _ | (refine b30 ?_; omega) | (refine nI_inR ?_ ?_ ?_ <;> omega)) only [x153, e153_0, e153_1, e153_3, e153_4, e153_6, e153_7, e153_11, e153_12, e153_15, e153_17, e153_20, e153_22, e153_25, e153_26, e153_29, e153_30, e153_31, e153_33, e153_36, e153_39, e153_40, e153_41, e153_43, e153_44, e153_45, e153_48, e153_51, e153_52, e153_55, e153_56, e153_59, e153_60, e153_61, e153_63, e153_66, e153_68, e153_70, e153_73, e153_75, e153_78, e153_80, e153_83, e153_85, e153_87, e153_89, e153_91, e153_94, e153_95, e153_98, e153_99, e153_100, e153_102, e153_105, e153_108, e153_109, e153_112, e153_114, e153_117, e153_119, kv_s, kh_s, kn_s, kc_v, kc_n, Nat.reduceEqDiff, Nat.one_ne_zero, Nat.reduceLT, Nat.reduceLeDiff, Nat.reduceAdd, Nat.reduceSub, Nat.reduceMul, nI_add, nI_leI, nI_ltI, nI_eq, z_eq, z_lt, z_le, z_gt, z_ge, ↓reduceIte, not_true_eq_false, not_false_eq_true, if_true, if_false, bI_z, h, hn1, Bool.false_eq_true, Nat.add_zero]
    · rw [if_neg h]
      simp (disch := first | omega | assumption | exact MO_isO _ _ _ _ | (refine b30 ?_; omega) | (refine nI_inR ?_ ?_ ?_ <;> omega)) only [x153, e153_0, e153_1, e153_3, e153_4, e153_6, e153_7, e153_11, e153_12, e153_15, e153_17, e153_20, e153_22, e153_25, e153_26, e153_29, e153_30, e153_31, e153_33, e153_36, e153_39, e153_40, e153_41, e153_43, e153_44, e153_45, e153_48, e153_51, e153_52, e153_55, e153_56, e153_59, e153_60, e153_61, e153_63, e153_66, e153_68, e153_70, e153_73, e153_75, e153_78, e153_80, e153_83, e153_85, e153_87, e153_89, e153_91, e153_94, e153_95, e153_98, e153_99, e153_100, e153_102, e153_105, e153_108, e153_109, e153_112, e153_114, e153_117, e153_119, kv_s, kh_s, kn_s, kc_v, kc_n, Nat.reduceEqDiff, Nat.one_ne_zero, Nat.reduceLT, Nat.reduceLeDiff, Nat.reduceAdd, Nat.reduceSub, Nat.reduceMul, nI_add, nI_leI, nI_ltI, nI_eq, z_eq, z_lt, z_le, z_gt, z_ge, ↓reduceIte, not_true_eq_false, not_false_eq_true, if_true, if_false, bI_z, h, hn1, Bool.false_eq_true, Nat.add_zero]
theorem m153c (n : Nat) (hn : n < 7) (f : Nat) (hf : f ≤ 1) : ex 153 [.ref 77, .int (nI n), .int (nI 0), .int (nI f)] (MO H ι z κ) = some (some (.int (if f = 1 then o1 (fst1 (gapC (fun y => z 1 (21 * n + y))) 19) else nI (cnt (gapC (fun y => z 1 (21 * n + y))) 19))), MO H ι z κ) := by
  have l1 : ∀ j, j ≤ 19 → ∃ v7 : Option Value, ex 153 [.ref 77, .int (nI n), .int (nI 0), .int (nI f)] (MO H ι z κ) = ev 153 9 [some (.ref 77), some (.int (nI n)), some (.int (nI 0)), some (.int (nI f)), some (.int (nI (cnt (gapC (fun y => z 1 (21 * n + y))) j))), some (.int (o1 (fst1 (gapC (fun y => z 1 (21 * n + y))) j))), some (.int (nI (j + 1))), v7] [] (MO H ι z κ) := by
    intro j
    induction j with
    | zero =>
      intro _
      refine ⟨none, ?_⟩
      simp (disch := first | omega | assumption | exact MO_isO _ _ _ _ | (refine b30 ?_; omega) | (refine nI_inR ?_ ?_ ?_ <;> omega)) only [x153, e153_0, e153_1, e153_3, e153_4, e153_6, e153_7, e153_11, e153_12, e153_15, e153_17, e153_20, e153_22, e153_25, e153_26, e153_29, e153_30, e153_31, e153_33, e153_36, e153_39, e153_40, e153_41, e153_43, e153_44, e153_45, e153_48, e153_51, e153_52, e153_55, e153_56, e153_59, e153_60, e153_61, e153_63, e153_66, e153_68, e153_70, e153_73, e153_75, e153_78, e153_80, e153_83, e153_85, e153_87, e153_89, e153_91, e153_94, e153_95, e153_98, e153_99, e153_100, e153_102, e153_105, e153_108, e153_109, e153_112, e153_114, e153_117, e153_119, kv_s, kh_s, kn_s, kc_v, kc_n, Nat.reduceEqDiff, Nat.one_ne_zero, Nat.reduceLT, Nat.reduceLeDiff, Nat.reduceAdd, Nat.reduceSub, Nat.reduceMul, nI_add, nI_leI, nI_ltI, nI_eq, z_eq, z_lt, z_le, z_gt, z_ge, ↓reduceIte, not_true_eq_false, not_false_eq_true, if_true, if_false, Nat.zero_add]
      rfl
    | succ j ih =>
      intro hj
      obtain ⟨v7, e⟩ := ih (by omega)
      refine ⟨_, Eq.trans ?_ (l153 H ι z κ (gapC (fun y => z 1 (21 * n + y))) (nI n) (nI 0) (nI f) j (by omega) v7)⟩
      have e1 := m154 H ι z κ n (j + 1) hn (by omega) (by omega)
      rw [e, e153_9]
      simp (disch := first | omega | assumption | exact MO_isO _ _ _ _ | (refine b30 ?_; omega) | (refine nI_inR ?_ ?_ ?_ <;> omega)) only [x153, e153_0, e153_1, e153_3, e153_4, e153_6, e153_7, e153_11, e153_12, e153_15, e153_17, e153_20, e153_22, e153_25, e153_26, e153_29, e153_30, e153_31, e153_33, e153_36, e153_39, e153_40, e153_41, e153_43, e153_44, e153_45, e153_48, e153_51, e153_52, e153_55, e153_56, e153_59, e153_60, e153_61, e153_63, e153_68, e153_70, e153_73, e153_75, e153_78, e153_80, e153_83, e153_85, e153_87, e153_89, e153_91, e153_94, e153_95, e153_98, e153_99, e153_100, e153_102, e153_105, e153_108, e153_109, e153_112, e153_114, e153_117, e153_119, kv_s, kh_s, kn_s, kc_v, kc_n, Nat.reduceEqDiff, Nat.one_ne_zero, Nat.reduceLT, Nat.reduceLeDiff, Nat.reduceAdd, Nat.reduceSub, Nat.reduceMul, nI_add, nI_leI, nI_ltI, nI_eq, z_eq, z_lt, z_le, z_gt, z_ge, ↓reduceIte, not_true_eq_false, not_false_eq_true, if_true, if_false, e1, show ¬ 19 < j + 1 by omega]
  obtain ⟨v7, e⟩ := l1 19 (by omega)
  rw [e, e153_9]
  by_cases h : f = 1
  · simp (disch := first | omega | assumption | exact MO_isO _ _ _ _ | (refine b30 ?_; omega) | (refine nI_inR ?_ ?_ ?_ <;> omega)) only [x153, e153_0, e153_1, e153_3, e153_4, e153_6, e153_7, e153_11, e153_12, e153_15, e153_17, e153_20, e153_22, e153_25, e153_26, e153_29, e153_30, e153_31, e153_33, e153_36, e153_39, e153_40, e153_41, e153_43, e153_44, e153_45, e153_48, e153_51, e153_52, e153_55, e153_56, e153_59, e153_60, e153_61, e153_63, e153_68, e153_70, e153_73, e153_75, e153_78, e153_80, e153_83, e153_85, e153_87, e153_89, e153_91, e153_94, e153_95, e153_98, e153_99, e153_100, e153_102, e153_105, e153_108, e153_109, e153_112, e153_114, e153_117, e153_119, kv_s, kh_s, kn_s, kc_v, kc_n, Nat.reduceEqDiff, Nat.one_ne_zero, Nat.reduceLT, Nat.reduceLeDiff, Nat.reduceAdd, Nat.reduceSub, Nat.reduceMul, nI_add, nI_leI, nI_ltI, nI_eq, z_eq, z_lt, z_le, z_gt, z_ge, ↓reduceIte, not_true_eq_false, not_false_eq_true, if_true, if_false, h]
  · simp (disch := first | omega | assumption | exact MO_isO _ _ _ _ | (refine b30 ?_; omega) | (refine nI_inR ?_ ?_ ?_ <;> omega)) only [x153, e153_0, e153_1, e153_3, e153_4, e153_6, e153_7, e153_11, e153_12, e153_15, e153_17, e153_20, e153_22, e153_25, e153_26, e153_29, e153_30, e153_31, e153_33, e153_36, e153_39, e153_40, e153_41, e153_43, e153_44, e153_45, e153_48, e153_51, e153_52, e153_55, e153_56, e153_59, e153_60, e153_61, e153_63, e153_68, e153_70, e153_73, e153_75, e153_78, e153_80, e153_83, e153_85, e153_87, e153_89, e153_91, e153_94, e153_95, e153_98, e153_99, e153_100, e153_102, e153_105, e153_108, e153_109, e153_112, e153_114, e153_117, e153_119, kv_s, kh_s, kn_s, kc_v, kc_n, Nat.reduceEqDiff, Nat.one_ne_zero, Nat.reduceLT, Nat.reduceLeDiff, Nat.reduceAdd, Nat.reduceSub, Nat.reduceMul, nI_add, nI_leI, nI_ltI, nI_eq, z_eq, z_lt, z_le, z_gt, z_ge, ↓reduceIte, not_true_eq_false, not_false_eq_true, if_true, if_false, show f = 0 by omega]
theorem m153o (b : Nat → Nat) (n : Nat) (hn : n < 7) (hb : ∀ k, k < 21 → ι 4 (21 * n + k) = b k ∧ b k < 21) (f : Nat) (hf : f ≤ 1) : ex 153 [.ref 77, .int (nI n), .int (nI 1), .int (nI f)] (MO H ι z κ) = some (some (.int (if f = 1 then o1 (fst1 (gapO b) 20) else nI (cnt (gapO b) 20))), MO H ι z κ) := by
  have l1 : ∀ j, j ≤ 20 → ∃ v7 : Option Value, ex 153 [.ref 77, .int (nI n), .int (nI 1), .int (nI f)] (MO H ι z κ) = ev 153 9 [some (.ref 77), some (.int (nI n)), some (.int (nI 1)), some (.int (nI f)), some (.int (nI (cnt (gapO b) j))), some (.int (o1 (fst1 (gapO b) j))), some (.int (nI (j + 1))), v7] [] (MO H ι z κ) := by
    intro j
    induction j with
    | zero =>
      intro _
      refine ⟨none, ?_⟩
      simp (disch := first | omega | assumption | exact MO_isO _ _ _ _ | (refine b30 ?_; omega) | (refine nI_inR ?_ ?_ ?_ <;> omega)) only [x153, e153_0, e153_1, e153_3, e153_4, e153_6, e153_7, e153_11, e153_12, e153_15, e153_17, e153_20, e153_22, e153_25, e153_26, e153_29, e153_30, e153_31, e153_33, e153_36, e153_39, e153_40, e153_41, e153_43, e153_44, e153_45, e153_48, e153_51, e153_52, e153_55, e153_56, e153_59, e153_60, e153_61, e153_63, e153_66, e153_68, e153_70, e153_73, e153_75, e153_78, e153_80, e153_83, e153_85, e153_87, e153_89, e153_91, e153_94, e153_95, e153_98, e153_99, e153_100, e153_102, e153_105, e153_108, e153_109, e153_112, e153_114, e153_117, e153_119, kv_s, kh_s, kn_s, kc_v, kc_n, Nat.reduceEqDiff, Nat.one_ne_zero, Nat.reduceLT, Nat.reduceLeDiff, Nat.reduceAdd, Nat.reduceSub, Nat.reduceMul, nI_add, nI_leI, nI_ltI, nI_eq, z_eq, z_lt, z_le, z_gt, z_ge, ↓reduceIte, not_true_eq_false, not_false_eq_true, if_true, if_false, Nat.zero_add]
      rfl
    | succ j ih =>
      intro hj
      obtain ⟨v7, e⟩ := ih (by omega)
      refine ⟨_, Eq.trans ?_ (l153 H ι z κ (gapO b) (nI n) (nI 1) (nI f) j (by omega) v7)⟩
      have e1 := m151 H ι z κ b n hn hb (j + 1) (by omega)
      have e2 := m151 H ι z κ b n hn hb j (by omega)
      have eb : bI (gapO b (j + 1) = true) = if j + 1 < b (j + 1) then (if j < b j then nI 0 else nI 1) else nI 0 := by
        unfold bI gapO
        rw [Nat.add_sub_cancel]
        by_cases q1 : j + 1 < b (j + 1)
        · by_cases q2 : j < b j
          · simp [q1, q2]
          · simp [q1, q2]
        · simp [q1]
      rw [e, e153_9, eb]
      by_cases q1 : j + 1 < b (j + 1)
      · by_cases q2 : j < b j
        · simp (disch := first | omega | assumption | exact MO_isO _ _ _ _ | (refine b30 ?_; omega) | (refine nI_inR ?_ ?_ ?_ <;> omega)) only [x153, e153_0, e153_1, e153_3, e153_4, e153_6, e153_7, e153_11, e153_12, e153_15, e153_17, e153_20, e153_22, e153_25, e153_26, e153_29, e153_30, e153_31, e153_33, e153_36, e153_39, e153_40, e153_41, e153_43, e153_44, e153_45, e153_48, e153_51, e153_52, e153_55, e153_56, e153_59, e153_60, e153_61, e153_63, e153_68, e153_70, e153_73, e153_75, e153_78, e153_80, e153_83, e153_85, e153_87, e153_89, e153_91, e153_94, e153_95, e153_98, e153_99, e153_100, e153_102, e153_105, e153_108, e153_109, e153_112, e153_114, e153_117, e153_119, kv_s, kh_s, kn_s, kc_v, kc_n, Nat.reduceEqDiff, Nat.one_ne_zero, Nat.reduceLT, Nat.reduceLeDiff, Nat.reduceAdd, Nat.reduceSub, Nat.reduceMul, nI_add, nI_leI, nI_ltI, nI_eq, z_eq, z_lt, z_le, z_gt, z_ge, ↓reduceIte, not_true_eq_false, not_false_eq_true, if_true, if_false, e1, e2, bI_z, pk_sub, Nat.add_sub_cancel, q1, q2, show ¬ 20 < j + 1 by omega]
        · simp (disch := first | omega | assumption | exact MO_isO _ _ _ _ | (refine b30 ?_; omega) | (refine nI_inR ?_ ?_ ?_ <;> omega)) only [x153, e153_0, e153_1, e153_3, e153_4, e153_6, e153_7, e153_11, e153_12, e153_15, e153_17, e153_20, e153_22, e153_25, e153_26, e153_29, e153_30, e153_31, e153_33, e153_36, e153_39, e153_40, e153_41, e153_43, e153_44, e153_45, e153_48, e153_51, e153_52, e153_55, e153_56, e153_59, e153_60, e153_61, e153_63, e153_68, e153_70, e153_73, e153_75, e153_78, e153_80, e153_83, e153_85, e153_87, e153_89, e153_91, e153_94, e153_95, e153_98, e153_99, e153_100, e153_102, e153_105, e153_108, e153_109, e153_112, e153_114, e153_117, e153_119, kv_s, kh_s, kn_s, kc_v, kc_n, Nat.reduceEqDiff, Nat.one_ne_zero, Nat.reduceLT, Nat.reduceLeDiff, Nat.reduceAdd, Nat.reduceSub, Nat.reduceMul, nI_add, nI_leI, nI_ltI, nI_eq, z_eq, z_lt, z_le, z_gt, z_ge, ↓reduceIte, not_true_eq_false, not_false_eq_true, if_true, if_false, e1, e2, bI_z, pk_sub, Nat.add_sub_cancel, q1, q2, show ¬ 20 < j + 1 by omega]
      · simp (disch := first | omega | assumption | exact MO_isO _ _ _ _ | (refine b30 ?_; omega) | (refine nI_inR ?_ ?_ ?_ <;> omega)) only [x153, e153_0, e153_1, e153_3, e153_4, e153_6, e153_7, e153_11, e153_12, e153_15, e153_17, e153_20, e153_22, e153_25, e153_26, e153_29, e153_30, e153_31, e153_33, e153_36, e153_39, e153_40, e153_41, e153_43, e153_44, e153_45, e153_48, e153_51, e153_52, e153_55, e153_56, e153_59, e153_60, e153_61, e153_63, e153_68, e153_70, e153_73, e153_75, e153_78, e153_80, e153_83, e153_85, e153_87, e153_89, e153_91, e153_94, e153_95, e153_98, e153_99, e153_100, e153_102, e153_105, e153_108, e153_109, e153_112, e153_114, e153_117, e153_119, kv_s, kh_s, kn_s, kc_v, kc_n, Nat.reduceEqDiff, Nat.one_ne_zero, Nat.reduceLT, Nat.reduceLeDiff, Nat.reduceAdd, Nat.reduceSub, Nat.reduceMul, nI_add, nI_leI, nI_ltI, nI_eq, z_eq, z_lt, z_le, z_gt, z_ge, ↓reduceIte, not_true_eq_false, not_false_eq_true, if_true, if_false, e1, e2, bI_z, pk_sub, Nat.add_sub_cancel, q1, show ¬ 20 < j + 1 by omega]
  obtain ⟨v7, e⟩ := l1 20 (by omega)
  rw [e, e153_9]
  by_cases h : f = 1
  · simp (disch := first | omega | assumption | exact MO_isO _ _ _ _ | (refine b30 ?_; omega) | (refine nI_inR ?_ ?_ ?_ <;> omega)) only [x153, e153_0, e153_1, e153_3, e153_4, e153_6, e153_7, e153_11, e153_12, e153_15, e153_17, e153_20, e153_22, e153_25, e153_26, e153_29, e153_30, e153_31, e153_33, e153_36, e153_39, e153_40, e153_41, e153_43, e153_44, e153_45, e153_48, e153_51, e153_52, e153_55, e153_56, e153_59, e153_60, e153_61, e153_63, e153_68, e153_70, e153_73, e153_75, e153_78, e153_80, e153_83, e153_85, e153_87, e153_89, e153_91, e153_94, e153_95, e153_98, e153_99, e153_100, e153_102, e153_105, e153_108, e153_109, e153_112, e153_114, e153_117, e153_119, kv_s, kh_s, kn_s, kc_v, kc_n, Nat.reduceEqDiff, Nat.one_ne_zero, Nat.reduceLT, Nat.reduceLeDiff, Nat.reduceAdd, Nat.reduceSub, Nat.reduceMul, nI_add, nI_leI, nI_ltI, nI_eq, z_eq, z_lt, z_le, z_gt, z_ge, ↓reduceIte, not_true_eq_false, not_false_eq_true, if_true, if_false, h]
  · simp (disch := first | omega | assumption | exact MO_isO _ _ _ _ | (refine b30 ?_; omega) | (refine nI_inR ?_ ?_ ?_ <;> omega)) only [x153, e153_0, e153_1, e153_3, e153_4, e153_6, e153_7, e153_11, e153_12, e153_15, e153_17, e153_20, e153_22, e153_25, e153_26, e153_29, e153_30, e153_31, e153_33, e153_36, e153_39, e153_40, e153_41, e153_43, e153_44, e153_45, e153_48, e153_51, e153_52, e153_55, e153_56, e153_59, e153_60, e153_61, e153_63, e153_68, e153_70, e153_73, e153_75, e153_78, e153_80, e153_83, e153_85, e153_87, e153_89, e153_91, e153_94, e153_95, e153_98, e153_99, e153_100, e153_102, e153_105, e153_108, e153_109, e153_112, e153_114, e153_117, e153_119, kv_s, kh_s, kn_s, kc_v, kc_n, Nat.reduceEqDiff, Nat.one_ne_zero, Nat.reduceLT, Nat.reduceLeDiff, Nat.reduceAdd, Nat.reduceSub, Nat.reduceMul, nI_add, nI_leI, nI_ltI, nI_eq, z_eq, z_lt, z_le, z_gt, z_ge, ↓reduceIte, not_true_eq_false, not_false_eq_true, if_true, if_false, show f = 0 by omega]
end
section
variable (H : pi_H) (κ : kT) (a : sT)
theorem m148o (n w : Int32) (h : ¬ (inR n (nI 1) (nI 6) ∧ inR w (nI 0) (nI 6))) : ex 148 [.ref 77, .int n, .int w] H = some (some (.int (-1000001)), H) := by
  by_cases h1 : inR n (nI 1) (nI 6)
  · have h2 : ¬ inR w (nI 0) (nI 6) := fun e => h ⟨h1, e⟩
    simp (disch := first | omega | assumption | exact MO_isO _ _ _ _ | (refine b30 ?_; omega) | (refine nI_inR ?_ ?_ ?_ <;> omega)) only [x148, e148_0, e148_1, e148_2, e148_4, e148_7, e148_10, e148_11, e148_12, e148_14, e148_17, e148_20, e148_22, e148_23, e148_24, e148_25, e148_28, e148_29, e148_30, e148_31, e148_64, e148_65, e148_66, e148_69, e148_70, e148_73, e148_74, e148_75, e148_78, e148_79, e148_82, e148_83, e148_84, e148_87, e148_88, e148_91, e148_92, e148_93, e148_94, e148_95, e148_98, e148_99, e148_102, e148_103, e148_104, e148_105, e148_106, e148_107, e148_110, e148_111, e148_114, e148_115, e148_118, e148_119, e148_120, e148_123, e148_125, e148_128, e148_129, Nat.reduceEqDiff, Nat.one_ne_zero, Nat.reduceLT, Nat.reduceLeDiff, Nat.reduceAdd, Nat.reduceSub, Nat.reduceMul, nI_add, nI_leI, nI_ltI, nI_eq, z_eq, z_lt, z_le, z_gt, z_ge, ↓reduceIte, not_true_eq_false, not_false_eq_true, if_true, if_false, kv_s, kh_s, kn_s, kc_v, kc_n, m117i, m117o]
  · simp (disch := first | omega | assumption | exact MO_isO _ _ _ _ | (refine b30 ?_; omega) | (refine nI_inR ?_ ?_ ?_ <;> omega)) only [x148, e148_0, e148_1, e148_2, e148_4, e148_7, e148_10, e148_11, e148_12, e148_14, e148_17, e148_20, e148_22, e148_23, e148_24, e148_25, e148_28, e148_29, e148_30, e148_31, e148_64, e148_65, e148_66, e148_69, e148_70, e148_73, e148_74, e148_75, e148_78, e148_79, e148_82, e148_83, e148_84, e148_87, e148_88, e148_91, e148_92, e148_93, e148_94, e148_95, e148_98, e148_99, e148_102, e148_103, e148_104, e148_105, e148_106, e148_107, e148_110, e148_111, e148_114, e148_115, e148_118, e148_119, e148_120, e148_123, e148_125, e148_128, e148_129, Nat.reduceEqDiff, Nat.one_ne_zero, Nat.reduceLT, Nat.reduceLeDiff, Nat.reduceAdd, Nat.reduceSub, Nat.reduceMul, nI_add, nI_leI, nI_ltI, nI_eq, z_eq, z_lt, z_le, z_gt, z_ge, ↓reduceIte, not_true_eq_false, not_false_eq_true, if_true, if_false, kv_s, kh_s, kn_s, kc_v, kc_n, m117o]
theorem m148 (t : Nat) (ok : okT t a) (ι : sT) (z : jT) (n w : Nat) (h1 : 1 ≤ n) (hn : n ≤ 6) (hw : w ≤ 6) : ∃ (ι' : sT) (z' : jT), ex 148 [.ref 77, .int (nI n), .int (nI w)] (MO H (u1 ι 0 (flat a)) z κ) = some (some (.int (shN a n w)), MO H (u1 ι' 0 (flat a)) z' κ) ∧ (∀ t, t ≠ 4 → ι' t = ι t) := by
  obtain ⟨ι', z', e, ⟨k0, k1, k2⟩, k3⟩ := m138 H κ a ok.1 ι z n (by omega)
  have hb : ∀ k, k < 21 → u1 ι' 0 (flat a) 4 (21 * n + k) = btT a n k ∧ btT a n k < 21 := fun k hk => ⟨by rw [u1_n _ _ _ _ (by omega), (k2 n h1 (Nat.le_refl n) k hk).2], btT_lt a n k hk⟩
  have hv : ∀ y, y < 21 → (fun y => z' 1 (21 * n + y)) y = vlT a n y := fun y hy => (k2 n h1 (Nat.le_refl n) y hy).1
  have e49 := m149 H (u1 ι' 0 (flat a)) z' κ n (by omega)
  have e50 := m150 H (u1 ι' 0 (flat a)) z' κ (btT a n) n (by omega) hb
  have e52 := m152 H (u1 ι' 0 (flat a)) z' κ (btT a n) n (by omega) hb
  have ec := m153c H (u1 ι' 0 (flat a)) z' κ n (by omega)
  have eo := m153o H (u1 ι' 0 (flat a)) z' κ (btT a n) n (by omega) hb
  rw [ll_congr _ _ 20 (fun y hy => hv y (by omega))] at e49
  have hC : ∀ k, 1 ≤ k → k ≤ 19 → gapC (fun y => z' 1 (21 * n + y)) k = gapC (vlT a n) k := gapC_congr _ _ hv
  rw [cnt_congr _ _ 19 hC, fst1_congr _ _ 19 hC] at ec
  have b1 := ll_le (vlT a n) 20
  have b2 := cnt_le (gapC (vlT a n)) 19
  have b3 := cnt_le (gapO (btT a n)) 20
  have b4 := unl_le (btT a n) 21
  have hn1 := neg1
  have hz2 : ¬ nI 2 = 0 := by decide
  refine ⟨ι', z', ?_, k3⟩
  unfold shN
  have hw7 : w = 0 ∨ w = 1 ∨ w = 2 ∨ w = 3 ∨ w = 4 ∨ w = 5 ∨ w = 6 := by omega
  rcases hw7 with rfl | rfl | rfl | rfl | rfl | rfl | rfl
  · simp (disch := first | omega | assumption | exact MO_isO _ _ _ _ | (refine b30 ?_; omega) | (refine nI_inR ?_ ?_ ?_ <;> omega)) only [x148, e148_0, e148_1, e148_2, e148_4, e148_7, e148_10, e148_11, e148_12, e148_14, e148_17, e148_20, e148_22, e148_23, e148_24, e148_25, e148_28, e148_29, e148_30, e148_31, e148_64, e148_65, e148_66, e148_69, e148_70, e148_73, e148_74, e148_75, e148_78, e148_79, e148_82, e148_83, e148_84, e148_87, e148_88, e148_91, e148_92, e148_93, e148_94, e148_95, e148_98, e148_99, e148_102, e148_103, e148_104, e148_105, e148_106, e148_107, e148_110, e148_111, e148_114, e148_115, e148_118, e148_119, e148_120, e148_123, e148_125, e148_128, e148_129, Nat.reduceEqDiff, Nat.one_ne_zero, Nat.reduceLT, Nat.reduceLeDiff, Nat.reduceAdd, Nat.reduceSub, Nat.reduceMul, nI_add, nI_leI, nI_ltI, nI_eq, z_eq, z_lt, z_le, z_gt, z_ge, ↓reduceIte, not_true_eq_false, not_false_eq_true, if_true, if_false, kv_s, kh_s, kn_s, kc_v, kc_n, m117i, e, e49]
  · cases hq : lastO (btT a n) 21 with
    | none =>
      rw [hq] at e50
      simp (disch := first | omega | assumption | exact MO_isO _ _ _ _ | (refine b30 ?_; omega) | (refine nI_inR ?_ ?_ ?_ <;> omega)) only [x148, e148_0, e148_1, e148_2, e148_4, e148_7, e148_10, e148_11, e148_12, e148_14, e148_17, e148_20, e148_22, e148_23, e148_24, e148_25, e148_28, e148_29, e148_30, e148_31, e148_64, e148_65, e148_66, e148_69, e148_70, e148_73, e148_74, e148_75, e148_78, e148_79, e148_82, e148_83, e148_84, e148_87, e148_88, e148_91, e148_92, e148_93, e148_94, e148_95, e148_98, e148_99, e148_102, e148_103, e148_104, e148_105, e148_106, e148_107, e148_110, e148_111, e148_114, e148_115, e148_118, e148_119, e148_120, e148_123, e148_125, e148_128, e148_129, Nat.reduceEqDiff, Nat.one_ne_zero, Nat.reduceLT, Nat.reduceLeDiff, Nat.reduceAdd, Nat.reduceSub, Nat.reduceMul, nI_add, nI_leI, nI_ltI, nI_eq, z_eq, z_lt, z_le, z_gt, z_ge, ↓reduceIte, not_true_eq_false, not_false_eq_true, if_true, if_false, kv_s, kh_s, kn_s, kc_v, kc_n, m117i, e, e50, o1, oI, hn1]
    | some v =>
      have hl := lastO_lt _ _ _ hq
      rw [hq] at e50
      simp (disch := first | omega | assumption | exact MO_isO _ _ _ _ | (refine b30 ?_; omega) | (refine nI_inR ?_ ?_ ?_ <;> omega)) only [x148, e148_0, e148_1, e148_2, e148_4, e148_7, e148_10, e148_11, e148_12, e148_14, e148_17, e148_20, e148_22, e148_23, e148_24, e148_25, e148_28, e148_29, e148_30, e148_31, e148_64, e148_65, e148_66, e148_69, e148_70, e148_73, e148_74, e148_75, e148_78, e148_79, e148_82, e148_83, e148_84, e148_87, e148_88, e148_91, e148_92, e148_93, e148_94, e148_95, e148_98, e148_99, e148_102, e148_103, e148_104, e148_105, e148_106, e148_107, e148_110, e148_111, e148_114, e148_115, e148_118, e148_119, e148_120, e148_123, e148_125, e148_128, e148_129, Nat.reduceEqDiff, Nat.one_ne_zero, Nat.reduceLT, Nat.reduceLeDiff, Nat.reduceAdd, Nat.reduceSub, Nat.reduceMul, nI_add, nI_leI, nI_ltI, nI_eq, z_eq, z_lt, z_le, z_gt, z_ge, ↓reduceIte, not_true_eq_false, not_false_eq_true, if_true, if_false, kv_s, kh_s, kn_s, kc_v, kc_n, m117i, e, e50, o1, oI, hn1]
  · have e2 := ec 0 (by omega)
    simp (disch := first | omega | assumption | exact MO_isO _ _ _ _ | (refine b30 ?_; omega) | (refine nI_inR ?_ ?_ ?_ <;> omega)) only [x148, e148_0, e148_1, e148_2, e148_4, e148_7, e148_10, e148_11, e148_12, e148_14, e148_17, e148_20, e148_22, e148_23, e148_24, e148_25, e148_28, e148_29, e148_30, e148_31, e148_64, e148_65, e148_66, e148_69, e148_70, e148_73, e148_74, e148_75, e148_78, e148_79, e148_82, e148_83, e148_84, e148_87, e148_88, e148_91, e148_92, e148_93, e148_94, e148_95, e148_98, e148_99, e148_102, e148_103, e148_104, e148_105, e148_106, e148_107, e148_110, e148_111, e148_114, e148_115, e148_118, e148_119, e148_120, e148_123, e148_125, e148_128, e148_129, Nat.reduceEqDiff, Nat.one_ne_zero, Nat.reduceLT, Nat.reduceLeDiff, Nat.reduceAdd, Nat.reduceSub, Nat.reduceMul, nI_add, nI_leI, nI_ltI, nI_eq, z_eq, z_lt, z_le, z_gt, z_ge, ↓reduceIte, not_true_eq_false, not_false_eq_true, if_true, if_false, kv_s, kh_s, kn_s, kc_v, kc_n, m117i, e, e2, pk_rem, Nat.reduceMod, Nat.zero_ne_one]
  · have e2 := ec 1 (by omega)
    cases hq : fst1 (gapC (vlT a n)) 19 with
    | none =>
      rw [hq] at e2
      simp (disch := first | omega | assumption | exact MO_isO _ _ _ _ | (refine b30 ?_; omega) | (refine nI_inR ?_ ?_ ?_ <;> omega)) only [x148, e148_0, e148_1, e148_2, e148_4, e148_7, e148_10, e148_11, e148_12, e148_14, e148_17, e148_20, e148_22, e148_23, e148_24, e148_25, e148_28, e148_29, e148_30, e148_31, e148_64, e148_65, e148_66, e148_69, e148_70, e148_73, e148_74, e148_75, e148_78, e148_79, e148_82, e148_83, e148_84, e148_87, e148_88, e148_91, e148_92, e148_93, e148_94, e148_95, e148_98, e148_99, e148_102, e148_103, e148_104, e148_105, e148_106, e148_107, e148_110, e148_111, e148_114, e148_115, e148_118, e148_119, e148_120, e148_123, e148_125, e148_128, e148_129, Nat.reduceEqDiff, Nat.one_ne_zero, Nat.reduceLT, Nat.reduceLeDiff, Nat.reduceAdd, Nat.reduceSub, Nat.reduceMul, nI_add, nI_leI, nI_ltI, nI_eq, z_eq, z_lt, z_le, z_gt, z_ge, ↓reduceIte, not_true_eq_false, not_false_eq_true, if_true, if_false, kv_s, kh_s, kn_s, kc_v, kc_n, m117i, e, e2, pk_rem, Nat.reduceMod, o1, oI, hn1]
    | some v =>
      have hl := fst1_le _ _ _ hq
      rw [hq] at e2
      simp (disch := first | omega | assumption | exact MO_isO _ _ _ _ | (refine b30 ?_; omega) | (refine nI_inR ?_ ?_ ?_ <;> omega)) only [x148, e148_0, e148_1, e148_2, e148_4, e148_7, e148_10, e148_11, e148_12, e148_14, e148_17, e148_20, e148_22, e148_23, e148_24, e148_25, e148_28, e148_29, e148_30, e148_31, e148_64, e148_65, e148_66, e148_69, e148_70, e148_73, e148_74, e148_75, e148_78, e148_79, e148_82, e148_83, e148_84, e148_87, e148_88, e148_91, e148_92, e148_93, e148_94, e148_95, e148_98, e148_99, e148_102, e148_103, e148_104, e148_105, e148_106, e148_107, e148_110, e148_111, e148_114, e148_115, e148_118, e148_119, e148_120, e148_123, e148_125, e148_128, e148_129, Nat.reduceEqDiff, Nat.one_ne_zero, Nat.reduceLT, Nat.reduceLeDiff, Nat.reduceAdd, Nat.reduceSub, Nat.reduceMul, nI_add, nI_leI, nI_ltI, nI_eq, z_eq, z_lt, z_le, z_gt, z_ge, ↓reduceIte, not_true_eq_false, not_false_eq_true, if_true, if_false, kv_s, kh_s, kn_s, kc_v, kc_n, m117i, e, e2, pk_rem, Nat.reduceMod, o1, oI, hn1]
  · have e2 := eo 0 (by omega)
    simp (disch := first | omega | assumption | exact MO_isO _ _ _ _ | (refine b30 ?_; omega) | (refine nI_inR ?_ ?_ ?_ <;> omega)) only [x148, e148_0, e148_1, e148_2, e148_4, e148_7, e148_10, e148_11, e148_12, e148_14, e148_17, e148_20, e148_22, e148_23, e148_24, e148_25, e148_28, e148_29, e148_30, e148_31, e148_64, e148_65, e148_66, e148_69, e148_70, e148_73, e148_74, e148_75, e148_78, e148_79, e148_82, e148_83, e148_84, e148_87, e148_88, e148_91, e148_92, e148_93, e148_94, e148_95, e148_98, e148_99, e148_102, e148_103, e148_104, e148_105, e148_106, e148_107, e148_110, e148_111, e148_114, e148_115, e148_118, e148_119, e148_120, e148_123, e148_125, e148_128, e148_129, Nat.reduceEqDiff, Nat.one_ne_zero, Nat.reduceLT, Nat.reduceLeDiff, Nat.reduceAdd, Nat.reduceSub, Nat.reduceMul, nI_add, nI_leI, nI_ltI, nI_eq, z_eq, z_lt, z_le, z_gt, z_ge, ↓reduceIte, not_true_eq_false, not_false_eq_true, if_true, if_false, kv_s, kh_s, kn_s, kc_v, kc_n, m117i, e, e2, pk_rem, Nat.reduceMod, Nat.zero_ne_one]
  · have e2 := eo 1 (by omega)
    cases hq : fst1 (gapO (btT a n)) 20 with
    | none =>
      rw [hq] at e2
      simp (disch := first | omega | assumption | exact MO_isO _ _ _ _ | (refine b30 ?_; omega) | (refine nI_inR ?_ ?_ ?_ <;> omega)) only [x148, e148_0, e148_1, e148_2, e148_4, e148_7, e148_10, e148_11, e148_12, e148_14, e148_17, e148_20, e148_22, e148_23, e148_24, e148_25, e148_28, e148_29, e148_30, e148_31, e148_64, e148_65, e148_66, e148_69, e148_70, e148_73, e148_74, e148_75, e148_78, e148_79, e148_82, e148_83, e148_84, e148_87, e148_88, e148_91, e148_92, e148_93, e148_94, e148_95, e148_98, e148_99, e148_102, e148_103, e148_104, e148_105, e148_106, e148_107, e148_110, e148_111, e148_114, e148_115, e148_118, e148_119, e148_120, e148_123, e148_125, e148_128, e148_129, Nat.reduceEqDiff, Nat.one_ne_zero, Nat.reduceLT, Nat.reduceLeDiff, Nat.reduceAdd, Nat.reduceSub, Nat.reduceMul, nI_add, nI_leI, nI_ltI, nI_eq, z_eq, z_lt, z_le, z_gt, z_ge, ↓reduceIte, not_true_eq_false, not_false_eq_true, if_true, if_false, kv_s, kh_s, kn_s, kc_v, kc_n, m117i, e, e2, pk_rem, Nat.reduceMod, o1, oI, hn1]
    | some v =>
      have hl := fst1_le _ _ _ hq
      rw [hq] at e2
      simp (disch := first | omega | assumption | exact MO_isO _ _ _ _ | (refine b30 ?_; omega) | (refine nI_inR ?_ ?_ ?_ <;> omega)) only [x148, e148_0, e148_1, e148_2, e148_4, e148_7, e148_10, e148_11, e148_12, e148_14, e148_17, e148_20, e148_22, e148_23, e148_24, e148_25, e148_28, e148_29, e148_30, e148_31, e148_64, e148_65, e148_66, e148_69, e148_70, e148_73, e148_74, e148_75, e148_78, e148_79, e148_82, e148_83, e148_84, e148_87, e148_88, e148_91, e148_92, e148_93, e148_94, e148_95, e148_98, e148_99, e148_102, e148_103, e148_104, e148_105, e148_106, e148_107, e148_110, e148_111, e148_114, e148_115, e148_118, e148_119, e148_120, e148_123, e148_125, e148_128, e148_129, Nat.reduceEqDiff, Nat.one_ne_zero, Nat.reduceLT, Nat.reduceLeDiff, Nat.reduceAdd, Nat.reduceSub, Nat.reduceMul, nI_add, nI_leI, nI_ltI, nI_eq, z_eq, z_lt, z_le, z_gt, z_ge, ↓reduceIte, not_true_eq_false, not_false_eq_true, if_true, if_false, kv_s, kh_s, kn_s, kc_v, kc_n, m117i, e, e2, pk_rem, Nat.reduceMod, o1, oI, hn1]
  · simp (disch := first | omega | assumption | exact MO_isO _ _ _ _ | (refine b30 ?_; omega) | (refine nI_inR ?_ ?_ ?_ <;> omega)) only [x148, e148_0, e148_1, e148_2, e148_4, e148_7, e148_10, e148_11, e148_12, e148_14, e148_17, e148_20, e148_22, e148_23, e148_24, e148_25, e148_28, e148_29, e148_30, e148_31, e148_64, e148_65, e148_66, e148_69, e148_70, e148_73, e148_74, e148_75, e148_78, e148_79, e148_82, e148_83, e148_84, e148_87, e148_88, e148_91, e148_92, e148_93, e148_94, e148_95, e148_98, e148_99, e148_102, e148_103, e148_104, e148_105, e148_106, e148_107, e148_110, e148_111, e148_114, e148_115, e148_118, e148_119, e148_120, e148_123, e148_125, e148_128, e148_129, Nat.reduceEqDiff, Nat.one_ne_zero, Nat.reduceLT, Nat.reduceLeDiff, Nat.reduceAdd, Nat.reduceSub, Nat.reduceMul, nI_add, nI_leI, nI_ltI, nI_eq, z_eq, z_lt, z_le, z_gt, z_ge, ↓reduceIte, not_true_eq_false, not_false_eq_true, if_true, if_false, kv_s, kh_s, kn_s, kc_v, kc_n, m117i, e, e52]
end
