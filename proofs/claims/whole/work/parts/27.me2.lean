-- PART 27: the means' methods, second: the best way
theorem u3_app (μ : lT) (t r i : Nat) (x : Int64) (t' r' i' : Nat) : u3 μ t r i x t' r' i' = if t' = t ∧ r' = r ∧ i' = i then x else μ t' r' i' := rfl
theorem ub_app (β : bT) (r i : Nat) (x : Int32) (r' i' : Nat) : ub β r i x r' i' = if r' = r ∧ i' = i then x else β r' i' := rfl
theorem cmp_ge (x y : Int64) : (0 ≤ lg_cmp x y) = ¬ x < y := by
  unfold lg_cmp
  apply propext
  by_cases h1 : x < y
  · simp [h1]
    first | done | decide | grind
  · simp [h1]
    first | done | (split <;> decide) | grind
def okA (a : sT) : Prop := okW a ∧ okC a ∧ wsum a ≤ 12
section
variable (H : pi_H) (a : sT) (β : bT) (fl fh : Int32) (fc : Int64)
theorem s43 (ok : okA a) (μ : lT) : ∃ μ' : lT, ex 43 [.ref 39, .ref 1] (SH (ME H μ β fl fh fc) 1 a) = some (none, SH (ME H μ' β fl fh fc) 1 a) ∧ (∀ n, n < 7 → μ' 0 0 n = pw a n) ∧ (∀ y, y < 21 → μ' 1 0 y = ppS a y 7) ∧ (∀ t r, 2 ≤ t → μ' t r = μ t r) := by
  obtain ⟨hw, hc, hs⟩ := ok
  have l1 : ∀ n, n ≤ 6 → ∃ μ' : lT, ex 43 [.ref 39, .ref 1] (SH (ME H μ β fl fh fc) 1 a) = ev 43 14 [some (.ref 39), some (.ref 1), some (.int (nI (wsum a))), some (.int (nI (n + 1)))] [] (SH (ME H μ' β fl fh fc) 1 a) ∧ (∀ i, i ≤ n → μ' 0 0 i = pw a i) ∧ (∀ t r, 2 ≤ t → μ' t r = μ t r) := by
    intro n
    induction n with
    | zero =>
      intro _
      refine ⟨u3 μ 0 0 0 (lN 1), ?_, ?_, ?_⟩
      · simp (disch := first | omega | assumption | (refine b30 ?_; omega) | exact SH_isO _ _ _ | exact ME_isO _ _ _ _ _ _ | (rw [SH_gn _ _ _ _ (by omega)]; exact ME_isO _ _ _ _ _ _) | (refine nI_inR ?_ ?_ ?_ <;> omega)) only [x43, e43_0, e43_1, e43_4, e43_5, e43_6, e43_9, e43_10, e43_11, e43_12, e43_13, e43_15, e43_17, e43_20, e43_21, e43_24, e43_25, e43_26, e43_29, e43_30, e43_31, e43_32, e43_33, e43_34, e43_35, e43_36, e43_37, e43_40, e43_43, e43_44, e43_45, e43_46, e43_48, e43_51, e43_52, e43_55, e43_56, e43_57, e43_58, e43_61, e43_62, e43_65, e43_68, kv_s, kh_s, kn_s, kc_v, kc_n, ME_isO, ME_f0, ME_f1, ME_f2, ME_f3, ME_f4, ME_f5, ME_f6, ME_f7, ME_f8, ME_a0, ME_a1, ME_a2, ME_a3, ME_a4, ME_a5, ME_r2, ME_r3, ME_r4, ME_r5, ME_w0, ME_w1, ME_w2, ME_w3, ME_w4, ME_w5, ME_p6, ME_p7, ME_p8, SH_gn, SH_asn, SH_asi, SH_pfn, Option.map_some, Nat.reduceEqDiff, Nat.one_ne_zero, Nat.reduceLT, Nat.reduceLeDiff, Nat.reduceAdd, Nat.reduceSub, Nat.reduceMul, nI_add, nI_leI, nI_ltI, nI_eq, z_eq, z_lt, z_le, z_gt, z_ge, ↓reduceIte, not_true_eq_false, not_false_eq_true, if_true, if_false, s9]
      · intro i hi
        rw [u3_app, if_pos ⟨rfl, rfl, by omega⟩, show i = 0 by omega]
        rfl
      · intro t r ht
        exact u3_ne _ _ _ _ _ _ _ (by omega)
    | succ n ih =>
      intro hn
      obtain ⟨μ', e, i1, i2⟩ := ih (by omega)
      refine ⟨u3 μ' 0 0 (n + 1) (pw a (n + 1)), ?_, ?_, ?_⟩
      · have i3 := i1 n (by omega)
        rw [e, e43_14]
        simp (disch := first | omega | assumption | (refine b30 ?_; omega) | exact SH_isO _ _ _ | exact ME_isO _ _ _ _ _ _ | (rw [SH_gn _ _ _ _ (by omega)]; exact ME_isO _ _ _ _ _ _) | (refine nI_inR ?_ ?_ ?_ <;> omega)) only [x43, e43_0, e43_1, e43_4, e43_5, e43_6, e43_9, e43_10, e43_11, e43_12, e43_13, e43_15, e43_17, e43_20, e43_21, e43_24, e43_25, e43_26, e43_29, e43_30, e43_31, e43_32, e43_33, e43_34, e43_35, e43_36, e43_37, e43_40, e43_43, e43_44, e43_45, e43_46, e43_48, e43_51, e43_52, e43_55, e43_56, e43_57, e43_58, e43_61, e43_62, e43_65, e43_68, kv_s, kh_s, kn_s, kc_v, kc_n, ME_isO, ME_f0, ME_f1, ME_f2, ME_f3, ME_f4, ME_f5, ME_f6, ME_f7, ME_f8, ME_a0, ME_a1, ME_a2, ME_a3, ME_a4, ME_a5, ME_r2, ME_r3, ME_r4, ME_r5, ME_w0, ME_w1, ME_w2, ME_w3, ME_w4, ME_w5, ME_p6, ME_p7, ME_p8, SH_gn, SH_asn, SH_asi, SH_pfn, Option.map_some, Nat.reduceEqDiff, Nat.one_ne_zero, Nat.reduceLT, Nat.reduceLeDiff, Nat.reduceAdd, Nat.reduceSub, Nat.reduceMul, nI_add, nI_leI, nI_ltI, nI_eq, z_eq, z_lt, z_le, z_gt, z_ge, ↓reduceIte, not_true_eq_false, not_false_eq_true, if_true, if_false, pk_sub, nI_l, show ¬ 6 < n + 1 by omega, Nat.add_sub_cancel, i3]
        rfl
      · intro i hi
        rw [u3_app]
        by_cases h : i = n + 1
        · rw [if_pos ⟨rfl, rfl, h⟩, h]
        · rw [if_neg (by omega), i1 i (by omega)]
      · intro t r ht
        rw [u3_ne _ _ _ _ _ _ _ (by omega), i2 t r ht]
  have l2 : ∀ n, n ≤ 21 → ∃ μ' : lT, ex 43 [.ref 39, .ref 1] (SH (ME H μ β fl fh fc) 1 a) = ev 43 45 [some (.ref 39), some (.ref 1), some (.int (nI (wsum a))), some (.int (nI n))] [] (SH (ME H μ' β fl fh fc) 1 a) ∧ (∀ i, i < 7 → μ' 0 0 i = pw a i) ∧ (∀ i, i < n → μ' 1 0 i = ppS a i 7) ∧ (∀ t r, 2 ≤ t → μ' t r = μ t r) := by
    intro n
    induction n with
    | zero =>
      intro _
      obtain ⟨μ', e, i1, i2⟩ := l1 6 (by omega)
      refine ⟨μ', ?_, fun i hi => i1 i (by omega), fun i hi => absurd hi (by omega), i2⟩
      rw [e, e43_14]
      simp (disch := first | omega | assumption | (refine b30 ?_; omega) | exact SH_isO _ _ _ | exact ME_isO _ _ _ _ _ _ | (rw [SH_gn _ _ _ _ (by omega)]; exact ME_isO _ _ _ _ _ _) | (refine nI_inR ?_ ?_ ?_ <;> omega)) only [x43, e43_0, e43_1, e43_4, e43_5, e43_6, e43_9, e43_10, e43_11, e43_12, e43_13, e43_15, e43_17, e43_20, e43_21, e43_24, e43_25, e43_26, e43_29, e43_30, e43_31, e43_32, e43_33, e43_34, e43_35, e43_36, e43_37, e43_40, e43_43, e43_44, e43_46, e43_48, e43_51, e43_52, e43_55, e43_56, e43_57, e43_58, e43_61, e43_62, e43_65, e43_68, kv_s, kh_s, kn_s, kc_v, kc_n, Nat.reduceEqDiff, Nat.one_ne_zero, Nat.reduceLT, Nat.reduceLeDiff, Nat.reduceAdd, Nat.reduceSub, Nat.reduceMul, nI_add, nI_leI, nI_ltI, nI_eq, z_eq, z_lt, z_le, z_gt, z_ge, ↓reduceIte, not_true_eq_false, not_false_eq_true, if_true, if_false]
    | succ n ih =>
      intro hn
      obtain ⟨μ', e, i1, i2, i3⟩ := ih (by omega)
      refine ⟨u3 μ' 1 0 n (ppS a n 7), ?_, ?_, ?_, ?_⟩
      · rw [e, e43_45]
        simp (disch := first | omega | assumption | (refine b30 ?_; omega) | exact SH_isO _ _ _ | exact ME_isO _ _ _ _ _ _ | (rw [SH_gn _ _ _ _ (by omega)]; exact ME_isO _ _ _ _ _ _) | (refine nI_inR ?_ ?_ ?_ <;> omega)) only [x43, e43_0, e43_1, e43_4, e43_5, e43_6, e43_9, e43_10, e43_11, e43_12, e43_13, e43_15, e43_17, e43_20, e43_21, e43_24, e43_25, e43_26, e43_29, e43_30, e43_31, e43_32, e43_33, e43_34, e43_35, e43_36, e43_37, e43_40, e43_43, e43_44, e43_46, e43_48, e43_51, e43_52, e43_55, e43_56, e43_57, e43_58, e43_61, e43_62, e43_65, e43_68, kv_s, kh_s, kn_s, kc_v, kc_n, ME_isO, ME_f0, ME_f1, ME_f2, ME_f3, ME_f4, ME_f5, ME_f6, ME_f7, ME_f8, ME_a0, ME_a1, ME_a2, ME_a3, ME_a4, ME_a5, ME_r2, ME_r3, ME_r4, ME_r5, ME_w0, ME_w1, ME_w2, ME_w3, ME_w4, ME_w5, ME_p6, ME_p7, ME_p8, SH_gn, SH_asn, SH_asi, SH_pfn, Option.map_some, Nat.reduceEqDiff, Nat.one_ne_zero, Nat.reduceLT, Nat.reduceLeDiff, Nat.reduceAdd, Nat.reduceSub, Nat.reduceMul, nI_add, nI_leI, nI_ltI, nI_eq, z_eq, z_lt, z_le, z_gt, z_ge, ↓reduceIte, not_true_eq_false, not_false_eq_true, if_true, if_false, s44, show ¬ 20 < n by omega]
      · intro i hi
        rw [u3_ne _ _ _ _ _ _ _ (by omega), i1 i hi]
      · intro i hi
        rw [u3_app]
        by_cases h : i = n
        · rw [if_pos ⟨rfl, rfl, h⟩, h]
        · rw [if_neg (by omega), i2 i (by omega)]
      · intro t r ht
        rw [u3_ne _ _ _ _ _ _ _ (by omega), i3 t r ht]
  obtain ⟨μ', e, i1, i2, i3⟩ := l2 21 (by omega)
  refine ⟨μ', ?_, i1, i2, i3⟩
  rw [e, e43_45]
  simp (disch := first | omega | assumption | (refine b30 ?_; omega) | exact SH_isO _ _ _ | exact ME_isO _ _ _ _ _ _ | (rw [SH_gn _ _ _ _ (by omega)]; exact ME_isO _ _ _ _ _ _) | (refine nI_inR ?_ ?_ ?_ <;> omega)) only [x43, e43_0, e43_1, e43_4, e43_5, e43_6, e43_9, e43_10, e43_11, e43_12, e43_13, e43_15, e43_17, e43_20, e43_21, e43_24, e43_25, e43_26, e43_29, e43_30, e43_31, e43_32, e43_33, e43_34, e43_35, e43_36, e43_37, e43_40, e43_43, e43_44, e43_46, e43_48, e43_51, e43_52, e43_55, e43_56, e43_57, e43_58, e43_61, e43_62, e43_65, e43_68, kv_s, kh_s, kn_s, kc_v, kc_n, Nat.reduceEqDiff, Nat.one_ne_zero, Nat.reduceLT, Nat.reduceLeDiff, Nat.reduceAdd, Nat.reduceSub, Nat.reduceMul, nI_add, nI_leI, nI_ltI, nI_eq, z_eq, z_lt, z_le, z_gt, z_ge, ↓reduceIte, not_true_eq_false, not_false_eq_true, if_true, if_false]
theorem endp_le (a : sT) (hc : okC a) (k : Nat) (hk : k < 21) : a 1 4 * k < 2 ^ 31 := by
  have := Nat.mul_le_mul hc.2.2.2.2 (show k ≤ 20 by omega)
  omega
theorem s45a (ok : okA a) (μ : lT) : ∃ μ' : lT, ex 45 [.ref 1, .ref 43] (SH (ME H μ β fl fh fc) 1 a) = some (none, SH (ME H μ' β fl fh fc) 1 a) ∧ (∀ k, k < 21 → μ' 2 0 k = lN (a 1 4 * k)) ∧ (∀ t r, ¬ (t = 2 ∧ r = 0) → μ' t r = μ t r) := by
  obtain ⟨hw, hc, hs⟩ := ok
  have l1 : ∀ n, n ≤ 21 → ∃ μ' : lT, ex 45 [.ref 1, .ref 43] (SH (ME H μ β fl fh fc) 1 a) = ev 45 2 [some (.ref 1), some (.ref 43), some (.int (nI n))] [] (SH (ME H μ' β fl fh fc) 1 a) ∧ (∀ k, k < n → μ' 2 0 k = lN (a 1 4 * k)) ∧ (∀ t r, ¬ (t = 2 ∧ r = 0) → μ' t r = μ t r) := by
    intro n
    induction n with
    | zero =>
      intro _
      refine ⟨μ, ?_, fun i hi => absurd hi (by omega), fun _ _ _ => rfl⟩
      simp (disch := first | omega | assumption | (refine b30 ?_; omega) | exact SH_isO _ _ _ | exact ME_isO _ _ _ _ _ _ | (rw [SH_gn _ _ _ _ (by omega)]; exact ME_isO _ _ _ _ _ _) | (refine nI_inR ?_ ?_ ?_ <;> omega)) only [x45, e45_0, e45_1, e45_3, e45_4, e45_5, e45_8, e45_9, e45_10, e45_11, e45_12, e45_15, e45_16, e45_17, e45_20, e45_23]
    | succ n ih =>
      intro hn
      obtain ⟨μ', e, i1, i2⟩ := ih (by omega)
      have hb := endp_le a hc n (by omega)
      have hg : pi_len (pi_get (ME H μ' β fl fh fc) 43) = some 21 := by
        rw [ME_g2 H μ' β fl fh fc 0 (by omega)]
        rfl
      have hw2 := ME_w2 H μ' β fl fh fc 0 n (by omega) (by omega) (lN (a 1 4 * n))
      rw [Nat.zero_add] at hw2
      refine ⟨u3 μ' 2 0 n (lN (a 1 4 * n)), ?_, ?_, ?_⟩
      · rw [e, e45_2]
        simp (disch := first | omega | assumption | (refine b30 ?_; omega) | exact SH_isO _ _ _ | exact ME_isO _ _ _ _ _ _ | (rw [SH_gn _ _ _ _ (by omega)]; exact ME_isO _ _ _ _ _ _) | (refine nI_inR ?_ ?_ ?_ <;> omega)) only [x45, e45_0, e45_1, e45_3, e45_4, e45_5, e45_8, e45_9, e45_10, e45_11, e45_12, e45_15, e45_16, e45_17, e45_20, e45_23, kv_s, kh_s, kn_s, kc_v, kc_n, ME_isO, ME_f0, ME_f1, ME_f2, ME_f3, ME_f4, ME_f5, ME_f6, ME_f7, ME_f8, ME_a0, ME_a1, ME_a2, ME_a3, ME_a4, ME_a5, ME_r2, ME_r3, ME_r4, ME_r5, SH_gn, SH_asn, SH_asi, SH_pfn, Option.map_some, Nat.reduceEqDiff, Nat.one_ne_zero, Nat.reduceLT, Nat.reduceLeDiff, Nat.reduceAdd, Nat.reduceSub, Nat.reduceMul, nI_add, nI_leI, nI_ltI, nI_eq, z_eq, z_lt, z_le, z_gt, z_ge, ↓reduceIte, not_true_eq_false, not_false_eq_true, if_true, if_false, hg, hw2, s34, nI_l, show ¬ 21 ≤ n by omega]
      · intro i hi
        rw [u3_app]
        by_cases h : i = n
        · rw [if_pos ⟨rfl, rfl, h⟩, h]
        · rw [if_neg (by omega), i1 i (by omega)]
      · intro t r ht
        rw [u3_ne _ _ _ _ _ _ _ ht, i2 t r ht]
  obtain ⟨μ', e, i1, i2⟩ := l1 21 (by omega)
  have hg : pi_len (pi_get (ME H μ' β fl fh fc) 43) = some 21 := by
    rw [ME_g2 H μ' β fl fh fc 0 (by omega)]
    rfl
  refine ⟨μ', ?_, i1, i2⟩
  rw [e, e45_2]
  simp (disch := first | omega | assumption | (refine b30 ?_; omega) | exact SH_isO _ _ _ | exact ME_isO _ _ _ _ _ _ | (rw [SH_gn _ _ _ _ (by omega)]; exact ME_isO _ _ _ _ _ _) | (refine nI_inR ?_ ?_ ?_ <;> omega)) only [x45, e45_0, e45_1, e45_3, e45_4, e45_5, e45_8, e45_9, e45_10, e45_11, e45_12, e45_15, e45_16, e45_17, e45_20, e45_23, kv_s, kh_s, kn_s, kc_v, kc_n, SH_gn, SH_asn, SH_asi, SH_pfn, Option.map_some, Nat.reduceEqDiff, Nat.one_ne_zero, Nat.reduceLT, Nat.reduceLeDiff, Nat.reduceAdd, Nat.reduceSub, Nat.reduceMul, nI_add, nI_leI, nI_ltI, nI_eq, z_eq, z_lt, z_le, z_gt, z_ge, ↓reduceIte, not_true_eq_false, not_false_eq_true, if_true, if_false, hg]
theorem s45b (ok : okA a) (μ : lT) : ∃ μ' : lT, ex 45 [.ref 1, .ref 67] (SH (ME H μ β fl fh fc) 1 a) = some (none, SH (ME H μ' β fl fh fc) 1 a) ∧ (∀ k, k < 21 → μ' 4 0 k = lN (a 1 4 * k)) ∧ (∀ t r, ¬ (t = 4 ∧ r = 0) → μ' t r = μ t r) := by
  obtain ⟨hw, hc, hs⟩ := ok
  have l1 : ∀ n, n ≤ 21 → ∃ μ' : lT, ex 45 [.ref 1, .ref 67] (SH (ME H μ β fl fh fc) 1 a) = ev 45 2 [some (.ref 1), some (.ref 67), some (.int (nI n))] [] (SH (ME H μ' β fl fh fc) 1 a) ∧ (∀ k, k < n → μ' 4 0 k = lN (a 1 4 * k)) ∧ (∀ t r, ¬ (t = 4 ∧ r = 0) → μ' t r = μ t r) := by
    intro n
    induction n with
    | zero =>
      intro _
      refine ⟨μ, ?_, fun i hi => absurd hi (by omega), fun _ _ _ => rfl⟩
      simp (disch := first | omega | assumption | (refine b30 ?_; omega) | exact SH_isO _ _ _ | exact ME_isO _ _ _ _ _ _ | (rw [SH_gn _ _ _ _ (by omega)]; exact ME_isO _ _ _ _ _ _) | (refine nI_inR ?_ ?_ ?_ <;> omega)) only [x45, e45_0, e45_1, e45_3, e45_4, e45_5, e45_8, e45_9, e45_10, e45_11, e45_12, e45_15, e45_16, e45_17, e45_20, e45_23]
    | succ n ih =>
      intro hn
      obtain ⟨μ', e, i1, i2⟩ := ih (by omega)
      have hb := endp_le a hc n (by omega)
      have hg : pi_len (pi_get (ME H μ' β fl fh fc) 67) = some 21 := by
        rw [ME_g5 H μ' β fl fh fc 0 (by omega)]
        rfl
      have hw2 := ME_w5 H μ' β fl fh fc 0 n (by omega) (by omega) (lN (a 1 4 * n))
      rw [Nat.zero_add] at hw2
      refine ⟨u3 μ' 4 0 n (lN (a 1 4 * n)), ?_, ?_, ?_⟩
      · rw [e, e45_2]
        simp (disch := first | omega | assumption | (refine b30 ?_; omega) | exact SH_isO _ _ _ | exact ME_isO _ _ _ _ _ _ | (rw [SH_gn _ _ _ _ (by omega)]; exact ME_isO _ _ _ _ _ _) | (refine nI_inR ?_ ?_ ?_ <;> omega)) only [x45, e45_0, e45_1, e45_3, e45_4, e45_5, e45_8, e45_9, e45_10, e45_11, e45_12, e45_15, e45_16, e45_17, e45_20, e45_23, kv_s, kh_s, kn_s, kc_v, kc_n, ME_isO, ME_f0, ME_f1, ME_f2, ME_f3, ME_f4, ME_f5, ME_f6, ME_f7, ME_f8, ME_a0, ME_a1, ME_a2, ME_a3, ME_a4, ME_a5, ME_r2, ME_r3, ME_r4, ME_r5, SH_gn, SH_asn, SH_asi, SH_pfn, Option.map_some, Nat.reduceEqDiff, Nat.one_ne_zero, Nat.reduceLT, Nat.reduceLeDiff, Nat.reduceAdd, Nat.reduceSub, Nat.reduceMul, nI_add, nI_leI, nI_ltI, nI_eq, z_eq, z_lt, z_le, z_gt, z_ge, ↓reduceIte, not_true_eq_false, not_false_eq_true, if_true, if_false, hg, hw2, s34, nI_l, show ¬ 21 ≤ n by omega]
      · intro i hi
        rw [u3_app]
        by_cases h : i = n
        · rw [if_pos ⟨rfl, rfl, h⟩, h]
        · rw [if_neg (by omega), i1 i (by omega)]
      · intro t r ht
        rw [u3_ne _ _ _ _ _ _ _ ht, i2 t r ht]
  obtain ⟨μ', e, i1, i2⟩ := l1 21 (by omega)
  have hg : pi_len (pi_get (ME H μ' β fl fh fc) 67) = some 21 := by
    rw [ME_g5 H μ' β fl fh fc 0 (by omega)]
    rfl
  refine ⟨μ', ?_, i1, i2⟩
  rw [e, e45_2]
  simp (disch := first | omega | assumption | (refine b30 ?_; omega) | exact SH_isO _ _ _ | exact ME_isO _ _ _ _ _ _ | (rw [SH_gn _ _ _ _ (by omega)]; exact ME_isO _ _ _ _ _ _) | (refine nI_inR ?_ ?_ ?_ <;> omega)) only [x45, e45_0, e45_1, e45_3, e45_4, e45_5, e45_8, e45_9, e45_10, e45_11, e45_12, e45_15, e45_16, e45_17, e45_20, e45_23, kv_s, kh_s, kn_s, kc_v, kc_n, SH_gn, SH_asn, SH_asi, SH_pfn, Option.map_some, Nat.reduceEqDiff, Nat.one_ne_zero, Nat.reduceLT, Nat.reduceLeDiff, Nat.reduceAdd, Nat.reduceSub, Nat.reduceMul, nI_add, nI_leI, nI_ltI, nI_eq, z_eq, z_lt, z_le, z_gt, z_ge, ↓reduceIte, not_true_eq_false, not_false_eq_true, if_true, if_false, hg]
end
