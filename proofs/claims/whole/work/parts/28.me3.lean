-- PART 28: the means' methods, third: the best way
theorem rsS_congr (a : sT) (f g : Nat → Int64) (y : Nat) (h : ∀ k, k ≤ y → f k = g k) : ∀ n, rsS a f y n = rsS a g y n
  | 0 => rfl
  | n + 1 => by
    show rsS a f y n + _ = rsS a g y n + _
    rw [rsS_congr a f g y h n, h (y - n) (by omega)]
theorem cb_congr (a : sT) (f g : Nat → Int64) (n y : Nat) (h : ∀ k, k ≤ y → f k = g k) : cb a f n y = cb a g n y := by
  unfold cb
  rw [rsS_congr a f g y h]
/-- the level function of n + 1 periods, by the means f of n periods -/
def vl (a : sT) (n : Nat) (f : Nat → Int64) (y : Nat) : Int64 := lN (a 1 1 * y) * pw a (n + 1) + cb a f n y
/-- the best level from k on, of j levels above it -/
def bs (f : Nat → Int64) (op : Int64) (k : Nat) : Nat → Nat × Int64
  | 0 => (k, f k)
  | j + 1 => if f (k + 1 + j) + op < (bs f op k j).2 then (k + 1 + j, f (k + 1 + j) + op) else bs f op k j
theorem bs_congr (f g : Nat → Int64) (op : Int64) (k : Nat) (hk : k < 21) (h : ∀ y, y < 21 → f y = g y) : ∀ j, k + j ≤ 20 → bs f op k j = bs g op k j
  | 0, _ => by
    unfold bs
    rw [h k hk]
  | j + 1, hj => by
    unfold bs
    rw [bs_congr f g op k hk h j (by omega), h (k + 1 + j) (by omega)]
theorem bs_le (f : Nat → Int64) (op : Int64) (k : Nat) : ∀ j, k ≤ (bs f op k j).1 ∧ (bs f op k j).1 ≤ k + j
  | 0 => ⟨Nat.le_refl _, Nat.le_refl _⟩
  | j + 1 => by
    have h := bs_le f op k j
    unfold bs
    split
    · dsimp only; omega
    · omega
def lsT (a : sT) : Nat → (Nat → Int64)
  | 0 => fun k => lN (a 1 4 * k)
  | n + 1 => fun k => (bs (vl a n (lsT a n)) (lN (a 1 0) * pw a (n + 1)) k (20 - k)).2 - lN (a 1 1 * k) * pw a (n + 1)
def vlT (a : sT) (n : Nat) : Nat → Int64 := vl a (n - 1) (lsT a (n - 1))
def btT (a : sT) (n k : Nat) : Nat := (bs (vlT a n) (lN (a 1 0) * pw a n) k (20 - k)).1
theorem pc_le (a : sT) (hc : okC a) (k : Nat) (hk : k < 21) : a 1 1 * k < 2 ^ 31 := by
  have := Nat.mul_le_mul hc.2.1 (show k ≤ 20 by omega)
  omega
section
variable (H : pi_H) (a : sT) (fl fh : Int32) (fc : Int64)
theorem s46 (ok : okA a) (β : bT) (μ : lT) (n : Nat) (hn : n < 6) (h0 : ∀ n, n < 7 → μ 0 0 n = pw a n) (h1 : ∀ y, y < 21 → μ 1 0 y = ppS a y 7) : ∃ μ' : lT, ex 46 [.ref 39, .ref 1, .int (nI (n + 1))] (SH (ME H μ β fl fh fc) 1 a) = some (none, SH (ME H μ' β fl fh fc) 1 a) ∧ (∀ y, y < 21 → μ' 3 (n + 1) y = vl a n (μ 2 n) y) ∧ (∀ t r, ¬ (t = 3 ∧ r = n + 1) → μ' t r = μ t r) := by
  obtain ⟨hw, hc, hs⟩ := ok
  have l1 : ∀ q, q ≤ 21 → ∃ μ' : lT, ex 46 [.ref 39, .ref 1, .int (nI (n + 1))] (SH (ME H μ β fl fh fc) 1 a) = ev 46 2 [some (.ref 39), some (.ref 1), some (.int (nI (n + 1))), some (.int (nI q))] [] (SH (ME H μ' β fl fh fc) 1 a) ∧ (∀ y, y < q → μ' 3 (n + 1) y = vl a n (μ 2 n) y) ∧ (∀ t r, ¬ (t = 3 ∧ r = n + 1) → μ' t r = μ t r) := by
    intro q
    induction q with
    | zero =>
      intro _
      refine ⟨μ, ?_, fun i hi => absurd hi (by omega), fun _ _ _ => rfl⟩
      simp (disch := first | omega | assumption | (refine b30 ?_; omega) | exact SH_isO _ _ _ | exact ME_isO _ _ _ _ _ _ | (rw [SH_gn _ _ _ _ (by omega)]; exact ME_isO _ _ _ _ _ _) | (refine nI_inR ?_ ?_ ?_ <;> omega)) only [x46, e46_0, e46_1, e46_3, e46_5, e46_8, e46_9, e46_12, e46_13, e46_14, e46_15, e46_16, e46_17, e46_20, e46_21, e46_22, e46_25, e46_26, e46_27, e46_28, e46_29, e46_30, e46_31, e46_32, e46_33, e46_36, e46_37, e46_38, e46_39, e46_40, e46_43, e46_44, e46_45, e46_48, e46_51]
    | succ q ih =>
      intro hq
      obtain ⟨μ', e, i1, i2⟩ := ih (by omega)
      have hb := pc_le a hc q (by omega)
      have g0 : μ' 0 0 (n + 1) = pw a (n + 1) := by rw [i2 _ _ (by omega), h0 _ (by omega)]
      have g2 := ME_g2 H μ' β fl fh fc n (by omega)
      have e48 := s48 H a μ' β fl fh fc hw q n (n + 43) (by omega) hn (μ' 2 n) (by omega) (by omega) g2 (by rw [i2 _ _ (by omega), h0 _ (by omega)]) (by rw [i2 _ _ (by omega), h1 _ (by omega)])
      refine ⟨u3 μ' 3 (n + 1) q (vl a n (μ 2 n) q), ?_, ?_, ?_⟩
      · rw [e, e46_2]
        simp (disch := first | omega | assumption | (refine b30 ?_; omega) | exact SH_isO _ _ _ | exact ME_isO _ _ _ _ _ _ | (rw [SH_gn _ _ _ _ (by omega)]; exact ME_isO _ _ _ _ _ _) | (refine nI_inR ?_ ?_ ?_ <;> omega)) only [x46, e46_0, e46_1, e46_3, e46_5, e46_8, e46_9, e46_12, e46_13, e46_14, e46_15, e46_16, e46_17, e46_20, e46_21, e46_22, e46_25, e46_26, e46_27, e46_28, e46_29, e46_30, e46_31, e46_32, e46_33, e46_36, e46_37, e46_38, e46_39, e46_40, e46_43, e46_44, e46_45, e46_48, e46_51, kv_s, kh_s, kn_s, kc_v, kc_n, ME_isO, ME_f0, ME_f1, ME_f2, ME_f3, ME_f4, ME_f5, ME_f6, ME_f7, ME_f8, ME_a0, ME_a1, ME_a2, ME_a3, ME_a4, ME_a5, ME_r2, ME_r3, ME_r4, ME_r5, ME_w0, ME_w1, ME_w2, ME_w3, ME_w4, ME_w5, ME_p6, ME_p7, ME_p8, SH_gn, SH_asn, SH_asi, SH_pfn, Option.map_some, Nat.reduceEqDiff, Nat.one_ne_zero, Nat.reduceLT, Nat.reduceLeDiff, Nat.reduceAdd, Nat.reduceSub, Nat.reduceMul, nI_add, nI_leI, nI_ltI, nI_eq, z_eq, z_lt, z_le, z_gt, z_ge, ↓reduceIte, not_true_eq_false, not_false_eq_true, if_true, if_false, s47, nI_l, show ¬ 20 < q by omega, pk_sub, Nat.add_sub_cancel, e48, g0]
        rw [i2 2 n (by omega)]
        rfl
      · intro i hi
        rw [u3_app]
        by_cases h : i = q
        · rw [if_pos ⟨rfl, rfl, h⟩, h]
        · rw [if_neg (by omega), i1 i (by omega)]
      · intro t r ht
        rw [u3_ne _ _ _ _ _ _ _ ht, i2 t r ht]
  obtain ⟨μ', e, i1, i2⟩ := l1 21 (by omega)
  refine ⟨μ', ?_, i1, i2⟩
  rw [e, e46_2]
  simp (disch := first | omega | assumption | (refine b30 ?_; omega) | exact SH_isO _ _ _ | exact ME_isO _ _ _ _ _ _ | (rw [SH_gn _ _ _ _ (by omega)]; exact ME_isO _ _ _ _ _ _) | (refine nI_inR ?_ ?_ ?_ <;> omega)) only [x46, e46_0, e46_1, e46_3, e46_5, e46_8, e46_9, e46_12, e46_13, e46_14, e46_15, e46_16, e46_17, e46_20, e46_21, e46_22, e46_25, e46_26, e46_27, e46_28, e46_29, e46_30, e46_31, e46_32, e46_33, e46_36, e46_37, e46_38, e46_39, e46_40, e46_43, e46_44, e46_45, e46_48, e46_51, kv_s, kh_s, kn_s, kc_v, kc_n, Nat.reduceEqDiff, Nat.one_ne_zero, Nat.reduceLT, Nat.reduceLeDiff, Nat.reduceAdd, Nat.reduceSub, Nat.reduceMul, nI_add, nI_leI, nI_ltI, nI_eq, z_eq, z_lt, z_le, z_gt, z_ge, ↓reduceIte, not_true_eq_false, not_false_eq_true, if_true, if_false]
/-- the inner search of the best level -/
theorem l50 (μ : lT) (β : bT) (n k : Nat) (hn : n < 7) (op : Int64) (v7 : Int32) (hk : k < 21) (hv : v7 = nI k) : ∀ j, k + j ≤ 20 → ev 50 47 [some (.ref 39), some (.ref 1), some (.int (nI n)), some (.ref (n + 51)), some (.long op), none, some (.int (nI k)), some (.int v7), some (.long (μ 3 n k)), none, some (.int (nI (k + 1)))] [] (SH (ME H μ β fl fh fc) 1 a) = ev 50 47 [some (.ref 39), some (.ref 1), some (.int (nI n)), some (.ref (n + 51)), some (.long op), none, some (.int (nI k)), some (.int (nI (bs (μ 3 n) op k j).1)), some (.long (bs (μ 3 n) op k j).2), none, some (.int (nI (k + 1 + j)))] [] (SH (ME H μ β fl fh fc) 1 a)
  | 0, _ => by
    subst hv
    rfl
  | j + 1, hj => by
    rw [l50 μ β n k hn op v7 hk hv j (by omega), e50_47]
    have e : bs (μ 3 n) op k (j + 1) = if μ 3 n (k + 1 + j) + op < (bs (μ 3 n) op k j).2 then (k + 1 + j, μ 3 n (k + 1 + j) + op) else bs (μ 3 n) op k j := rfl
    rw [e]
    by_cases h : μ 3 n (k + 1 + j) + op < (bs (μ 3 n) op k j).2
    · simp (disch := first | omega | assumption | (refine b30 ?_; omega) | exact SH_isO _ _ _ | exact ME_isO _ _ _ _ _ _ | (rw [SH_gn _ _ _ _ (by omega)]; exact ME_isO _ _ _ _ _ _) | (refine nI_inR ?_ ?_ ?_ <;> omega)) only [x50, e50_0, e50_1, e50_4, e50_5, e50_6, e50_7, e50_8, e50_11, e50_12, e50_13, e50_16, e50_17, e50_18, e50_19, e50_21, e50_22, e50_24, e50_26, e50_28, e50_31, e50_33, e50_35, e50_36, e50_38, e50_39, e50_41, e50_43, e50_44, e50_45, e50_49, e50_51, e50_54, e50_55, e50_57, e50_58, e50_60, e50_61, e50_63, e50_64, e50_67, e50_69, e50_71, e50_72, e50_74, e50_75, e50_77, e50_78, e50_80, e50_83, e50_86, e50_87, e50_90, e50_91, e50_92, e50_94, e50_96, e50_97, e50_98, e50_101, e50_102, e50_103, e50_105, e50_107, e50_108, e50_110, e50_113, e50_114, e50_115, e50_118, e50_119, e50_120, e50_121, e50_122, e50_123, e50_126, e50_129, kv_s, kh_s, kn_s, kc_v, kc_n, ME_isO, ME_f0, ME_f1, ME_f2, ME_f3, ME_f4, ME_f5, ME_f6, ME_f7, ME_f8, ME_a0, ME_a1, ME_a2, ME_a3, ME_a4, ME_a5, ME_r2, ME_r3, ME_r4, ME_r5, SH_gn, SH_asn, SH_asi, SH_pfn, Option.map_some, Nat.reduceEqDiff, Nat.one_ne_zero, Nat.reduceLT, Nat.reduceLeDiff, Nat.reduceAdd, Nat.reduceSub, Nat.reduceMul, nI_add, nI_leI, nI_ltI, nI_eq, z_eq, z_lt, z_le, z_gt, z_ge, ↓reduceIte, not_true_eq_false, not_false_eq_true, if_true, if_false, cmp_ge, h, show ¬ 20 < k + 1 + j by omega]
      rfl
    · simp (disch := first | omega | assumption | (refine b30 ?_; omega) | exact SH_isO _ _ _ | exact ME_isO _ _ _ _ _ _ | (rw [SH_gn _ _ _ _ (by omega)]; exact ME_isO _ _ _ _ _ _) | (refine nI_inR ?_ ?_ ?_ <;> omega)) only [x50, e50_0, e50_1, e50_4, e50_5, e50_6, e50_7, e50_8, e50_11, e50_12, e50_13, e50_16, e50_17, e50_18, e50_19, e50_21, e50_22, e50_24, e50_26, e50_28, e50_31, e50_33, e50_35, e50_36, e50_38, e50_39, e50_41, e50_43, e50_44, e50_45, e50_49, e50_51, e50_54, e50_55, e50_57, e50_58, e50_60, e50_61, e50_63, e50_64, e50_67, e50_69, e50_71, e50_72, e50_74, e50_75, e50_77, e50_78, e50_80, e50_83, e50_86, e50_87, e50_90, e50_91, e50_92, e50_94, e50_96, e50_97, e50_98, e50_101, e50_102, e50_103, e50_105, e50_107, e50_108, e50_110, e50_113, e50_114, e50_115, e50_118, e50_119, e50_120, e50_121, e50_122, e50_123, e50_126, e50_129, kv_s, kh_s, kn_s, kc_v, kc_n, ME_isO, ME_f0, ME_f1, ME_f2, ME_f3, ME_f4, ME_f5, ME_f6, ME_f7, ME_f8, ME_a0, ME_a1, ME_a2, ME_a3, ME_a4, ME_a5, ME_r2, ME_r3, ME_r4, ME_r5, SH_gn, SH_asn, SH_asi, SH_pfn, Option.map_some, Nat.reduceEqDiff, Nat.one_ne_zero, Nat.reduceLT, Nat.reduceLeDiff, Nat.reduceAdd, Nat.reduceSub, Nat.reduceMul, nI_add, nI_leI, nI_ltI, nI_eq, z_eq, z_lt, z_le, z_gt, z_ge, ↓reduceIte, not_true_eq_false, not_false_eq_true, if_true, if_false, cmp_ge, h, show ¬ 20 < k + 1 + j by omega]
      rfl
theorem s50 (ok : okA a) (β : bT) (μ : lT) (n : Nat) (hn : n < 7) (h0 : ∀ n, n < 7 → μ 0 0 n = pw a n) : ∃ (μ' : lT) (β' : bT), ex 50 [.ref 39, .ref 1, .int (nI n)] (SH (ME H μ β fl fh fc) 1 a) = some (none, SH (ME H μ' β' fl fh fc) 1 a) ∧ (∀ k, k < 21 → μ' 2 n k = (bs (μ 3 n) (lN (a 1 0) * pw a n) k (20 - k)).2 - lN (a 1 1 * k) * pw a n) ∧ (∀ k, k < 21 → β' n k = nI (bs (μ 3 n) (lN (a 1 0) * pw a n) k (20 - k)).1) ∧ (∀ t r, ¬ (t = 2 ∧ r = n) → μ' t r = μ t r) ∧ (∀ r, ¬ r = n → β' r = β r) := by
  obtain ⟨hw, hc, hs⟩ := ok
  have l1 : ∀ q, q ≤ 21 → ∃ (μ' : lT) (β' : bT) (v7 v8 v10 : Option Value), ex 50 [.ref 39, .ref 1, .int (nI n)] (SH (ME H μ β fl fh fc) 1 a) = ev 50 24 [some (.ref 39), some (.ref 1), some (.int (nI n)), some (.ref (n + 51)), some (.long (lN (a 1 0) * pw a n)), none, some (.int (nI q)), v7, v8, none, v10] [] (SH (ME H μ' β' fl fh fc) 1 a) ∧ (∀ k, k < q → μ' 2 n k = (bs (μ 3 n) (lN (a 1 0) * pw a n) k (20 - k)).2 - lN (a 1 1 * k) * pw a n) ∧ (∀ k, k < q → β' n k = nI (bs (μ 3 n) (lN (a 1 0) * pw a n) k (20 - k)).1) ∧ (∀ t r, ¬ (t = 2 ∧ r = n) → μ' t r = μ t r) ∧ (∀ r, ¬ r = n → β' r = β r) := by
    intro q
    induction q with
    | zero =>
      intro _
      refine ⟨μ, β, none, none, none, ?_, fun i hi => absurd hi (by omega), fun i hi => absurd hi (by omega), fun _ _ _ => rfl, fun _ _ => rfl⟩
      have hb : a 1 0 < 2 ^ 31 := by have := hc.1; omega
      simp (disch := first | omega | assumption | (refine b30 ?_; omega) | exact SH_isO _ _ _ | exact ME_isO _ _ _ _ _ _ | (rw [SH_gn _ _ _ _ (by omega)]; exact ME_isO _ _ _ _ _ _) | (refine nI_inR ?_ ?_ ?_ <;> omega)) only [x50, e50_0, e50_1, e50_4, e50_5, e50_6, e50_7, e50_8, e50_11, e50_12, e50_13, e50_16, e50_17, e50_18, e50_19, e50_21, e50_22, e50_26, e50_28, e50_31, e50_33, e50_35, e50_36, e50_38, e50_39, e50_41, e50_43, e50_44, e50_45, e50_47, e50_49, e50_51, e50_54, e50_55, e50_57, e50_58, e50_60, e50_61, e50_63, e50_64, e50_67, e50_69, e50_71, e50_72, e50_74, e50_75, e50_77, e50_78, e50_80, e50_83, e50_86, e50_87, e50_90, e50_91, e50_92, e50_94, e50_96, e50_97, e50_98, e50_101, e50_102, e50_103, e50_105, e50_107, e50_108, e50_110, e50_113, e50_114, e50_115, e50_118, e50_119, e50_120, e50_121, e50_122, e50_123, e50_126, e50_129, kv_s, kh_s, kn_s, kc_v, kc_n, ME_isO, ME_f0, ME_f1, ME_f2, ME_f3, ME_f4, ME_f5, ME_f6, ME_f7, ME_f8, ME_a0, ME_a1, ME_a2, ME_a3, ME_a4, ME_a5, ME_r2, ME_r3, ME_r4, ME_r5, SH_gn, SH_asn, SH_asi, SH_pfn, Option.map_some, Nat.reduceEqDiff, Nat.one_ne_zero, Nat.reduceLT, Nat.reduceLeDiff, Nat.reduceAdd, Nat.reduceSub, Nat.reduceMul, nI_add, nI_leI, nI_ltI, nI_eq, z_eq, z_lt, z_le, z_gt, z_ge, ↓reduceIte, not_true_eq_false, not_false_eq_true, if_true, if_false, s51, nI_l, h0 n hn]
    | succ q ih =>
      intro hq
      obtain ⟨μ', β', v7, v8, v10, e, i1, i2, i3, i4⟩ := ih (by omega)
      have hb := pc_le a hc q (by omega)
      have g0 : μ' 0 0 n = pw a n := by rw [i3 _ _ (by omega), h0 _ (by omega)]
      have g3 : μ' 3 n = μ 3 n := i3 _ _ (by omega)
      have hl := bs_le (μ 3 n) (lN (a 1 0) * pw a n) q (20 - q)
      have e2 := l50 H a fl fh fc μ' β' n q hn (lN (a 1 0) * pw a n) (nI q) (by omega) rfl (20 - q) (by omega)
      rw [g3] at e2
      refine ⟨u3 μ' 2 n q ((bs (μ 3 n) (lN (a 1 0) * pw a n) q (20 - q)).2 - lN (a 1 1 * q) * pw a n), ub β' n q (nI (bs (μ 3 n) (lN (a 1 0) * pw a n) q (20 - q)).1), some (.int (nI (bs (μ 3 n) (lN (a 1 0) * pw a n) q (20 - q)).1)), some (.long (bs (μ 3 n) (lN (a 1 0) * pw a n) q (20 - q)).2), some (.int (nI (q + 1 + (20 - q)))), ?_, ?_, ?_, ?_, ?_⟩
      · rw [e, e50_24]
        simp (disch := first | omega | assumption | (refine b30 ?_; omega) | exact SH_isO _ _ _ | exact ME_isO _ _ _ _ _ _ | (rw [SH_gn _ _ _ _ (by omega)]; exact ME_isO _ _ _ _ _ _) | (refine nI_inR ?_ ?_ ?_ <;> omega)) only [x50, e50_0, e50_1, e50_4, e50_5, e50_6, e50_7, e50_8, e50_11, e50_12, e50_13, e50_16, e50_17, e50_18, e50_19, e50_21, e50_22, e50_26, e50_28, e50_31, e50_33, e50_35, e50_36, e50_38, e50_39, e50_41, e50_43, e50_44, e50_45, e50_49, e50_51, e50_54, e50_55, e50_57, e50_58, e50_60, e50_61, e50_63, e50_64, e50_67, e50_69, e50_71, e50_72, e50_74, e50_75, e50_77, e50_78, e50_80, e50_83, e50_86, e50_87, e50_90, e50_91, e50_92, e50_94, e50_96, e50_97, e50_98, e50_101, e50_102, e50_103, e50_105, e50_107, e50_108, e50_110, e50_113, e50_114, e50_115, e50_118, e50_119, e50_120, e50_121, e50_122, e50_123, e50_126, e50_129, kv_s, kh_s, kn_s, kc_v, kc_n, ME_isO, ME_f0, ME_f1, ME_f2, ME_f3, ME_f4, ME_f5, ME_f6, ME_f7, ME_f8, ME_a0, ME_a1, ME_a2, ME_a3, ME_a4, ME_a5, ME_r2, ME_r3, ME_r4, ME_r5, SH_gn, SH_asn, SH_asi, SH_pfn, Option.map_some, Nat.reduceEqDiff, Nat.one_ne_zero, Nat.reduceLT, Nat.reduceLeDiff, Nat.reduceAdd, Nat.reduceSub, Nat.reduceMul, nI_add, nI_leI, nI_ltI, nI_eq, z_eq, z_lt, z_le, z_gt, z_ge, ↓reduceIte, not_true_eq_false, not_false_eq_true, if_true, if_false, g3, show ¬ 20 < q by omega]
        rw [e2, e50_47]
        simp (disch := first | omega | assumption | (refine b30 ?_; omega) | exact SH_isO _ _ _ | exact ME_isO _ _ _ _ _ _ | (rw [SH_gn _ _ _ _ (by omega)]; exact ME_isO _ _ _ _ _ _) | (refine nI_inR ?_ ?_ ?_ <;> omega)) only [x50, e50_0, e50_1, e50_4, e50_5, e50_6, e50_7, e50_8, e50_11, e50_12, e50_13, e50_16, e50_17, e50_18, e50_19, e50_21, e50_22, e50_26, e50_28, e50_31, e50_33, e50_35, e50_36, e50_38, e50_39, e50_41, e50_43, e50_44, e50_45, e50_49, e50_51, e50_54, e50_55, e50_57, e50_58, e50_60, e50_61, e50_63, e50_64, e50_67, e50_69, e50_71, e50_72, e50_74, e50_75, e50_77, e50_78, e50_80, e50_83, e50_86, e50_87, e50_90, e50_91, e50_92, e50_94, e50_96, e50_97, e50_98, e50_101, e50_102, e50_103, e50_105, e50_107, e50_108, e50_110, e50_113, e50_114, e50_115, e50_118, e50_119, e50_120, e50_121, e50_122, e50_123, e50_126, e50_129, kv_s, kh_s, kn_s, kc_v, kc_n, ME_isO, ME_f0, ME_f1, ME_f2, ME_f3, ME_f4, ME_f5, ME_f6, ME_f7, ME_f8, ME_a0, ME_a1, ME_a2, ME_a3, ME_a4, ME_a5, ME_r2, ME_r3, ME_r4, ME_r5, ME_w0, ME_w1, ME_w2, ME_w3, ME_w4, ME_w5, ME_p6, ME_p7, ME_p8, SH_gn, SH_asn, SH_asi, SH_pfn, Option.map_some, Nat.reduceEqDiff, Nat.one_ne_zero, Nat.reduceLT, Nat.reduceLeDiff, Nat.reduceAdd, Nat.reduceSub, Nat.reduceMul, nI_add, nI_leI, nI_ltI, nI_eq, z_eq, z_lt, z_le, z_gt, z_ge, ↓reduceIte, not_true_eq_false, not_false_eq_true, if_true, if_false, s47, nI_l, show 20 < q + 1 + (20 - q) by omega, g0]
      · intro i hi
        rw [u3_app]
        by_cases h : i = q
        · rw [if_pos ⟨rfl, rfl, h⟩, h]
        · rw [if_neg (by omega), i1 i (by omega)]
      · intro i hi
        rw [ub_app]
        by_cases h : i = q
        · rw [if_pos ⟨rfl, h⟩, h]
        · rw [if_neg (by omega), i2 i (by omega)]
      · intro t r ht
        rw [u3_ne _ _ _ _ _ _ _ ht, i3 t r ht]
      · intro r hr
        rw [ub_ne _ _ _ _ _ hr, i4 r hr]
  obtain ⟨μ', β', v7, v8, v10, e, i1, i2, i3, i4⟩ := l1 21 (by omega)
  refine ⟨μ', β', ?_, i1, i2, i3, i4⟩
  rw [e, e50_24]
  simp (disch := first | omega | assumption | (refine b30 ?_; omega) | exact SH_isO _ _ _ | exact ME_isO _ _ _ _ _ _ | (rw [SH_gn _ _ _ _ (by omega)]; exact ME_isO _ _ _ _ _ _) | (refine nI_inR ?_ ?_ ?_ <;> omega)) only [x50, e50_0, e50_1, e50_4, e50_5, e50_6, e50_7, e50_8, e50_11, e50_12, e50_13, e50_16, e50_17, e50_18, e50_19, e50_21, e50_22, e50_26, e50_28, e50_31, e50_33, e50_35, e50_36, e50_38, e50_39, e50_41, e50_43, e50_44, e50_45, e50_47, e50_49, e50_51, e50_54, e50_55, e50_57, e50_58, e50_60, e50_61, e50_63, e50_64, e50_67, e50_69, e50_71, e50_72, e50_74, e50_75, e50_77, e50_78, e50_80, e50_83, e50_86, e50_87, e50_90, e50_91, e50_92, e50_94, e50_96, e50_97, e50_98, e50_101, e50_102, e50_103, e50_105, e50_107, e50_108, e50_110, e50_113, e50_114, e50_115, e50_118, e50_119, e50_120, e50_121, e50_122, e50_123, e50_126, e50_129, kv_s, kh_s, kn_s, kc_v, kc_n, Nat.reduceEqDiff, Nat.one_ne_zero, Nat.reduceLT, Nat.reduceLeDiff, Nat.reduceAdd, Nat.reduceSub, Nat.reduceMul, nI_add, nI_leI, nI_ltI, nI_eq, z_eq, z_lt, z_le, z_gt, z_ge, ↓reduceIte, not_true_eq_false, not_false_eq_true, if_true, if_false]
/-- the tables stand for p periods -/
def okB (a : sT) (p : Nat) (μ : lT) (β : bT) : Prop := (∀ n, n < 7 → μ 0 0 n = pw a n) ∧ (∀ y, y < 21 → μ 1 0 y = ppS a y 7) ∧ (∀ n, n ≤ p → ∀ k, k < 21 → μ 2 n k = lsT a n k) ∧ (∀ n, 1 ≤ n → n ≤ p → ∀ k, k < 21 → μ 3 n k = vlT a n k ∧ β n k = nI (btT a n k))
theorem s42 (ok : okA a) (β : bT) (μ : lT) (p : Nat) (hp : p < 7) : ∃ (μ' : lT) (β' : bT), ex 42 [.ref 39, .ref 1, .int (nI p)] (SH (ME H μ β fl fh fc) 1 a) = some (none, SH (ME H μ' β' fl fh fc) 1 a) ∧ okB a p μ' β' ∧ μ' 4 = μ 4 := by
  have l1 : ∀ q, q ≤ p → ∃ (μ' : lT) (β' : bT), ex 42 [.ref 39, .ref 1, .int (nI p)] (SH (ME H μ β fl fh fc) 1 a) = ev 42 17 [some (.ref 39), some (.ref 1), some (.int (nI p)), some (.int (nI (q + 1)))] [] (SH (ME H μ' β' fl fh fc) 1 a) ∧ okB a q μ' β' ∧ μ' 4 = μ 4 := by
    intro q
    induction q with
    | zero =>
      intro _
      obtain ⟨μ1, e1, j1, j2, j3⟩ := s43 H a β fl fh fc ok μ
      obtain ⟨μ2, e2, j4, j5⟩ := s45a H a β fl fh fc ok μ1
      refine ⟨μ2, β, ?_, ⟨fun n hn => by rw [j5 _ _ (by omega), j1 n hn], fun y hy => by rw [j5 _ _ (by omega), j2 y hy], ?_, fun n h1 h2 => absurd h1 (by omega)⟩, ?_⟩
      · simp (disch := first | omega | assumption | (refine b30 ?_; omega) | exact SH_isO _ _ _ | exact ME_isO _ _ _ _ _ _ | (rw [SH_gn _ _ _ _ (by omega)]; exact ME_isO _ _ _ _ _ _) | (refine nI_inR ?_ ?_ ?_ <;> omega)) only [x42, e42_0, e42_1, e42_2, e42_5, e42_6, e42_7, e42_10, e42_11, e42_12, e42_15, e42_16, e42_18, e42_19, e42_22, e42_23, e42_24, e42_25, e42_28, e42_29, e42_30, e42_31, e42_34, e42_37, e42_40, kv_s, kh_s, kn_s, kc_v, kc_n, ME_isO, ME_f0, ME_f1, ME_f2, ME_f3, ME_f4, ME_f5, ME_f6, ME_f7, ME_f8, ME_a0, ME_a1, ME_a2, ME_a3, ME_a4, ME_a5, ME_r2, ME_r3, ME_r4, ME_r5, SH_gn, SH_asn, SH_asi, SH_pfn, Option.map_some, Nat.reduceEqDiff, Nat.one_ne_zero, Nat.reduceLT, Nat.reduceLeDiff, Nat.reduceAdd, Nat.reduceSub, Nat.reduceMul, nI_add, nI_leI, nI_ltI, nI_eq, z_eq, z_lt, z_le, z_gt, z_ge, ↓reduceIte, not_true_eq_false, not_false_eq_true, if_true, if_false, e1, e2, Nat.zero_add]
      · intro n hn k hk
        rw [show n = 0 by omega, j4 k hk]
        rfl
      · funext r
        rw [j5 _ _ (by omega), j3 _ _ (by omega)]
    | succ q ih =>
      intro hq
      obtain ⟨μ', β', e, ⟨k1, k2, k3, k4⟩, k5⟩ := ih (by omega)
      obtain ⟨μ1, e1, j1, j2⟩ := s46 H a fl fh fc ok β' μ' q (by omega) k1 k2
      obtain ⟨μ2, β2, e2, j3, j4, j5, j6⟩ := s50 H a fl fh fc ok β' μ1 (q + 1) (by omega) (fun n hn => by rw [j2 _ _ (by omega), k1 n hn])
      have hv : ∀ y, y < 21 → μ1 3 (q + 1) y = vlT a (q + 1) y := by
        intro y hy
        rw [j1 y hy]
        show vl a q _ y = vl a (q + 1 - 1) (lsT a (q + 1 - 1)) y
        unfold vl
        rw [Nat.add_sub_cancel, cb_congr a (μ' 2 q) (lsT a q) q y (fun k hk => k3 q (by omega) k (by omega))]
      refine ⟨μ2, β2, ?_, ⟨fun n hn => by rw [j5 _ _ (by omega), j2 _ _ (by omega), k1 n hn], fun y hy => by rw [j5 _ _ (by omega), j2 _ _ (by omega), k2 y hy], ?_, ?_⟩, ?_⟩
      · rw [e, e42_17]
        simp (disch := first | omega | assumption | (refine b30 ?_; omega) | exact SH_isO _ _ _ | exact ME_isO _ _ _ _ _ _ | (rw [SH_gn _ _ _ _ (by omega)]; exact ME_isO _ _ _ _ _ _) | (refine nI_inR ?_ ?_ ?_ <;> omega)) only [x42, e42_0, e42_1, e42_2, e42_5, e42_6, e42_7, e42_10, e42_11, e42_12, e42_15, e42_16, e42_18, e42_19, e42_22, e42_23, e42_24, e42_25, e42_28, e42_29, e42_30, e42_31, e42_34, e42_37, e42_40, kv_s, kh_s, kn_s, kc_v, kc_n, Nat.reduceEqDiff, Nat.one_ne_zero, Nat.reduceLT, Nat.reduceLeDiff, Nat.reduceAdd, Nat.reduceSub, Nat.reduceMul, nI_add, nI_leI, nI_ltI, nI_eq, z_eq, z_lt, z_le, z_gt, z_ge, ↓reduceIte, not_true_eq_false, not_false_eq_true, if_true, if_false, e1, e2, show ¬ p < q + 1 by omega]
      · intro n hn k hk
        by_cases h : n = q + 1
        · subst h
          rw [j3 k hk, bs_congr _ _ _ k hk hv (20 - k) (by omega)]
          rfl
        · rw [j5 _ _ (by omega), j2 _ _ (by omega), k3 n (by omega) k hk]
      · intro n h1 hn k hk
        by_cases h : n = q + 1
        · subst h
          rw [j4 k hk, bs_congr _ _ _ k hk hv (20 - k) (by omega), j5 _ _ (by omega), hv k hk]
          exact ⟨rfl, rfl⟩
        · rw [j5 _ _ (by omega), j2 _ _ (by omega), j6 _ h]
          exact k4 n h1 (by omega) k hk
      · funext r
        rw [j5 _ _ (by omega), j2 _ _ (by omega), k5]
  obtain ⟨μ', β', e, i1, i2⟩ := l1 p (by omega)
  refine ⟨μ', β', ?_, i1, i2⟩
  rw [e, e42_17]
  simp (disch := first | omega | assumption | (refine b30 ?_; omega) | exact SH_isO _ _ _ | exact ME_isO _ _ _ _ _ _ | (rw [SH_gn _ _ _ _ (by omega)]; exact ME_isO _ _ _ _ _ _) | (refine nI_inR ?_ ?_ ?_ <;> omega)) only [x42, e42_0, e42_1, e42_2, e42_5, e42_6, e42_7, e42_10, e42_11, e42_12, e42_15, e42_16, e42_18, e42_19, e42_22, e42_23, e42_24, e42_25, e42_28, e42_29, e42_30, e42_31, e42_34, e42_37, e42_40, kv_s, kh_s, kn_s, kc_v, kc_n, Nat.reduceEqDiff, Nat.one_ne_zero, Nat.reduceLT, Nat.reduceLeDiff, Nat.reduceAdd, Nat.reduceSub, Nat.reduceMul, nI_add, nI_leI, nI_ltI, nI_eq, z_eq, z_lt, z_le, z_gt, z_ge, ↓reduceIte, not_true_eq_false, not_false_eq_true, if_true, if_false, show p < p + 1 by omega]
end
