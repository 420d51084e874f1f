-- PART 24: shops' methods, fourth: a copy, sums
theorem SH_congr (H : pi_H) (o : Nat) (a b : sT) (h : ∀ j, j < 6 → shc a o j = shc b o j) : SH H o a = SH H o b := by
  unfold SH
  congr 1
  funext k
  by_cases hk : o ≤ k ∧ k < o + 6
  · rw [if_pos hk, if_pos hk, h _ (by omega)]
  · rw [if_neg hk, if_neg hk]
def ln5 (k : Nat) : Nat := if k = 1 then 5 else if k = 4 then 24 else 7
theorem shc_k (a : sT) (o k : Nat) (hk : k < 5) : shc a o (k + 1) = some (.inl (0, ln5 k, .inl (cl (ln5 k) (a k)))) := by
  match k, hk with
  | 0, _ => rfl
  | 1, _ => rfl
  | 2, _ => rfl
  | 3, _ => rfl
  | 4, _ => rfl
theorem cpy_cl (n : Nat) (f g : Nat → Nat) : va_cpy (cl n f) (cl n g) 0 0 n = cl n f := by
  funext i
  unfold va_cpy cl
  simp
  intro h1
  rw [if_neg (by omega), if_neg (by omega)]
theorem shc_0c (a b : sT) (o : Nat) (h : ∀ k, 5 ≤ k → k < 14 → a k 0 = b k 0) : shc a o 0 = shc b o 0 := by
  show (some (.inr (3, [.ref (o + 1), .ref (o + 2), .ref (o + 3), .ref (o + 4), .ref (o + 5), .int (nI (a 5 0)), .int (nI (a 6 0)), .int (nI (a 7 0)), .int (nI (a 8 0)), .int (nI (a 9 0)), .int (nI (a 10 0)), .int (nI (a 11 0)), .int (nI (a 12 0)), .int (nI (a 13 0))])) : Option pi_E) = _
  rw [h 5 (by omega) (by omega), h 6 (by omega) (by omega), h 7 (by omega) (by omega), h 8 (by omega) (by omega), h 9 (by omega) (by omega), h 10 (by omega) (by omega), h 11 (by omega) (by omega), h 12 (by omega) (by omega), h 13 (by omega) (by omega)]
  rfl
theorem SH_cp (H : pi_H) (o p : Nat) (hop : o + 6 ≤ p ∨ p + 6 ≤ o) (a b : sT) (k : Nat) (hk : k < 5) : pi_cp (SH (SH H p b) o a) (p + (k + 1)) (nI 0) (o + (k + 1)) (nI 0) (nI (ln5 k)) = some (SH (SH H p b) o (u1 a k (b k))) := by
  have hl : ln5 k < 100 := by unfold ln5; (repeat' split) <;> omega
  unfold pi_cp
  rw [SH_gn _ _ _ _ (by omega), SH_g _ _ _ _ (by omega), SH_g _ _ _ _ (by omega), shc_k _ _ _ hk, shc_k _ _ _ hk]
  dsimp only
  rw [if_pos (by
    unfold pi_arr
    rw [nI_clamp (by omega), nI_clamp (by omega)]
    simp [nI_pos (n := ln5 k) (by omega), nI_pos (n := 0) (by omega)])]
  rw [nI_clamp (by omega), nI_clamp (by omega), cpy_cl]
  refine congrArg some (SH_set _ _ _ (u1 a k (b k)) (k + 1) (by omega) _ ?_ ?_)
  · rw [shc_k _ _ _ hk, u1_s]
  · intro i hi hne
    match i, hi, hne with
    | 0, _, _ => exact shc_0c _ _ _ (fun q h5 _ => by rw [u1_n _ _ _ _ (by omega)])
    | i + 1, _, _ => rw [shc_k _ _ _ (by omega), shc_k _ _ _ (by omega), u1_n _ _ _ _ (by omega)]
theorem SH_c0 (H : pi_H) (o p : Nat) (hop : o + 6 ≤ p ∨ p + 6 ≤ o) (a b : sT) : pi_cp (SH (SH H p b) o a) (p + 1) (nI 0) (o + 1) (nI 0) (nI 7) = some (SH (SH H p b) o (u1 a 0 (b 0))) := SH_cp H o p hop a b 0 (by omega)
theorem SH_c1 (H : pi_H) (o p : Nat) (hop : o + 6 ≤ p ∨ p + 6 ≤ o) (a b : sT) : pi_cp (SH (SH H p b) o a) (p + 2) (nI 0) (o + 2) (nI 0) (nI 5) = some (SH (SH H p b) o (u1 a 1 (b 1))) := SH_cp H o p hop a b 1 (by omega)
theorem SH_c2 (H : pi_H) (o p : Nat) (hop : o + 6 ≤ p ∨ p + 6 ≤ o) (a b : sT) : pi_cp (SH (SH H p b) o a) (p + 3) (nI 0) (o + 3) (nI 0) (nI 7) = some (SH (SH H p b) o (u1 a 2 (b 2))) := SH_cp H o p hop a b 2 (by omega)
theorem SH_c3 (H : pi_H) (o p : Nat) (hop : o + 6 ≤ p ∨ p + 6 ≤ o) (a b : sT) : pi_cp (SH (SH H p b) o a) (p + 4) (nI 0) (o + 4) (nI 0) (nI 7) = some (SH (SH H p b) o (u1 a 3 (b 3))) := SH_cp H o p hop a b 3 (by omega)
theorem SH_c4 (H : pi_H) (o p : Nat) (hop : o + 6 ≤ p ∨ p + 6 ≤ o) (a b : sT) : pi_cp (SH (SH H p b) o a) (p + 5) (nI 0) (o + 5) (nI 0) (nI 24) = some (SH (SH H p b) o (u1 a 4 (b 4))) := SH_cp H o p hop a b 4 (by omega)
theorem okb (x : Nat) (h : x ≤ 1) : pi_okv 2 (.int (nI x)) = true := by
  have h : x = 0 ∨ x = 1 := by omega
  rcases h with rfl | rfl <;> decide
theorem s6 (o p : Nat) (ho : o < 1000) (hp : p < 1000) (hop : o + 6 ≤ p ∨ p + 6 ≤ o) (a b : sT) (h7 : b 7 0 ≤ 1) (H : pi_H) : ex 6 [.ref o, .ref p] (SH (SH H p b) o a) = some (none, SH (SH H p b) o b) := by
  have h8 := okb _ h7
  simp (disch := first | omega | assumption | (refine b30 ?_; omega) | exact SH_isO _ _ _ | (refine nI_inR ?_ ?_ ?_ <;> omega)) only [x6, e6_0, e6_1, e6_4, e6_5, e6_6, e6_9, e6_10, e6_11, e6_14, e6_15, e6_18, e6_19, e6_22, e6_23, e6_24, e6_27, e6_28, e6_29, e6_32, e6_33, e6_36, e6_37, e6_40, e6_41, e6_42, e6_45, e6_46, e6_47, e6_50, e6_51, e6_54, e6_55, e6_58, e6_59, e6_60, e6_63, e6_64, e6_65, e6_68, e6_69, e6_72, e6_73, e6_76, e6_77, e6_78, e6_81, e6_82, e6_83, e6_86, e6_87, e6_90, e6_91, e6_92, e6_95, e6_98, e6_99, e6_100, e6_103, e6_106, e6_107, e6_108, e6_111, e6_114, e6_115, e6_116, e6_119, e6_122, e6_123, e6_124, e6_127, e6_130, e6_131, e6_132, e6_135, e6_138, e6_139, e6_140, e6_143, e6_146, e6_147, e6_148, e6_151, e6_154, e6_155, e6_156, e6_159, e6_162, Nat.reduceEqDiff, Nat.one_ne_zero, Nat.reduceLT, Nat.reduceLeDiff, Nat.reduceAdd, Nat.reduceSub, Nat.reduceMul, nI_add, nI_leI, nI_ltI, nI_eq, z_eq, z_lt, z_le, z_gt, z_ge, ↓reduceIte, not_true_eq_false, not_false_eq_true, if_true, if_false, kv_s, kh_s, kn_s, kc_v, kc_n, SH_isO, SH_f0, SH_f1, SH_f2, SH_f3, SH_f4, SH_f5, SH_f6, SH_f7, SH_f8, SH_f9, SH_f10, SH_f11, SH_f12, SH_f13, SH_l0, SH_l1, SH_l2, SH_l3, SH_l4, SH_a0, SH_a1, SH_a2, SH_a3, SH_a4, SH_w0, SH_w1, SH_w2, SH_w3, SH_w4, SH_p, SH_gn, SH_c0, SH_c1, SH_c2, SH_c3, SH_c4]
  refine congrArg (fun h => some (none, h)) (SH_congr _ _ _ _ ?_)
  intro j hj
  match j, hj with
  | 0, _ =>
    refine shc_0c _ _ _ (fun k h5 h14 => ?_)
    have h : k = 5 ∨ k = 6 ∨ k = 7 ∨ k = 8 ∨ k = 9 ∨ k = 10 ∨ k = 11 ∨ k = 12 ∨ k = 13 := by omega
    rcases h with rfl | rfl | rfl | rfl | rfl | rfl | rfl | rfl | rfl <;> rfl
  | j + 1, _ =>
    rw [shc_k _ _ _ (by omega), shc_k _ _ _ (by omega)]
    refine congrArg (fun f => (some (.inl (0, ln5 j, .inl (cl (ln5 j) f))) : Option pi_E)) ?_
    rw [u2_ne _ _ _ _ _ (by omega), u2_ne _ _ _ _ _ (by omega), u2_ne _ _ _ _ _ (by omega), u2_ne _ _ _ _ _ (by omega), u2_ne _ _ _ _ _ (by omega), u2_ne _ _ _ _ _ (by omega), u2_ne _ _ _ _ _ (by omega), u2_ne _ _ _ _ _ (by omega), u2_ne _ _ _ _ _ (by omega)]
    have h : j = 0 ∨ j = 1 ∨ j = 2 ∨ j = 3 ∨ j = 4 := by omega
    rcases h with rfl | rfl | rfl | rfl | rfl <;> rfl
/-! sums of longs -/
def ppS (a : sT) (l : Nat) : Nat → Int64
  | 0 => 0
  | d + 1 => ppS a l d + lN (a 0 d) * lN (pprice a l d)
def rsS (a : sT) (f : Nat → Int64) (l : Nat) : Nat → Int64
  | 0 => 0
  | d + 1 => rsS a f l d + lN (a 0 d) * f (l - d)
def okW (a : sT) : Prop := ∀ d, d < 7 → a 0 d ≤ 9
def okC (a : sT) : Prop := a 1 0 ≤ 99 ∧ a 1 1 ≤ 9 ∧ a 1 2 ≤ 9 ∧ a 1 3 ≤ 29 ∧ a 1 4 ≤ 9
theorem pprice_le (a : sT) (h : okC a) (l d : Nat) (hl : l ≤ 20) (hd : d ≤ 6) : pprice a l d ≤ 1000 := by
  unfold pprice
  have h1 : a 1 2 * (l - d) ≤ 9 * 20 := Nat.mul_le_mul h.2.2.1 (by omega)
  have h2 : a 1 3 * (d - l) ≤ 29 * 6 := Nat.mul_le_mul h.2.2.2.1 (by omega)
  omega
theorem lN_0 : lN 0 = 0 := rfl
theorem s44 (o : Nat) (ho : o < 1000) (a : sT) (hw : okW a) (hc : okC a) (l : Nat) (hl : l ≤ 20) (H : pi_H) : ex 44 [.ref o, .int (nI l)] (SH H o a) = some (some (.long (ppS a l 7)), SH H o a) := by
  have h := ev_loop (fun n => ev 44 5 [some (.ref o), some (.int (nI l)), some (.long (ppS a l n)), none, some (.int (nI n))] [] (SH H o a)) 7 (fun n hn => by
    have h1 := hw n hn
    have h2 := pprice_le a hc l n hl (by omega)
    rw [e44_5]
    simp (disch := first | omega | assumption | (refine b30 ?_; omega) | exact SH_isO _ _ _ | (refine nI_inR ?_ ?_ ?_ <;> omega)) only [x44, e44_0, e44_1, e44_2, e44_3, e44_7, e44_9, e44_12, e44_13, e44_14, e44_17, e44_19, e44_20, e44_21, e44_22, e44_23, e44_25, e44_28, e44_29, e44_30, e44_31, e44_32, e44_35, e44_38, e44_39, Nat.reduceEqDiff, Nat.one_ne_zero, Nat.reduceLT, Nat.reduceLeDiff, Nat.reduceAdd, Nat.reduceSub, Nat.reduceMul, nI_add, nI_leI, nI_ltI, nI_eq, z_eq, z_lt, z_le, z_gt, z_ge, ↓reduceIte, not_true_eq_false, not_false_eq_true, if_true, if_false, kv_s, kh_s, kn_s, kc_v, kc_n, SH_isO, SH_f0, SH_f1, SH_f2, SH_f3, SH_f4, SH_f5, SH_f6, SH_f7, SH_f8, SH_f9, SH_f10, SH_f11, SH_f12, SH_f13, SH_l0, SH_l1, SH_l2, SH_l3, SH_l4, SH_a0, SH_a1, SH_a2, SH_a3, SH_a4, s32, nI_l, show ¬ 6 < n by omega]
    rfl)
  have h0 : ex 44 [.ref o, .int (nI l)] (SH H o a) = ev 44 5 [some (.ref o), some (.int (nI l)), some (.long (ppS a l 0)), none, some (.int (nI 0))] [] (SH H o a) := by
    simp (disch := first | omega | assumption | (refine b30 ?_; omega) | exact SH_isO _ _ _ | (refine nI_inR ?_ ?_ ?_ <;> omega)) only [x44, e44_0, e44_1, e44_2, e44_3, e44_7, e44_9, e44_12, e44_13, e44_14, e44_17, e44_19, e44_20, e44_21, e44_22, e44_23, e44_25, e44_28, e44_29, e44_30, e44_31, e44_32, e44_35, e44_38, e44_39, lN_0]
    rfl
  rw [h0, h]
  simp (disch := first | omega | assumption | (refine b30 ?_; omega) | exact SH_isO _ _ _ | (refine nI_inR ?_ ?_ ?_ <;> omega)) only [x44, e44_0, e44_1, e44_2, e44_3, e44_5, e44_7, e44_9, e44_12, e44_13, e44_14, e44_17, e44_19, e44_20, e44_21, e44_22, e44_23, e44_25, e44_28, e44_29, e44_30, e44_31, e44_32, e44_35, e44_38, e44_39, Nat.reduceEqDiff, Nat.one_ne_zero, Nat.reduceLT, Nat.reduceLeDiff, Nat.reduceAdd, Nat.reduceSub, Nat.reduceMul, nI_add, nI_leI, nI_ltI, nI_eq, z_eq, z_lt, z_le, z_gt, z_ge, ↓reduceIte, not_true_eq_false, not_false_eq_true, if_true, if_false]
theorem s49 (o : Nat) (ho : o < 1000) (a : sT) (hw : okW a) (l : Nat) (hl : l ≤ 20) (r : Nat) (hr : r < 1000) (f : Nat → Int64) (H : pi_H) (hg : pi_get (SH H o a) r = some (.inl (2, 21, .inr (.inl f)))) : ex 49 [.ref o, .int (nI l), .ref r] (SH H o a) = some (some (.long (rsS a f l 7)), SH H o a) := by
  have ha : ∀ j, j < 21 → pi_al (pi_get (SH H o a) r) (nI j) 3 = some (.long (f j)) := by
    intro j hj
    rw [hg]
    unfold pi_al pi_in
    simp [nI_clamp (n := j) (by omega), nI_pos (n := j) (by omega), hj]
  have hn : pi_len (pi_get (SH H o a) r) = some 21 := by rw [hg]; rfl
  obtain ⟨v0, h⟩ : ∃ v : Nat → Option Value, ∀ n, n ≤ 7 → ex 49 [.ref o, .int (nI l), .ref r] (SH H o a) = ev 49 5 [some (.ref o), some (.int (nI l)), some (.ref r), some (.long (rsS a f l n)), none, some (.int (nI n)), v n] [] (SH H o a) := by
    refine ⟨fun n => match n with | 0 => none | n + 1 => some (.int (nI (l - n))), ?_⟩
    intro n
    induction n with
    | zero =>
      intro _
      simp (disch := first | omega | assumption | (refine b30 ?_; omega) | exact SH_isO _ _ _ | (refine nI_inR ?_ ?_ ?_ <;> omega)) only [x49, e49_0, e49_1, e49_2, e49_3, e49_7, e49_9, e49_12, e49_13, e49_14, e49_16, e49_17, e49_20, e49_22, e49_23, e49_26, e49_28, e49_29, e49_32, e49_34, e49_35, e49_36, e49_39, e49_40, e49_41, e49_44, e49_46, e49_47, e49_48, e49_49, e49_51, e49_52, e49_53, e49_54, e49_55, e49_58, e49_61, e49_62, lN_0]
      rfl
    | succ n ih =>
      intro hn'
      rw [ih (by omega)]
      have h1 := hw n (by omega)
      rw [e49_5]
      by_cases q : a 0 n = 0
      · simp (disch := first | omega | assumption | (refine b30 ?_; omega) | exact SH_isO _ _ _ | (refine nI_inR ?_ ?_ ?_ <;> omega)) only [x49, e49_0, e49_1, e49_2, e49_3, e49_7, e49_9, e49_12, e49_13, e49_14, e49_16, e49_17, e49_20, e49_22, e49_23, e49_26, e49_28, e49_29, e49_32, e49_34, e49_35, e49_36, e49_39, e49_40, e49_41, e49_44, e49_46, e49_47, e49_48, e49_49, e49_51, e49_52, e49_53, e49_54, e49_55, e49_58, e49_61, e49_62, Nat.reduceEqDiff, Nat.one_ne_zero, Nat.reduceLT, Nat.reduceLeDiff, Nat.reduceAdd, Nat.reduceSub, Nat.reduceMul, nI_add, nI_leI, nI_ltI, nI_eq, z_eq, z_lt, z_le, z_gt, z_ge, ↓reduceIte, not_true_eq_false, not_false_eq_true, if_true, if_false, kv_s, kh_s, kn_s, kc_v, kc_n, SH_isO, SH_f0, SH_f1, SH_f2, SH_f3, SH_f4, SH_f5, SH_f6, SH_f7, SH_f8, SH_f9, SH_f10, SH_f11, SH_f12, SH_f13, SH_l0, SH_l1, SH_l2, SH_l3, SH_l4, SH_a0, SH_a1, SH_a2, SH_a3, SH_a4, max0, nI_l, show ¬ 6 < n by omega, q]
        have e : rsS a f l (n + 1) = rsS a f l n := by
          show rsS a f l n + lN (a 0 n) * f (l - n) = _
          rw [q, lN_0]
          grind
        rw [e]
      · simp (disch := first | omega | assumption | (refine b30 ?_; omega) | exact SH_isO _ _ _ | (refine nI_inR ?_ ?_ ?_ <;> omega)) only [x49, e49_0, e49_1, e49_2, e49_3, e49_7, e49_9, e49_12, e49_13, e49_14, e49_16, e49_17, e49_20, e49_22, e49_23, e49_26, e49_28, e49_29, e49_32, e49_34, e49_35, e49_36, e49_39, e49_40, e49_41, e49_44, e49_46, e49_47, e49_48, e49_49, e49_51, e49_52, e49_53, e49_54, e49_55, e49_58, e49_61, e49_62, Nat.reduceEqDiff, Nat.one_ne_zero, Nat.reduceLT, Nat.reduceLeDiff, Nat.reduceAdd, Nat.reduceSub, Nat.reduceMul, nI_add, nI_leI, nI_ltI, nI_eq, z_eq, z_lt, z_le, z_gt, z_ge, ↓reduceIte, not_true_eq_false, not_false_eq_true, if_true, if_false, kv_s, kh_s, kn_s, kc_v, kc_n, SH_isO, SH_f0, SH_f1, SH_f2, SH_f3, SH_f4, SH_f5, SH_f6, SH_f7, SH_f8, SH_f9, SH_f10, SH_f11, SH_f12, SH_f13, SH_l0, SH_l1, SH_l2, SH_l3, SH_l4, SH_a0, SH_a1, SH_a2, SH_a3, SH_a4, max0, nI_l, hn, ha, show ¬ 6 < n by omega, q, show ¬ 21 ≤ l - n by omega]
        rfl
  rw [h 7 (by omega)]
  simp (disch := first | omega | assumption | (refine b30 ?_; omega) | exact SH_isO _ _ _ | (refine nI_inR ?_ ?_ ?_ <;> omega)) only [x49, e49_0, e49_1, e49_2, e49_3, e49_5, e49_7, e49_9, e49_12, e49_13, e49_14, e49_16, e49_17, e49_20, e49_22, e49_23, e49_26, e49_28, e49_29, e49_32, e49_34, e49_35, e49_36, e49_39, e49_40, e49_41, e49_44, e49_46, e49_47, e49_48, e49_49, e49_51, e49_52, e49_53, e49_54, e49_55, e49_58, e49_61, e49_62, Nat.reduceEqDiff, Nat.one_ne_zero, Nat.reduceLT, Nat.reduceLeDiff, Nat.reduceAdd, Nat.reduceSub, Nat.reduceMul, nI_add, nI_leI, nI_ltI, nI_eq, z_eq, z_lt, z_le, z_gt, z_ge, ↓reduceIte, not_true_eq_false, not_false_eq_true, if_true, if_false]
