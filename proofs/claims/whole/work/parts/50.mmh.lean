-- PART 50: the reference's methods, sixteenth: the shape
theorem ll_congr (f g : Nat → Int64) : ∀ n, (∀ y, y ≤ n → f y = g y) → ll f n = ll g n
  | 0, _ => rfl
  | n + 1, h => by
    have e := ll_congr f g n (fun y hy => h y (by omega))
    have := ll_le g n
    unfold ll
    rw [e, h (n + 1) (by omega), h (ll g n) (by omega)]
theorem cnt_congr (P Q : Nat → Bool) : ∀ n, (∀ k, 1 ≤ k → k ≤ n → P k = Q k) → cnt P n = cnt Q n
  | 0, _ => rfl
  | n + 1, h => by
    unfold cnt
    rw [cnt_congr P Q n (fun k h1 hk => h k h1 (by omega)), h (n + 1) (by omega) (by omega)]
theorem fst1_congr (P Q : Nat → Bool) : ∀ n, (∀ k, 1 ≤ k → k ≤ n → P k = Q k) → fst1 P n = fst1 Q n
  | 0, _ => rfl
  | n + 1, h => by
    unfold fst1
    rw [fst1_congr P Q n (fun k h1 hk => h k h1 (by omega)), h (n + 1) (by omega) (by omega)]
theorem gapC_congr (f g : Nat → Int64) (h : ∀ y, y < 21 → f y = g y) (k : Nat) (h1 : 1 ≤ k) (hk : k ≤ 19) : gapC f k = gapC g k := by
  unfold gapC
  rw [h (k - 1) (by omega), h (k + 1) (by omega), h k (by omega)]
theorem btT_lt (a : sT) (n k : Nat) (hk : k < 21) : btT a n k < 21 := by
  have := bs_le (vlT a n) (lN (a 1 0) * pw a n) k (20 - k)
  unfold btT
  omega
def shN (a : sT) (p w : Nat) : Int32 := if w = 0 then nI (ll (vlT a p) 20) else if w = 1 then oI (lastO (btT a p) 21) else if w = 2 then nI (cnt (gapC (vlT a p)) 19) else if w = 3 then oI (fst1 (gapC (vlT a p)) 19) else if w = 4 then nI (cnt (gapO (btT a p)) 20) else if w = 5 then oI (fst1 (gapO (btT a p)) 20) else nI (unl (btT a p) 21)
/-- what is found, or -1 -/
def o1 (o : Option Nat) : Int32 := match o with
  | some n => nI n
  | none => -1
def setB (b : Nat → Nat) : Nat → Nat
  | 0 => 0
  | k + 1 => if k < b k then setB b k ||| 2 ^ b k else setB b k
theorem setB_lt (b : Nat → Nat) (hb : ∀ k, k < 21 → b k < 21) : ∀ k, k ≤ 21 → setB b k < 2 ^ 21
  | 0, _ => by
    show 0 < 2 ^ 21
    omega
  | k + 1, hk => by
    have ih := setB_lt b hb k (by omega)
    unfold setB
    split
    · exact Nat.or_lt_two_pow ih (Nat.pow_lt_pow_right (by omega) (hb k (by omega)))
    · exact ih
theorem setB_bit (b : Nat → Nat) (j : Nat) : ∀ k, (setB b k).testBit j = true ↔ ∃ i, i < k ∧ i < b i ∧ b i = j
  | 0 => by
    unfold setB
    rw [Nat.zero_testBit]
    constructor
    · intro h; cases h
    · rintro ⟨i, hi, _⟩; omega
  | k + 1 => by
    have ih := setB_bit b j k
    unfold setB
    by_cases h : k < b k
    · rw [if_pos h, Nat.testBit_or, Nat.testBit_two_pow, Bool.or_eq_true, ih, decide_eq_true_eq]
      constructor
      · rintro (⟨i, h1, h2, h3⟩ | h1)
        · exact ⟨i, by omega, h2, h3⟩
        · exact ⟨k, by omega, h, h1⟩
      · rintro ⟨i, h1, h2, h3⟩
        by_cases hi : i = k
        · subst hi; exact .inr h3
        · exact .inl ⟨i, by omega, h2, h3⟩
    · rw [if_neg h, ih]
      constructor
      · rintro ⟨i, h1, h2, h3⟩
        exact ⟨i, by omega, h2, h3⟩
      · rintro ⟨i, h1, h2, h3⟩
        by_cases hi : i = k
        · subst hi; exact absurd h2 h
        · exact ⟨i, by omega, h2, h3⟩
theorem newL_iff (b : Nat → Nat) (q : Nat) : ∀ k, newL b q k = true ↔ ∀ i, i < k → ¬ (i < b i ∧ b i = b q)
  | 0 => by
    constructor
    · intro _ i hi; omega
    · intro _; rfl
  | k + 1 => by
    have ih := newL_iff b q k
    unfold newL
    rw [Bool.and_eq_true, ih, Bool.not_eq_true', Bool.and_eq_false_iff, decide_eq_false_iff_not, decide_eq_false_iff_not]
    constructor
    · rintro ⟨h1, h2⟩ i hi ⟨h3, h4⟩
      by_cases e : i = k
      · subst e
        rcases h2 with h2 | h2
        · exact h2 h3
        · exact h2 h4
      · exact h1 i (by omega) ⟨h3, h4⟩
    · intro h
      refine ⟨fun i hi => h i (by omega), ?_⟩
      by_cases e : k < b k
      · exact .inr (fun e2 => h k (by omega) ⟨e, e2⟩)
      · exact .inl e
theorem newL_bit (b : Nat → Nat) (k : Nat) : newL b k k = true ↔ ¬ (setB b k).testBit (b k) = true := by
  rw [newL_iff, setB_bit]
  constructor
  · rintro h ⟨i, h1, h2, h3⟩
    exact h i h1 ⟨h2, h3⟩
  · intro h i h1 h2
    exact h ⟨i, h1, h2.1, h2.2⟩
theorem nI_and (x y : Nat) : nI x &&& nI y = nI (x &&& y) := by
  unfold nI
  apply Int32.toBitVec_inj.mp
  rw [Int32.toBitVec_and]
  apply BitVec.eq_of_toNat_eq
  rw [BitVec.toNat_and]
  show x % 2 ^ 32 &&& y % 2 ^ 32 = (x &&& y) % 2 ^ 32
  rw [Nat.and_mod_two_pow]
theorem nI_or (x y : Nat) : nI x ||| nI y = nI (x ||| y) := by
  unfold nI
  apply Int32.toBitVec_inj.mp
  rw [Int32.toBitVec_or]
  apply BitVec.eq_of_toNat_eq
  rw [BitVec.toNat_or]
  show x % 2 ^ 32 ||| y % 2 ^ 32 = (x ||| y) % 2 ^ 32
  rw [Nat.or_mod_two_pow]
theorem shl_b : ∀ b, b < 21 → nI 1 <<< (nI b &&& 31) = nI (2 ^ b) := pi_range (by decide +kernel)
theorem and_tb (S b : Nat) (h : S.testBit b = true) : S &&& 2 ^ b = 2 ^ b := by
  apply Nat.eq_of_testBit_eq
  intro i
  rw [Nat.testBit_and, Nat.testBit_two_pow]
  by_cases e : b = i
  · subst e; simp [h]
  · simp [e]
theorem and_nb (S b : Nat) (h : ¬ S.testBit b = true) : S &&& 2 ^ b = 0 := by
  apply Nat.eq_of_testBit_eq
  intro i
  rw [Nat.testBit_and, Nat.testBit_two_pow]
  by_cases e : b = i
  · subst e; simp [h]
  · simp [e]
theorem rt151_0 : pi_rt pm_Mo_isOrdering (nI 0) = true := by decide +kernel
theorem rt151_1 : pi_rt pm_Mo_isOrdering (nI 1) = true := by decide +kernel
theorem rt154_0 : pi_rt pm_Mo_isGap (nI 0) = true := by decide +kernel
theorem rt154_1 : pi_rt pm_Mo_isGap (nI 1) = true := by decide +kernel
section
variable (H : pi_H) (ι : sT) (z : jT) (κ : kT)
theorem m149 (n : Nat) (hn : n < 7) : ex 149 [.ref 77, .int (nI n)] (MO H ι z κ) = some (some (.int (nI (ll (fun y => z 1 (21 * n + y)) 20))), MO H ι z κ) := by
  have h := ev_loop (fun j => ev 149 4 [some (.ref 77), some (.int (nI n)), some (.int (nI (ll (fun y => z 1 (21 * n + y)) j))), some (.int (nI (j + 1)))] [] (MO H ι z κ)) 20 (fun j hj => by
    have h1 := ll_le (fun y => z 1 (21 * n + y)) j
    rw [e149_4]
    have e : ll (fun y => z 1 (21 * n + y)) (j + 1) = if z 1 (21 * n + (j + 1)) < z 1 (21 * n + ll (fun y => z 1 (21 * n + y)) j) then j + 1 else ll (fun y => z 1 (21 * n + y)) j := rfl
    rw [e]
    by_cases h : z 1 (21 * n + (j + 1)) < z 1 (21 * n + ll (fun y => z 1 (21 * n + y)) j)
    · simp (disch := first | omega | assumption | exact MO_isO _ _ _ _ | (refine b30 ?_; omega) | (refine nI_inR ?_ ?_ ?_ <;> omega)) only [x149, e149_0, e149_1, e149_2, e149_3, e149_5, e149_7, e149_10, e149_11, e149_14, e149_16, e149_17, e149_18, e149_19, e149_20, e149_21, e149_22, e149_25, e149_27, e149_28, e149_29, e149_30, e149_31, e149_32, e149_33, e149_36, e149_37, e149_40, e149_41, e149_42, e149_45, e149_48, e149_49, kv_s, kh_s, kn_s, kc_v, kc_n, MO_isO, MO_f0, MO_f1, MO_f2, MO_f3, MO_f4, MO_f5, MO_f6, MO_f7, MO_f8, MO_f9, MO_f10, MO_f11, MO_f12, MO_f13, MO_f14, MO_i0, MO_i1, MO_i2, MO_i3, MO_i4, MO_i5, MO_j0, MO_j1, MO_j2, MO_j3, Nat.reduceEqDiff, Nat.one_ne_zero, Nat.reduceLT, Nat.reduceLeDiff, Nat.reduceAdd, Nat.reduceSub, Nat.reduceMul, nI_add, nI_leI, nI_ltI, nI_eq, z_eq, z_lt, z_le, z_gt, z_ge, ↓reduceIte, not_true_eq_false, not_false_eq_true, if_true, if_false, pk_mul, cmp_ge, h, show ¬ 21 ≤ j + 1 by omega]
    · simp (disch := first | omega | assumption | exact MO_isO _ _ _ _ | (refine b30 ?_; omega) | (refine nI_inR ?_ ?_ ?_ <;> omega)) only [x149, e149_0, e149_1, e149_2, e149_3, e149_5, e149_7, e149_10, e149_11, e149_14, e149_16, e149_17, e149_18, e149_19, e149_20, e149_21, e149_22, e149_25, e149_27, e149_28, e149_29, e149_30, e149_31, e149_32, e149_33, e149_36, e149_37, e149_40, e149_41, e149_42, e149_45, e149_48, e149_49, kv_s, kh_s, kn_s, kc_v, kc_n, MO_isO, MO_f0, MO_f1, MO_f2, MO_f3, MO_f4, MO_f5, MO_f6, MO_f7, MO_f8, MO_f9, MO_f10, MO_f11, MO_f12, MO_f13, MO_f14, MO_i0, MO_i1, MO_i2, MO_i3, MO_i4, MO_i5, MO_j0, MO_j1, MO_j2, MO_j3, Nat.reduceEqDiff, Nat.one_ne_zero, Nat.reduceLT, Nat.reduceLeDiff, Nat.reduceAdd, Nat.reduceSub, Nat.reduceMul, nI_add, nI_leI, nI_ltI, nI_eq, z_eq, z_lt, z_le, z_gt, z_ge, ↓reduceIte, not_true_eq_false, not_false_eq_true, if_true, if_false, pk_mul, cmp_ge, h, show ¬ 21 ≤ j + 1 by omega])
  have h0 : ex 149 [.ref 77, .int (nI n)] (MO H ι z κ) = ev 149 4 [some (.ref 77), some (.int (nI n)), some (.int (nI (ll (fun y => z 1 (21 * n + y)) 0))), some (.int (nI (0 + 1)))] [] (MO H ι z κ) := by
    simp (disch := first | omega | assumption | exact MO_isO _ _ _ _ | (refine b30 ?_; omega) | (refine nI_inR ?_ ?_ ?_ <;> omega)) only [x149, e149_0, e149_1, e149_2, e149_3, e149_5, e149_7, e149_10, e149_11, e149_14, e149_16, e149_17, e149_18, e149_19, e149_20, e149_21, e149_22, e149_25, e149_27, e149_28, e149_29, e149_30, e149_31, e149_32, e149_33, e149_36, e149_37, e149_40, e149_41, e149_42, e149_45, e149_48, e149_49, kv_s, kh_s, kn_s, kc_v, kc_n, Nat.reduceEqDiff, Nat.one_ne_zero, Nat.reduceLT, Nat.reduceLeDiff, Nat.reduceAdd, Nat.reduceSub, Nat.reduceMul, nI_add, nI_leI, nI_ltI, nI_eq, z_eq, z_lt, z_le, z_gt, z_ge, ↓reduceIte, not_true_eq_false, not_false_eq_true, if_true, if_false, Nat.zero_add]
    rfl
  rw [h0, h, e149_4]
  simp (disch := first | omega | assumption | exact MO_isO _ _ _ _ | (refine b30 ?_; omega) | (refine nI_inR ?_ ?_ ?_ <;> omega)) only [x149, e149_0, e149_1, e149_2, e149_3, e149_5, e149_7, e149_10, e149_11, e149_14, e149_16, e149_17, e149_18, e149_19, e149_20, e149_21, e149_22, e149_25, e149_27, e149_28, e149_29, e149_30, e149_31, e149_32, e149_33, e149_36, e149_37, e149_40, e149_41, e149_42, e149_45, e149_48, e149_49, kv_s, kh_s, kn_s, kc_v, kc_n, Nat.reduceEqDiff, Nat.one_ne_zero, Nat.reduceLT, Nat.reduceLeDiff, Nat.reduceAdd, Nat.reduceSub, Nat.reduceMul, nI_add, nI_leI, nI_ltI, nI_eq, z_eq, z_lt, z_le, z_gt, z_ge, ↓reduceIte, not_true_eq_false, not_false_eq_true, if_true, if_false]
theorem m154 (n l : Nat) (hn : n < 7) (h1 : 1 ≤ l) (hl : l < 20) : ex 154 [.ref 77, .int (nI n), .int (nI l)] (MO H ι z κ) = some (some (.int (bI (gapC (fun y => z 1 (21 * n + y)) l = true))), MO H ι z κ) := by
  have := rt154_0
  have := rt154_1
  have e1 : 21 * n + l - 1 = 21 * n + (l - 1) := by omega
  unfold bI gapC
  by_cases h : z 1 (21 * n + (l - 1)) + z 1 (21 * n + (l + 1)) < lN 2 * z 1 (21 * n + l)
  · simp (disch := first | omega | assumption | exact MO_isO _ _ _ _ | (refine b30 ?_; omega) | (refine nI_inR ?_ ?_ ?_ <;> omega)) only [x154, e154_0, e154_2, e154_3, e154_4, e154_5, e154_6, e154_7, e154_10, e154_11, e154_14, e154_15, e154_16, e154_17, e154_18, e154_21, e154_22, e154_23, e154_24, e154_25, e154_26, e154_29, e154_30, e154_31, e154_32, e154_33, e154_34, e154_35, e154_38, e154_39, e154_42, e154_43, kv_s, kh_s, kn_s, kc_v, kc_n, MO_isO, MO_f0, MO_f1, MO_f2, MO_f3, MO_f4, MO_f5, MO_f6, MO_f7, MO_f8, MO_f9, MO_f10, MO_f11, MO_f12, MO_f13, MO_f14, MO_i0, MO_i1, MO_i2, MO_i3, MO_i4, MO_i5, MO_j0, MO_j1, MO_j2, MO_j3, Nat.reduceEqDiff, Nat.one_ne_zero, Nat.reduceLT, Nat.reduceLeDiff, Nat.reduceAdd, Nat.reduceSub, Nat.reduceMul, nI_add, nI_leI, nI_ltI, nI_eq, z_eq, z_lt, z_le, z_gt, z_ge, ↓reduceIte, not_true_eq_false, not_false_eq_true, if_true, if_false, pk_mul, pk_sub, cmp_le, e1, Nat.add_assoc, h, decide_true, decide_false]
  · simp (disch := first | omega | assumption | exact MO_isO _ _ _ _ | (refine b30 ?_; omega) | (refine nI_inR ?_ ?_ ?_ <;> omega)) only [x154, e154_0, e154_2, e154_3, e154_4, e154_5, e154_6, e154_7, e154_10, e154_11, e154_14, e154_15, e154_16, e154_17, e154_18, e154_21, e154_22, e154_23, e154_24, e154_25, e154_26, e154_29, e154_30, e154_31, e154_32, e154_33, e154_34, e154_35, e154_38, e154_39, e154_42, e154_43, kv_s, kh_s, kn_s, kc_v, kc_n, MO_isO, MO_f0, MO_f1, MO_f2, MO_f3, MO_f4, MO_f5, MO_f6, MO_f7, MO_f8, MO_f9, MO_f10, MO_f11, MO_f12, MO_f13, MO_f14, MO_i0, MO_i1, MO_i2, MO_i3, MO_i4, MO_i5, MO_j0, MO_j1, MO_j2, MO_j3, Nat.reduceEqDiff, Nat.one_ne_zero, Nat.reduceLT, Nat.reduceLeDiff, Nat.reduceAdd, Nat.reduceSub, Nat.reduceMul, nI_add, nI_leI, nI_ltI, nI_eq, z_eq, z_lt, z_le, z_gt, z_ge, ↓reduceIte, not_true_eq_false, not_false_eq_true, if_true, if_false, pk_mul, pk_sub, cmp_le, e1, Nat.add_assoc, h, decide_true, decide_false, Bool.false_eq_true]
theorem m151 (b : Nat → Nat) (n : Nat) (hn : n < 7) (hb : ∀ k, k < 21 → ι 4 (21 * n + k) = b k ∧ b k < 21) (k : Nat) (hk : k < 21) : ex 151 [.ref 77, .int (nI n), .int (nI k)] (MO H ι z κ) = some (some (.int (bI (k < b k))), MO H ι z κ) := by
  have := rt151_0
  have := rt151_1
  have h1 := hb k hk
  unfold bI
  by_cases h : k < b k
  · simp (disch := first | omega | assumption | exact MO_isO _ _ _ _ | (refine b30 ?_; omega) | (refine nI_inR ?_ ?_ ?_ <;> omega)) only [x151, e151_0, e151_1, e151_4, e151_6, e151_7, e151_8, e151_9, e151_10, e151_11, e151_12, e151_15, e151_16, e151_19, e151_20, kv_s, kh_s, kn_s, kc_v, kc_n, MO_isO, MO_f0, MO_f1, MO_f2, MO_f3, MO_f4, MO_f5, MO_f6, MO_f7, MO_f8, MO_f9, MO_f10, MO_f11, MO_f12, MO_f13, MO_f14, MO_i0, MO_i1, MO_i2, MO_i3, MO_i4, MO_i5, MO_j0, MO_j1, MO_j2, MO_j3, Nat.reduceEqDiff, Nat.one_ne_zero, Nat.reduceLT, Nat.reduceLeDiff, Nat.reduceAdd, Nat.reduceSub, Nat.reduceMul, nI_add, nI_leI, nI_ltI, nI_eq, z_eq, z_lt, z_le, z_gt, z_ge, ↓reduceIte, not_true_eq_false, not_false_eq_true, if_true, if_false, pk_mul, h1.1, h, show ¬ b k ≤ k by omega]
  · simp (disch := first | omega | assumption | exact MO_isO _ _ _ _ | (refine b30 ?_; omega) | (refine nI_inR ?_ ?_ ?_ <;> omega)) only [x151, e151_0, e151_1, e151_4, e151_6, e151_7, e151_8, e151_9, e151_10, e151_11, e151_12, e151_15, e151_16, e151_19, e151_20, kv_s, kh_s, kn_s, kc_v, kc_n, MO_isO, MO_f0, MO_f1, MO_f2, MO_f3, MO_f4, MO_f5, MO_f6, MO_f7, MO_f8, MO_f9, MO_f10, MO_f11, MO_f12, MO_f13, MO_f14, MO_i0, MO_i1, MO_i2, MO_i3, MO_i4, MO_i5, MO_j0, MO_j1, MO_j2, MO_j3, Nat.reduceEqDiff, Nat.one_ne_zero, Nat.reduceLT, Nat.reduceLeDiff, Nat.reduceAdd, Nat.reduceSub, Nat.reduceMul, nI_add, nI_leI, nI_ltI, nI_eq, z_eq, z_lt, z_le, z_gt, z_ge, ↓reduceIte, not_true_eq_false, not_false_eq_true, if_true, if_false, pk_mul, h1.1, h, show b k ≤ k by omega]
theorem m150 (b : Nat → Nat) (n : Nat) (hn : n < 7) (hb : ∀ k, k < 21 → ι 4 (21 * n + k) = b k ∧ b k < 21) : ex 150 [.ref 77, .int (nI n)] (MO H ι z κ) = some (some (.int (o1 (lastO b 21))), MO H ι z κ) := by
  have h := ev_loop (fun j => ev 150 4 [some (.ref 77), some (.int (nI n)), some (.int (o1 (lastO b j))), some (.int (nI j))] [] (MO H ι z κ)) 21 (fun j hj => by
    have e1 := m151 H ι z κ b n hn hb j hj
    have e : lastO b (j + 1) = if j < b j then some j else lastO b j := rfl
    rw [e150_4, e]
    by_cases h : j < b j
    · simp (disch := first | omega | assumption | exact MO_isO _ _ _ _ | (refine b30 ?_; omega) | (refine nI_inR ?_ ?_ ?_ <;> omega)) only [x150, e150_0, e150_1, e150_2, e150_3, e150_5, e150_7, e150_10, e150_11, e150_12, e150_13, e150_16, e150_19, e150_20, e150_23, e150_24, e150_25, e150_28, e150_31, e150_32, kv_s, kh_s, kn_s, kc_v, kc_n, Nat.reduceEqDiff, Nat.one_ne_zero, Nat.reduceLT, Nat.reduceLeDiff, Nat.reduceAdd, Nat.reduceSub, Nat.reduceMul, nI_add, nI_leI, nI_ltI, nI_eq, z_eq, z_lt, z_le, z_gt, z_ge, ↓reduceIte, not_true_eq_false, not_false_eq_true, if_true, if_false, e1, bI_z, h, show ¬ 21 ≤ j by omega]
      rfl
    · simp (disch := first | omega | assumption | exact MO_isO _ _ _ _ | (refine b30 ?_; omega) | (refine nI_inR ?_ ?_ ?_ <;> omega)) only [x150, e150_0, e150_1, e150_2, e150_3, e150_5, e150_7, e150_10, e150_11, e150_12, e150_13, e150_16, e150_19, e150_20, e150_23, e150_24, e150_25, e150_28, e150_31, e150_32, kv_s, kh_s, kn_s, kc_v, kc_n, Nat.reduceEqDiff, Nat.one_ne_zero, Nat.reduceLT, Nat.reduceLeDiff, Nat.reduceAdd, Nat.reduceSub, Nat.reduceMul, nI_add, nI_leI, nI_ltI, nI_eq, z_eq, z_lt, z_le, z_gt, z_ge, ↓reduceIte, not_true_eq_false, not_false_eq_true, if_true, if_false, e1, bI_z, h, show ¬ 21 ≤ j by omega])
  have h0 : ex 150 [.ref 77, .int (nI n)] (MO H ι z κ) = ev 150 4 [some (.ref 77), some (.int (nI n)), some (.int (o1 (lastO b 0))), some (.int (nI 0))] [] (MO H ι z κ) := by
    simp (disch := first | omega | assumption | exact MO_isO _ _ _ _ | (refine b30 ?_; omega) | (refine nI_inR ?_ ?_ ?_ <;> omega)) only [x150, e150_0, e150_1, e150_2, e150_3, e150_5, e150_7, e150_10, e150_11, e150_12, e150_13, e150_16, e150_19, e150_20, e150_23, e150_24, e150_25, e150_28, e150_31, e150_32, kv_s, kh_s, kn_s, kc_v, kc_n, Nat.reduceEqDiff, Nat.one_ne_zero, Nat.reduceLT, Nat.reduceLeDiff, Nat.reduceAdd, Nat.reduceSub, Nat.reduceMul, nI_add, nI_leI, nI_ltI, nI_eq, z_eq, z_lt, z_le, z_gt, z_ge, ↓reduceIte, not_true_eq_false, not_false_eq_true, if_true, if_false]
    rfl
  rw [h0, h, e150_4]
  simp (disch := first | omega | assumption | exact MO_isO _ _ _ _ | (refine b30 ?_; omega) | (refine nI_inR ?_ ?_ ?_ <;> omega)) only [x150, e150_0, e150_1, e150_2, e150_3, e150_5, e150_7, e150_10, e150_11, e150_12, e150_13, e150_16, e150_19, e150_20, e150_23, e150_24, e150_25, e150_28, e150_31, e150_32, kv_s, kh_s, kn_s, kc_v, kc_n, Nat.reduceEqDiff, Nat.one_ne_zero, Nat.reduceLT, Nat.reduceLeDiff, Nat.reduceAdd, Nat.reduceSub, Nat.reduceMul, nI_add, nI_leI, nI_ltI, nI_eq, z_eq, z_lt, z_le, z_gt, z_ge, ↓reduceIte, not_true_eq_false, not_false_eq_true, if_true, if_false]
theorem m152 (b : Nat → Nat) (n : Nat) (hn : n < 7) (hb : ∀ k, k < 21 → ι 4 (21 * n + k) = b k ∧ b k < 21) : ex 152 [.ref 77, .int (nI n)] (MO H ι z κ) = some (some (.int (nI (unl b 21))), MO H ι z κ) := by
  have l1 : ∀ k, k ≤ 21 → ∃ v5 : Option Value, ex 152 [.ref 77, .int (nI n)] (MO H ι z κ) = ev 152 7 [some (.ref 77), some (.int (nI n)), some (.int (nI (setB b k))), some (.int (nI (unl b k))), some (.int (nI k)), v5] [] (MO H ι z κ) := by
    intro k
    induction k with
    | zero =>
      intro _
      refine ⟨none, ?_⟩
      simp (disch := first | omega | assumption | exact MO_isO _ _ _ _ | (refine b30 ?_; omega) | (refine nI_inR ?_ ?_ ?_ <;> omega)) only [x152, e152_0, e152_1, e152_2, e152_3, e152_4, e152_5, e152_9, e152_11, e152_14, e152_15, e152_16, e152_18, e152_21, e152_24, e152_25, e152_26, e152_29, e152_31, e152_32, e152_33, e152_35, e152_36, e152_37, e152_38, e152_41, e152_42, e152_44, e152_45, e152_46, e152_48, e152_49, e152_51, e152_54, e152_55, e152_58, e152_59, e152_60, e152_61, e152_62, e152_64, e152_65, e152_66, e152_69, e152_72, e152_73, kv_s, kh_s, kn_s, kc_v, kc_n, Nat.reduceEqDiff, Nat.one_ne_zero, Nat.reduceLT, Nat.reduceLeDiff, Nat.reduceAdd, Nat.reduceSub, Nat.reduceMul, nI_add, nI_leI, nI_ltI, nI_eq, z_eq, z_lt, z_le, z_gt, z_ge, ↓reduceIte, not_true_eq_false, not_false_eq_true, if_true, if_false]
      rfl
    | succ k ih =>
      intro hk
      obtain ⟨v5, e⟩ := ih (by omega)
      have e1 := m151 H ι z κ b n hn hb k (by omega)
      have h1 := hb k (by omega)
      have hS := setB_lt b (fun k hk => (hb k hk).2) k (by omega)
      have e2 : unl b (k + 1) = unl b k + (if (decide (k < b k) && newL b k k) = true then 1 else 0) := rfl
      have e3 : setB b (k + 1) = if k < b k then setB b k ||| 2 ^ b k else setB b k := rfl
      have hu := unl_le b k
      by_cases q1 : k < b k
      · have es := shl_b (b k) h1.2
        have hp : 2 ^ b k < 2 ^ 21 := Nat.pow_lt_pow_right (by omega) h1.2
        have hp0 : 0 < 2 ^ b k := Nat.two_pow_pos _
        refine ⟨some (.int (nI (2 ^ b k))), ?_⟩
        rw [e, e152_7, e2, e3, if_pos q1]
        by_cases q2 : (setB b k).testBit (b k) = true
        · have hn : ¬ newL b k k = true := fun h => (newL_bit b k).mp h q2
          rw [if_neg (by simp [hn])]
          have hnd : nI (setB b k) &&& nI (2 ^ b k) = nI (2 ^ b k) := by rw [nI_and, and_tb _ _ q2]
          simp (disch := first | omega | assumption | exact MO_isO _ _ _ _ | (refine b30 ?_; omega) | (refine nI_inR ?_ ?_ ?_ <;> omega)) only [x152, e152_0, e152_1, e152_2, e152_3, e152_4, e152_5, e152_9, e152_11, e152_14, e152_15, e152_16, e152_18, e152_21, e152_24, e152_25, e152_26, e152_29, e152_31, e152_32, e152_33, e152_35, e152_36, e152_37, e152_38, e152_41, e152_42, e152_44, e152_45, e152_46, e152_48, e152_49, e152_51, e152_54, e152_55, e152_58, e152_59, e152_60, e152_61, e152_62, e152_64, e152_65, e152_66, e152_69, e152_72, e152_73, kv_s, kh_s, kn_s, kc_v, kc_n, MO_isO, MO_f0, MO_f1, MO_f2, MO_f3, MO_f4, MO_f5, MO_f6, MO_f7, MO_f8, MO_f9, MO_f10, MO_f11, MO_f12, MO_f13, MO_f14, MO_i0, MO_i1, MO_i2, MO_i3, MO_i4, MO_i5, MO_j0, MO_j1, MO_j2, MO_j3, Nat.reduceEqDiff, Nat.one_ne_zero, Nat.reduceLT, Nat.reduceLeDiff, Nat.reduceAdd, Nat.reduceSub, Nat.reduceMul, nI_add, nI_leI, nI_ltI, nI_eq, z_eq, z_lt, z_le, z_gt, z_ge, ↓reduceIte, not_true_eq_false, not_false_eq_true, if_true, if_false, pk_mul, e1, bI_z, q1, h1.1, es, hnd, nI_or, show ¬ 21 ≤ k by omega, Nat.add_zero]
        · have hn : newL b k k = true := (newL_bit b k).mpr q2
          rw [if_pos (by simp [q1, hn])]
          have hnd : nI (setB b k) &&& nI (2 ^ b k) = nI 0 := by rw [nI_and, and_nb _ _ q2]
          have h0 : ¬ (nI 0 = nI (2 ^ b k)) := by rw [nI_eq (by omega) (by omega)]; omega
          simp (disch := first | omega | assumption | exact MO_isO _ _ _ _ | (refine b30 ?_; omega) | (refine nI_inR ?_ ?_ ?_ <;> omega)) only [x152, e152_0, e152_1, e152_2, e152_3, e152_4, e152_5, e152_9, e152_11, e152_14, e152_15, e152_16, e152_18, e152_21, e152_24, e152_25, e152_26, e152_29, e152_31, e152_32, e152_33, e152_35, e152_36, e152_37, e152_38, e152_41, e152_42, e152_44, e152_45, e152_46, e152_48, e152_49, e152_51, e152_54, e152_55, e152_58, e152_59, e152_60, e152_61, e152_62, e152_64, e152_65, e152_66, e152_69, e152_72, e152_73, kv_s, kh_s, kn_s, kc_v, kc_n, MO_isO, MO_f0, MO_f1, MO_f2, MO_f3, MO_f4, MO_f5, MO_f6, MO_f7, MO_f8, MO_f9, MO_f10, MO_f11, MO_f12, MO_f13, MO_f14, MO_i0, MO_i1, MO_i2, MO_i3, MO_i4, MO_i5, MO_j0, MO_j1, MO_j2, MO_j3, Nat.reduceEqDiff, Nat.one_ne_zero, Nat.reduceLT, Nat.reduceLeDiff, Nat.reduceAdd, Nat.reduceSub, Nat.reduceMul, nI_add, nI_leI, nI_ltI, nI_eq, z_eq, z_lt, z_le, z_gt, z_ge, ↓reduceIte, not_true_eq_false, not_false_eq_true, if_true, if_false, pk_mul, e1, bI_z, q1, h1.1, es, hnd, h0, nI_or, show ¬ 21 ≤ k by omega, show ¬ 0 = 2 ^ b k by omega]
      · refine ⟨some (.int (nI 0)), ?_⟩
        rw [e, e152_7, e2, e3, if_neg q1, if_neg (by simp [q1])]
        simp (disch := first | omega | assumption | exact MO_isO _ _ _ _ | (refine b30 ?_; omega) | (refine nI_inR ?_ ?_ ?_ <;> omega)) only [x152, e152_0, e152_1, e152_2, e152_3, e152_4, e152_5, e152_9, e152_11, e152_14, e152_15, e152_16, e152_18, e152_21, e152_24, e152_25, e152_26, e152_29, e152_31, e152_32, e152_33, e152_35, e152_36, e152_37, e152_38, e152_41, e152_42, e152_44, e152_45, e152_46, e152_48, e152_49, e152_51, e152_54, e152_55, e152_58, e152_59, e152_60, e152_61, e152_62, e152_64, e152_65, e152_66, e152_69, e152_72, e152_73, kv_s, kh_s, kn_s, kc_v, kc_n, MO_isO, MO_f0, MO_f1, MO_f2, MO_f3, MO_f4, MO_f5, MO_f6, MO_f7, MO_f8, MO_f9, MO_f10, MO_f11, MO_f12, MO_f13, MO_f14, MO_i0, MO_i1, MO_i2, MO_i3, MO_i4, MO_i5, MO_j0, MO_j1, MO_j2, MO_j3, Nat.reduceEqDiff, Nat.one_ne_zero, Nat.reduceLT, Nat.reduceLeDiff, Nat.reduceAdd, Nat.reduceSub, Nat.reduceMul, nI_add, nI_leI, nI_ltI, nI_eq, z_eq, z_lt, z_le, z_gt, z_ge, ↓reduceIte, not_true_eq_false, not_false_eq_true, if_true, if_false, pk_mul, e1, bI_z, q1, nI_and, nI_or, Nat.and_zero, Nat.or_zero, show ¬ 21 ≤ k by omega, Nat.add_zero]
  obtain ⟨v5, e⟩ := l1 21 (by omega)
  rw [e, e152_7]
  simp (disch := first | omega | assumption | exact MO_isO _ _ _ _ | (refine b30 ?_; omega) | (refine nI_inR ?_ ?_ ?_ <;> omega)) only [x152, e152_0, e152_1, e152_2, e152_3, e152_4, e152_5, e152_9, e152_11, e152_14, e152_15, e152_16, e152_18, e152_21, e152_24, e152_25, e152_26, e152_29, e152_31, e152_32, e152_33, e152_35, e152_36, e152_37, e152_38, e152_41, e152_42, e152_44, e152_45, e152_46, e152_48, e152_49, e152_51, e152_54, e152_55, e152_58, e152_59, e152_60, e152_61, e152_62, e152_64, e152_65, e152_66, e152_69, e152_72, e152_73, kv_s, kh_s, kn_s, kc_v, kc_n, Nat.reduceEqDiff, Nat.one_ne_zero, Nat.reduceLT, Nat.reduceLeDiff, Nat.reduceAdd, Nat.reduceSub, Nat.reduceMul, nI_add, nI_leI, nI_ltI, nI_eq, z_eq, z_lt, z_le, z_gt, z_ge, ↓reduceIte, not_true_eq_false, not_false_eq_true, if_true, if_false]
end
