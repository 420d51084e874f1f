-- PART 21: shops' methods, first
theorem z_eq {n : Nat} (h : n < 2 ^ 31) : (nI n = 0) ↔ n = 0 := by
  rw [← nI_0]
  exact nI_eq h (by omega)
theorem z_lt {n : Nat} (h : n < 2 ^ 31) : (nI n < 0) ↔ False := iff_false_intro (nI_pos h)
theorem z_le {n : Nat} (h : n < 2 ^ 31) : (0 ≤ nI n) ↔ True := iff_true_intro (nI_pos' h)
theorem z_gt {n : Nat} (h : n < 2 ^ 31) : (0 < nI n) ↔ 0 < n := by
  rw [← nI_0]
  exact nI_ltI (by omega) h
theorem z_ge {n : Nat} (h : n < 2 ^ 31) : (nI n ≤ 0) ↔ n = 0 := by
  rw [← nI_0, nI_leI h (by omega)]
  omega
/-- in a range or not -/
def inR (x lo hi : Int32) : Prop := lo ≤ x ∧ x ≤ hi
theorem inR_nI {lo hi : Nat} {x : Int32} (h : inR x (nI lo) (nI hi)) (hh : hi < 2 ^ 31) (hl : lo < 2 ^ 31) : ∃ n : Nat, lo ≤ n ∧ n ≤ hi ∧ x = nI n := by
  have h0 : ¬ x < 0 := by
    have := nI_pos' (n := lo) (by omega)
    have h1 := h.1
    grind
  obtain ⟨j, hj, rfl⟩ := nI_of h0
  exact ⟨j, (nI_leI hl hj).mp h.1, (nI_leI hj hh).mp h.2, rfl⟩
theorem nI_inR {lo hi n : Nat} (h1 : lo ≤ n) (h2 : n ≤ hi) (hh : hi < 2 ^ 31) : inR (nI n) (nI lo) (nI hi) := ⟨nI_le h1 (by omega), nI_le h2 hh⟩
theorem rt8_0 : pi_rt pm_Ol_outside (nI 0) = true := by decide +kernel
theorem rt8_1 : pi_rt pm_Ol_outside (nI 1) = true := by decide +kernel
/-- outside -/
theorem s8 (x lo hi : Int32) (H : pi_H) : ex 8 [.int x, .int lo, .int hi] H = some (some (.int (if x < lo ∨ hi < x then nI 1 else nI 0)), H) := by
  simp only [x8, e8_0, e8_1, e8_2, e8_5, e8_6, e8_7, e8_10, e8_11, e8_14, e8_15, rt8_0, rt8_1]
  by_cases h1 : x < lo
  · simp [h1]
  · by_cases h2 : hi < x
    · simp [h1, h2]
      grind
    · simp [h1, h2]
theorem s12 (a b : Nat) (ha : a < 2 ^ 31) (hb : b < 2 ^ 31) (H : pi_H) : ex 12 [.int (nI a), .int (nI b)] H = some (some (.int (nI (min a b))), H) := by
  simp (disch := omega) only [x12, e12_0, e12_1, e12_2, e12_5, e12_6, e12_9, e12_10, nI_add, nI_leI, nI_ltI, nI_eq, z_eq, z_lt, z_le, z_gt, z_ge, ↓reduceIte, not_true_eq_false, not_false_eq_true, if_true, if_false]
  by_cases h : b < a
  · rw [if_pos h, Nat.min_eq_right (by omega)]
  · rw [if_neg h, Nat.min_eq_left (by omega)]
theorem s33 (a b : Nat) (ha : a < 2 ^ 31) (hb : b < 2 ^ 31) (H : pi_H) : ex 33 [.int (nI a), .int (nI b)] H = some (some (.int (nI (max a b))), H) := by
  simp (disch := omega) only [x33, e33_0, e33_1, e33_2, e33_5, e33_6, e33_9, e33_10, nI_add, nI_leI, nI_ltI, nI_eq, z_eq, z_lt, z_le, z_gt, z_ge, ↓reduceIte, not_true_eq_false, not_false_eq_true, if_true, if_false]
  by_cases h : a < b
  · rw [if_pos h, Nat.max_eq_right (by omega)]
  · rw [if_neg h, Nat.max_eq_left (by omega)]
theorem s8i {x lo hi : Int32} (h : inR x lo hi) (H : pi_H) : ex 8 [.int x, .int lo, .int hi] H = some (some (.int (nI 0)), H) := by
  rw [s8, if_neg (by unfold inR at h; grind)]
theorem s8o {x lo hi : Int32} (h : ¬ inR x lo hi) (H : pi_H) : ex 8 [.int x, .int lo, .int hi] H = some (some (.int (nI 1)), H) := by
  rw [s8, if_pos (by unfold inR at h; grind)]
theorem b30 {a : Nat} (h : a ≠ 1000030) : (a == 1000030) = false := by simp [h]
def wsum (a : sT) : Nat := a 0 0 + a 0 1 + a 0 2 + a 0 3 + a 0 4 + a 0 5 + a 0 6
theorem s9 (o : Nat) (ho : o < 1000) (a : sT) (H : pi_H) : ex 9 [.ref o] (SH H o a) = some (some (.int (nI (wsum a))), SH H o a) := by
  simp (disch := first | omega | assumption | (refine b30 ?_; omega) | exact SH_isO _ _ _ | (refine nI_inR ?_ ?_ ?_ <;> omega)) only [x9, e9_0, e9_1, e9_2, e9_3, e9_6, e9_7, e9_8, e9_9, e9_10, e9_11, e9_13, e9_15, e9_16, e9_19, e9_20, e9_22, e9_23, e9_25, e9_26, e9_28, e9_29, e9_30, e9_33, e9_36, e9_37, nI_add, nI_leI, nI_ltI, nI_eq, z_eq, z_lt, z_le, z_gt, z_ge, ↓reduceIte, not_true_eq_false, not_false_eq_true, if_true, if_false, kv_s, kh_s, kn_s, kc_v, kc_n, SH_isO, SH_f0, SH_f1, SH_f2, SH_f3, SH_f4, SH_f5, SH_f6, SH_f7, SH_f8, SH_f9, SH_f10, SH_f11, SH_f12, SH_f13, SH_l0, SH_l1, SH_l2, SH_l3, SH_l4, SH_a0, SH_a1, SH_a2, SH_a3, SH_a4, Nat.zero_add, Nat.reduceAdd, Nat.reduceLeDiff]
  rfl
theorem inR_no {x : Int32} {lo hi : Nat} (h : ¬ inR x (nI lo) (nI hi)) : True := trivial
/-- what a weight's call answers, and the shop behind it -/
def m_weigh (a : sT) (d w : Nat) : Int32 × sT := if wsum a - a 0 d + w = 0 then (-1000002, a) else if 12 < wsum a - a 0 d + w then (-1000003, a) else (nI (wsum a - a 0 d + w), u2 a 0 d w)
theorem wsum_ge (a : sT) (d : Nat) (hd : d ≤ 6) : a 0 d ≤ wsum a := by
  unfold wsum
  have h : d = 0 ∨ d = 1 ∨ d = 2 ∨ d = 3 ∨ d = 4 ∨ d = 5 ∨ d = 6 := by omega
  rcases h with rfl | rfl | rfl | rfl | rfl | rfl | rfl <;> omega
theorem s7 (o : Nat) (ho : o < 1000) (a : sT) (ha : wsum a ≤ 12) (d w : Nat) (hd : d ≤ 6) (hw : w ≤ 9) (H : pi_H) : ex 7 [.ref o, .int (nI d), .int (nI w)] (SH H o a) = some (some (.int (m_weigh a d w).1), SH H o (m_weigh a d w).2) := by
  have h1 := wsum_ge a d hd
  simp (disch := first | omega | assumption | (refine b30 ?_; omega) | exact SH_isO _ _ _ | (refine nI_inR ?_ ?_ ?_ <;> omega)) only [x7, e7_0, e7_1, e7_2, e7_4, e7_7, e7_10, e7_11, e7_12, e7_14, e7_17, e7_20, e7_22, e7_23, e7_24, e7_27, e7_28, e7_31, e7_32, e7_33, e7_34, e7_35, e7_36, e7_37, e7_38, e7_41, e7_43, e7_44, e7_45, e7_47, e7_50, e7_52, e7_53, e7_54, e7_57, e7_58, e7_59, e7_60, e7_61, nI_add, nI_leI, nI_ltI, nI_eq, z_eq, z_lt, z_le, z_gt, z_ge, ↓reduceIte, not_true_eq_false, not_false_eq_true, if_true, if_false, kv_s, kh_s, kn_s, kc_v, kc_n, SH_isO, SH_f0, SH_f1, SH_f2, SH_f3, SH_f4, SH_f5, SH_f6, SH_f7, SH_f8, SH_f9, SH_f10, SH_f11, SH_f12, SH_f13, SH_l0, SH_l1, SH_l2, SH_l3, SH_l4, SH_a0, SH_a1, SH_a2, SH_a3, SH_a4, SH_w0, SH_w1, SH_w2, SH_w3, SH_w4, SH_p, s8i, s9, pk_sub]
  unfold m_weigh
  (repeat' split) <;> first | rfl | (exfalso; omega)
theorem s7o (o : Nat) (a : sT) (d w : Int32) (h : ¬ (inR d (nI 0) (nI 6) ∧ inR w (nI 0) (nI 9))) (H : pi_H) : ex 7 [.ref o, .int d, .int w] H = some (some (.int (-1000001)), H) := by
  by_cases h1 : inR d (nI 0) (nI 6)
  · have h2 : ¬ inR w (nI 0) (nI 9) := fun e => h ⟨h1, e⟩
    simp (disch := first | omega | assumption | (refine b30 ?_; omega) | exact SH_isO _ _ _ | (refine nI_inR ?_ ?_ ?_ <;> omega)) only [x7, e7_0, e7_1, e7_2, e7_4, e7_7, e7_10, e7_11, e7_12, e7_14, e7_17, e7_20, e7_22, e7_23, e7_24, e7_27, e7_28, e7_31, e7_32, e7_33, e7_34, e7_35, e7_36, e7_37, e7_38, e7_41, e7_43, e7_44, e7_45, e7_47, e7_50, e7_52, e7_53, e7_54, e7_57, e7_58, e7_59, e7_60, e7_61, nI_add, nI_leI, nI_ltI, nI_eq, z_eq, z_lt, z_le, z_gt, z_ge, ↓reduceIte, not_true_eq_false, not_false_eq_true, if_true, if_false, kv_s, kh_s, kn_s, kc_v, kc_n, s8i, s8o]
    simp
  · simp (disch := first | omega | assumption | (refine b30 ?_; omega) | exact SH_isO _ _ _ | (refine nI_inR ?_ ?_ ?_ <;> omega)) only [x7, e7_0, e7_1, e7_2, e7_4, e7_7, e7_10, e7_11, e7_12, e7_14, e7_17, e7_20, e7_22, e7_23, e7_24, e7_27, e7_28, e7_31, e7_32, e7_33, e7_34, e7_35, e7_36, e7_37, e7_38, e7_41, e7_43, e7_44, e7_45, e7_47, e7_50, e7_52, e7_53, e7_54, e7_57, e7_58, e7_59, e7_60, e7_61, nI_add, nI_leI, nI_ltI, nI_eq, z_eq, z_lt, z_le, z_gt, z_ge, ↓reduceIte, not_true_eq_false, not_false_eq_true, if_true, if_false, kv_s, kh_s, kn_s, kc_v, kc_n, s8o]
    simp
theorem u2_app (a : sT) (k j x k' j' : Nat) : u2 a k j x k' j' = if k' = k ∧ j' = j then x else a k' j' := rfl
/-- outside answers within, or not -/
def mc (k : Nat) : Nat := if k = 0 then 99 else if k = 3 then 29 else 9
theorem mc_al {H : pi_H} (hm : pi_get H 1000000 = some (.inl (10, 5, .inl pi_mcost))) {o : Nat} (ho : o < 1000) (a : sT) {k : Nat} (hk : k ≤ 4) : pi_al (pi_get (SH H o a) 1000000) (nI k) 0 = some (.int (nI (mc k))) := by
  rw [SH_gn _ _ _ _ (by omega), hm]
  have h : k = 0 ∨ k = 1 ∨ k = 2 ∨ k = 3 ∨ k = 4 := by omega
  rcases h with rfl | rfl | rfl | rfl | rfl <;> decide
def m_cost (a : sT) (k v : Nat) : Int32 × sT := (nI (a 1 k), u2 a 1 k v)
theorem s14 (o : Nat) (ho : o < 1000) (a : sT) (k v : Nat) (hk : k ≤ 4) (hv : v ≤ mc k) (H : pi_H) (hm : pi_get H 1000000 = some (.inl (10, 5, .inl pi_mcost))) : ex 14 [.ref o, .int (nI k), .int (nI v)] (SH H o a) = some (some (.int (m_cost a k v).1), SH H o (m_cost a k v).2) := by
  have h99 : mc k ≤ 99 := by unfold mc; (repeat' split) <;> omega
  have h8 := mc_al hm ho a hk
  simp (disch := first | omega | assumption | (refine b30 ?_; omega) | exact SH_isO _ _ _ | (refine nI_inR ?_ ?_ ?_ <;> omega)) only [x14, e14_0, e14_1, e14_2, e14_3, e14_6, e14_9, e14_10, e14_11, e14_14, e14_15, e14_16, e14_19, e14_22, e14_24, e14_25, e14_26, e14_29, e14_30, e14_31, e14_32, e14_33, e14_36, e14_37, e14_38, e14_39, e14_40, nI_add, nI_leI, nI_ltI, nI_eq, z_eq, z_lt, z_le, z_gt, z_ge, ↓reduceIte, not_true_eq_false, not_false_eq_true, if_true, if_false, kv_s, kh_s, kn_s, kc_v, kc_n, SH_isO, SH_f0, SH_f1, SH_f2, SH_f3, SH_f4, SH_f5, SH_f6, SH_f7, SH_f8, SH_f9, SH_f10, SH_f11, SH_f12, SH_f13, SH_l0, SH_l1, SH_l2, SH_l3, SH_l4, SH_a0, SH_a1, SH_a2, SH_a3, SH_a4, SH_w0, SH_w1, SH_w2, SH_w3, SH_w4, SH_p, s8i, h8]
  rfl
theorem s14o (o : Nat) (ho : o < 1000) (a : sT) (k v : Int32) (H : pi_H) (hm : pi_get H 1000000 = some (.inl (10, 5, .inl pi_mcost))) (h : ¬ (inR k (nI 0) (nI 4) ∧ inR v (nI 0) (nI (mc k.toNatClampNeg)))) : ex 14 [.ref o, .int k, .int v] (SH H o a) = some (some (.int (-1000001)), SH H o a) := by
  by_cases h1 : inR k (nI 0) (nI 4)
  · have h2 : ¬ inR v (nI 0) (nI (mc k.toNatClampNeg)) := fun e => h ⟨h1, e⟩
    obtain ⟨k, -, hk, rfl⟩ := inR_nI h1 (by omega) (by omega)
    rw [nI_clamp (by omega)] at h2
    have h8 := mc_al hm ho a hk
    simp (disch := first | omega | assumption | (refine b30 ?_; omega) | exact SH_isO _ _ _ | (refine nI_inR ?_ ?_ ?_ <;> omega)) only [x14, e14_0, e14_1, e14_2, e14_3, e14_6, e14_9, e14_10, e14_11, e14_14, e14_15, e14_16, e14_19, e14_22, e14_24, e14_25, e14_26, e14_29, e14_30, e14_31, e14_32, e14_33, e14_36, e14_37, e14_38, e14_39, e14_40, nI_add, nI_leI, nI_ltI, nI_eq, z_eq, z_lt, z_le, z_gt, z_ge, ↓reduceIte, not_true_eq_false, not_false_eq_true, if_true, if_false, kv_s, kh_s, kn_s, kc_v, kc_n, s8i, s8o, h8]
    simp
  · simp (disch := first | omega | assumption | (refine b30 ?_; omega) | exact SH_isO _ _ _ | (refine nI_inR ?_ ?_ ?_ <;> omega)) only [x14, e14_0, e14_1, e14_2, e14_3, e14_6, e14_9, e14_10, e14_11, e14_14, e14_15, e14_16, e14_19, e14_22, e14_24, e14_25, e14_26, e14_29, e14_30, e14_31, e14_32, e14_33, e14_36, e14_37, e14_38, e14_39, e14_40, nI_add, nI_leI, nI_ltI, nI_eq, z_eq, z_lt, z_le, z_gt, z_ge, ↓reduceIte, not_true_eq_false, not_false_eq_true, if_true, if_false, kv_s, kh_s, kn_s, kc_v, kc_n, s8o]
    simp
def m_plan (a : sT) (p lo hi : Nat) : Int32 × sT := (nI (100 * a 2 p + a 3 p), u2 (u2 a 2 p lo) 3 p hi)
theorem s16 (o : Nat) (ho : o < 1000) (a : sT) (p lo hi : Nat) (h1 : 1 ≤ p) (h2 : p ≤ 6) (h3 : lo ≤ hi) (h4 : hi ≤ 20) (H : pi_H) : ex 16 [.ref o, .int (nI p), .int (nI lo), .int (nI hi)] (SH H o a) = some (some (.int (m_plan a p lo hi).1), SH H o (m_plan a p lo hi).2) := by
  simp (disch := first | omega | assumption | (refine b30 ?_; omega) | exact SH_isO _ _ _ | (refine nI_inR ?_ ?_ ?_ <;> omega)) only [x16, e16_0, e16_1, e16_2, e16_4, e16_7, e16_10, e16_11, e16_12, e16_14, e16_17, e16_20, e16_21, e16_22, e16_24, e16_27, e16_30, e16_32, e16_33, e16_35, e16_36, e16_39, e16_40, e16_41, e16_42, e16_43, e16_46, e16_47, e16_48, e16_49, e16_51, e16_52, e16_55, e16_56, e16_57, e16_58, e16_59, e16_62, e16_63, e16_64, e16_65, e16_67, nI_add, nI_leI, nI_ltI, nI_eq, z_eq, z_lt, z_le, z_gt, z_ge, ↓reduceIte, not_true_eq_false, not_false_eq_true, if_true, if_false, kv_s, kh_s, kn_s, kc_v, kc_n, SH_isO, SH_f0, SH_f1, SH_f2, SH_f3, SH_f4, SH_f5, SH_f6, SH_f7, SH_f8, SH_f9, SH_f10, SH_f11, SH_f12, SH_f13, SH_l0, SH_l1, SH_l2, SH_l3, SH_l4, SH_a0, SH_a1, SH_a2, SH_a3, SH_a4, SH_w0, SH_w1, SH_w2, SH_w3, SH_w4, SH_p, s8i, pk_mul]
  rfl
theorem s16o (o : Nat) (a : sT) (p lo hi : Int32) (h : ¬ (inR p (nI 1) (nI 6) ∧ inR lo (nI 0) (nI 20) ∧ inR hi lo (nI 20))) (H : pi_H) : ex 16 [.ref o, .int p, .int lo, .int hi] H = some (some (.int (-1000001)), H) := by
  by_cases h1 : inR p (nI 1) (nI 6)
  · by_cases h2 : inR lo (nI 0) (nI 20)
    · have h3 : ¬ inR hi lo (nI 20) := fun e => h ⟨h1, h2, e⟩
      simp (disch := first | omega | assumption | (refine b30 ?_; omega) | exact SH_isO _ _ _ | (refine nI_inR ?_ ?_ ?_ <;> omega)) only [x16, e16_0, e16_1, e16_2, e16_4, e16_7, e16_10, e16_11, e16_12, e16_14, e16_17, e16_20, e16_21, e16_22, e16_24, e16_27, e16_30, e16_32, e16_33, e16_35, e16_36, e16_39, e16_40, e16_41, e16_42, e16_43, e16_46, e16_47, e16_48, e16_49, e16_51, e16_52, e16_55, e16_56, e16_57, e16_58, e16_59, e16_62, e16_63, e16_64, e16_65, e16_67, nI_add, nI_leI, nI_ltI, nI_eq, z_eq, z_lt, z_le, z_gt, z_ge, ↓reduceIte, not_true_eq_false, not_false_eq_true, if_true, if_false, kv_s, kh_s, kn_s, kc_v, kc_n, s8i, s8o]
      simp
    · simp (disch := first | omega | assumption | (refine b30 ?_; omega) | exact SH_isO _ _ _ | (refine nI_inR ?_ ?_ ?_ <;> omega)) only [x16, e16_0, e16_1, e16_2, e16_4, e16_7, e16_10, e16_11, e16_12, e16_14, e16_17, e16_20, e16_21, e16_22, e16_24, e16_27, e16_30, e16_32, e16_33, e16_35, e16_36, e16_39, e16_40, e16_41, e16_42, e16_43, e16_46, e16_47, e16_48, e16_49, e16_51, e16_52, e16_55, e16_56, e16_57, e16_58, e16_59, e16_62, e16_63, e16_64, e16_65, e16_67, nI_add, nI_leI, nI_ltI, nI_eq, z_eq, z_lt, z_le, z_gt, z_ge, ↓reduceIte, not_true_eq_false, not_false_eq_true, if_true, if_false, kv_s, kh_s, kn_s, kc_v, kc_n, s8i, s8o]
      simp
  · simp (disch := first | omega | assumption | (refine b30 ?_; omega) | exact SH_isO _ _ _ | (refine nI_inR ?_ ?_ ?_ <;> omega)) only [x16, e16_0, e16_1, e16_2, e16_4, e16_7, e16_10, e16_11, e16_12, e16_14, e16_17, e16_20, e16_21, e16_22, e16_24, e16_27, e16_30, e16_32, e16_33, e16_35, e16_36, e16_39, e16_40, e16_41, e16_42, e16_43, e16_46, e16_47, e16_48, e16_49, e16_51, e16_52, e16_55, e16_56, e16_57, e16_58, e16_59, e16_62, e16_63, e16_64, e16_65, e16_67, nI_add, nI_leI, nI_ltI, nI_eq, z_eq, z_lt, z_le, z_gt, z_ge, ↓reduceIte, not_true_eq_false, not_false_eq_true, if_true, if_false, kv_s, kh_s, kn_s, kc_v, kc_n, s8o]
    simp
def m_season (a : sT) (st p : Nat) : Int32 × sT := (nI (a 6 0), u2 (u2 (u2 a 5 0 st) 6 0 p) 7 0 0)
theorem okb0 : pi_okv 2 (.int (nI 0)) = true := by decide
theorem okb1 : pi_okv 2 (.int (nI 1)) = true := by decide
theorem s20 (o : Nat) (ho : o < 1000) (a : sT) (st p : Nat) (h1 : 1 ≤ p) (h2 : p ≤ 6) (h3 : st ≤ 20) (H : pi_H) : ex 20 [.ref o, .int (nI st), .int (nI p)] (SH H o a) = some (some (.int (m_season a st p).1), SH H o (m_season a st p).2) := by
  have := okb0
  simp (disch := first | omega | assumption | (refine b30 ?_; omega) | exact SH_isO _ _ _ | (refine nI_inR ?_ ?_ ?_ <;> omega)) only [x20, e20_0, e20_1, e20_2, e20_4, e20_7, e20_10, e20_11, e20_12, e20_14, e20_17, e20_20, e20_22, e20_23, e20_24, e20_27, e20_28, e20_29, e20_30, e20_33, e20_34, e20_35, e20_38, e20_39, e20_40, e20_43, e20_44, nI_add, nI_leI, nI_ltI, nI_eq, z_eq, z_lt, z_le, z_gt, z_ge, ↓reduceIte, not_true_eq_false, not_false_eq_true, if_true, if_false, kv_s, kh_s, kn_s, kc_v, kc_n, SH_isO, SH_f0, SH_f1, SH_f2, SH_f3, SH_f4, SH_f5, SH_f6, SH_f7, SH_f8, SH_f9, SH_f10, SH_f11, SH_f12, SH_f13, SH_l0, SH_l1, SH_l2, SH_l3, SH_l4, SH_a0, SH_a1, SH_a2, SH_a3, SH_a4, SH_w0, SH_w1, SH_w2, SH_w3, SH_w4, SH_p, s8i]
  rfl
theorem s20o (o : Nat) (a : sT) (st p : Int32) (h : ¬ (inR st (nI 0) (nI 20) ∧ inR p (nI 1) (nI 6))) (H : pi_H) : ex 20 [.ref o, .int st, .int p] H = some (some (.int (-1000001)), H) := by
  by_cases h1 : inR st (nI 0) (nI 20)
  · have h2 : ¬ inR p (nI 1) (nI 6) := fun e => h ⟨h1, e⟩
    simp (disch := first | omega | assumption | (refine b30 ?_; omega) | exact SH_isO _ _ _ | (refine nI_inR ?_ ?_ ?_ <;> omega)) only [x20, e20_0, e20_1, e20_2, e20_4, e20_7, e20_10, e20_11, e20_12, e20_14, e20_17, e20_20, e20_22, e20_23, e20_24, e20_27, e20_28, e20_29, e20_30, e20_33, e20_34, e20_35, e20_38, e20_39, e20_40, e20_43, e20_44, nI_add, nI_leI, nI_ltI, nI_eq, z_eq, z_lt, z_le, z_gt, z_ge, ↓reduceIte, not_true_eq_false, not_false_eq_true, if_true, if_false, kv_s, kh_s, kn_s, kc_v, kc_n, s8i, s8o]
    simp
  · simp (disch := first | omega | assumption | (refine b30 ?_; omega) | exact SH_isO _ _ _ | (refine nI_inR ?_ ?_ ?_ <;> omega)) only [x20, e20_0, e20_1, e20_2, e20_4, e20_7, e20_10, e20_11, e20_12, e20_14, e20_17, e20_20, e20_22, e20_23, e20_24, e20_27, e20_28, e20_29, e20_30, e20_33, e20_34, e20_35, e20_38, e20_39, e20_40, e20_43, e20_44, nI_add, nI_leI, nI_ltI, nI_eq, z_eq, z_lt, z_le, z_gt, z_ge, ↓reduceIte, not_true_eq_false, not_false_eq_true, if_true, if_false, kv_s, kh_s, kn_s, kc_v, kc_n, s8o]
    simp
def oprice (a : sT) (f l : Nat) : Nat := if l ≤ f then 0 else a 1 0 + a 1 1 * (l - f)
theorem s23 (o : Nat) (ho : o < 1000) (a : sT) (f l : Nat) (hf : f ≤ 20) (hl : l ≤ 20) (H : pi_H) : ex 23 [.ref o, .int (nI f), .int (nI l)] (SH H o a) = some (some (.int (nI (oprice a f l))), SH H o a) := by
  unfold oprice
  by_cases h : l ≤ f
  · simp (disch := first | omega | assumption | (refine b30 ?_; omega) | exact SH_isO _ _ _ | (refine nI_inR ?_ ?_ ?_ <;> omega)) only [x23, e23_0, e23_1, e23_2, e23_5, e23_6, e23_7, e23_8, e23_11, e23_12, e23_13, e23_14, e23_17, e23_18, e23_19, e23_20, e23_21, e23_22, e23_23, e23_24, nI_add, nI_leI, nI_ltI, nI_eq, z_eq, z_lt, z_le, z_gt, z_ge, ↓reduceIte, not_true_eq_false, not_false_eq_true, if_true, if_false, kv_s, kh_s, kn_s, kc_v, kc_n, SH_isO, SH_f0, SH_f1, SH_f2, SH_f3, SH_f4, SH_f5, SH_f6, SH_f7, SH_f8, SH_f9, SH_f10, SH_f11, SH_f12, SH_f13, SH_l0, SH_l1, SH_l2, SH_l3, SH_l4, SH_a0, SH_a1, SH_a2, SH_a3, SH_a4, h, show ¬ f < l by omega]
  · simp (disch := first | omega | assumption | (refine b30 ?_; omega) | exact SH_isO _ _ _ | (refine nI_inR ?_ ?_ ?_ <;> omega)) only [x23, e23_0, e23_1, e23_2, e23_5, e23_6, e23_7, e23_8, e23_11, e23_12, e23_13, e23_14, e23_17, e23_18, e23_19, e23_20, e23_21, e23_22, e23_23, e23_24, nI_add, nI_leI, nI_ltI, nI_eq, z_eq, z_lt, z_le, z_gt, z_ge, ↓reduceIte, not_true_eq_false, not_false_eq_true, if_true, if_false, kv_s, kh_s, kn_s, kc_v, kc_n, SH_isO, SH_f0, SH_f1, SH_f2, SH_f3, SH_f4, SH_f5, SH_f6, SH_f7, SH_f8, SH_f9, SH_f10, SH_f11, SH_f12, SH_f13, SH_l0, SH_l1, SH_l2, SH_l3, SH_l4, SH_a0, SH_a1, SH_a2, SH_a3, SH_a4, h, show f < l by omega, pk_sub, pk_mul]
/-- what an order that is possible makes of the shop -/
def m_ord (a : sT) (l : Nat) : sT := u2 (u2 (u2 (u2 (if a 5 0 < l then u2 a 8 0 (a 8 0 + 1) else a) 9 0 (a 9 0 + (l - a 5 0))) 12 0 (a 12 0 + oprice a (a 5 0) l)) 5 0 l) 7 0 1
def m_order (a : sT) (l : Nat) : Int32 × sT := if a 6 0 = 0 ∨ a 7 0 ≠ 0 ∨ l < a 5 0 then (-1000002, a) else (nI (oprice a (a 5 0) l), m_ord a l)
theorem s22 (o : Nat) (ho : o < 1000) (a : sT) (l : Nat) (hl : l ≤ 20) (h5 : a 5 0 ≤ 20) (h6 : a 6 0 ≤ 6) (h7 : a 7 0 ≤ 1) (H : pi_H) : ex 22 [.ref o, .int (nI l)] (SH H o a) = some (some (.int (m_order a l).1), SH H o (m_order a l).2) := by
  have := okb1
  unfold m_order m_ord
  by_cases q1 : a 6 0 = 0
  · simp (disch := first | omega | assumption | (refine b30 ?_; omega) | exact SH_isO _ _ _ | (refine nI_inR ?_ ?_ ?_ <;> omega)) only [x22, e22_0, e22_1, e22_2, e22_4, e22_7, e22_10, e22_12, e22_13, e22_14, e22_17, e22_20, e22_21, e22_24, e22_27, e22_28, e22_29, e22_32, e22_35, e22_37, e22_38, e22_39, e22_40, e22_43, e22_44, e22_47, e22_48, e22_49, e22_50, e22_53, e22_56, e22_57, e22_58, e22_61, e22_62, e22_63, e22_66, e22_67, e22_68, e22_71, e22_72, e22_73, e22_76, e22_77, e22_78, e22_81, e22_82, e22_83, e22_86, e22_87, e22_88, e22_91, e22_92, e22_93, e22_96, e22_97, e22_98, e22_101, e22_102, nI_add, nI_leI, nI_ltI, nI_eq, z_eq, z_lt, z_le, z_gt, z_ge, ↓reduceIte, not_true_eq_false, not_false_eq_true, if_true, if_false, kv_s, kh_s, kn_s, kc_v, kc_n, SH_isO, SH_f0, SH_f1, SH_f2, SH_f3, SH_f4, SH_f5, SH_f6, SH_f7, SH_f8, SH_f9, SH_f10, SH_f11, SH_f12, SH_f13, SH_l0, SH_l1, SH_l2, SH_l3, SH_l4, SH_a0, SH_a1, SH_a2, SH_a3, SH_a4, s8i, q1, true_or]
  · by_cases q2 : a 7 0 = 0
    · by_cases q3 : l < a 5 0
      · simp (disch := first | omega | assumption | (refine b30 ?_; omega) | exact SH_isO _ _ _ | (refine nI_inR ?_ ?_ ?_ <;> omega)) only [x22, e22_0, e22_1, e22_2, e22_4, e22_7, e22_10, e22_12, e22_13, e22_14, e22_17, e22_20, e22_21, e22_24, e22_27, e22_28, e22_29, e22_32, e22_35, e22_37, e22_38, e22_39, e22_40, e22_43, e22_44, e22_47, e22_48, e22_49, e22_50, e22_53, e22_56, e22_57, e22_58, e22_61, e22_62, e22_63, e22_66, e22_67, e22_68, e22_71, e22_72, e22_73, e22_76, e22_77, e22_78, e22_81, e22_82, e22_83, e22_86, e22_87, e22_88, e22_91, e22_92, e22_93, e22_96, e22_97, e22_98, e22_101, e22_102, nI_add, nI_leI, nI_ltI, nI_eq, z_eq, z_lt, z_le, z_gt, z_ge, ↓reduceIte, not_true_eq_false, not_false_eq_true, if_true, if_false, kv_s, kh_s, kn_s, kc_v, kc_n, SH_isO, SH_f0, SH_f1, SH_f2, SH_f3, SH_f4, SH_f5, SH_f6, SH_f7, SH_f8, SH_f9, SH_f10, SH_f11, SH_f12, SH_f13, SH_l0, SH_l1, SH_l2, SH_l3, SH_l4, SH_a0, SH_a1, SH_a2, SH_a3, SH_a4, s8i, q1, q2, q3, true_or, or_true, ne_eq, false_or, show ¬ a 5 0 ≤ l by omega]
      · by_cases q4 : a 5 0 < l
        · simp (disch := first | omega | assumption | (refine b30 ?_; omega) | exact SH_isO _ _ _ | (refine nI_inR ?_ ?_ ?_ <;> omega)) only [x22, e22_0, e22_1, e22_2, e22_4, e22_7, e22_10, e22_12, e22_13, e22_14, e22_17, e22_20, e22_21, e22_24, e22_27, e22_28, e22_29, e22_32, e22_35, e22_37, e22_38, e22_39, e22_40, e22_43, e22_44, e22_47, e22_48, e22_49, e22_50, e22_53, e22_56, e22_57, e22_58, e22_61, e22_62, e22_63, e22_66, e22_67, e22_68, e22_71, e22_72, e22_73, e22_76, e22_77, e22_78, e22_81, e22_82, e22_83, e22_86, e22_87, e22_88, e22_91, e22_92, e22_93, e22_96, e22_97, e22_98, e22_101, e22_102, nI_add, nI_leI, nI_ltI, nI_eq, z_eq, z_lt, z_le, z_gt, z_ge, ↓reduceIte, not_true_eq_false, not_false_eq_true, if_true, if_false, kv_s, kh_s, kn_s, kc_v, kc_n, SH_isO, SH_f0, SH_f1, SH_f2, SH_f3, SH_f4, SH_f5, SH_f6, SH_f7, SH_f8, SH_f9, SH_f10, SH_f11, SH_f12, SH_f13, SH_l0, SH_l1, SH_l2, SH_l3, SH_l4, SH_a0, SH_a1, SH_a2, SH_a3, SH_a4, SH_w0, SH_w1, SH_w2, SH_w3, SH_w4, SH_p, u2_app, Nat.reduceEqDiff, false_and, and_false, and_self, and_true, true_and, s8i, q1, q2, q3, q4, true_or, or_true, ne_eq, false_or, or_self, show ¬ l ≤ a 5 0 by omega, show a 5 0 ≤ l by omega, s23, pk_sub]
        · simp (disch := first | omega | assumption | (refine b30 ?_; omega) | exact SH_isO _ _ _ | (refine nI_inR ?_ ?_ ?_ <;> omega)) only [x22, e22_0, e22_1, e22_2, e22_4, e22_7, e22_10, e22_12, e22_13, e22_14, e22_17, e22_20, e22_21, e22_24, e22_27, e22_28, e22_29, e22_32, e22_35, e22_37, e22_38, e22_39, e22_40, e22_43, e22_44, e22_47, e22_48, e22_49, e22_50, e22_53, e22_56, e22_57, e22_58, e22_61, e22_62, e22_63, e22_66, e22_67, e22_68, e22_71, e22_72, e22_73, e22_76, e22_77, e22_78, e22_81, e22_82, e22_83, e22_86, e22_87, e22_88, e22_91, e22_92, e22_93, e22_96, e22_97, e22_98, e22_101, e22_102, nI_add, nI_leI, nI_ltI, nI_eq, z_eq, z_lt, z_le, z_gt, z_ge, ↓reduceIte, not_true_eq_false, not_false_eq_true, if_true, if_false, kv_s, kh_s, kn_s, kc_v, kc_n, SH_isO, SH_f0, SH_f1, SH_f2, SH_f3, SH_f4, SH_f5, SH_f6, SH_f7, SH_f8, SH_f9, SH_f10, SH_f11, SH_f12, SH_f13, SH_l0, SH_l1, SH_l2, SH_l3, SH_l4, SH_a0, SH_a1, SH_a2, SH_a3, SH_a4, SH_w0, SH_w1, SH_w2, SH_w3, SH_w4, SH_p, u2_app, Nat.reduceEqDiff, false_and, and_false, and_self, and_true, true_and, s8i, q1, q2, q3, q4, true_or, or_true, ne_eq, false_or, or_self, show l ≤ a 5 0 by omega, show a 5 0 ≤ l by omega, s23, pk_sub]
    · simp (disch := first | omega | assumption | (refine b30 ?_; omega) | exact SH_isO _ _ _ | (refine nI_inR ?_ ?_ ?_ <;> omega)) only [x22, e22_0, e22_1, e22_2, e22_4, e22_7, e22_10, e22_12, e22_13, e22_14, e22_17, e22_20, e22_21, e22_24, e22_27, e22_28, e22_29, e22_32, e22_35, e22_37, e22_38, e22_39, e22_40, e22_43, e22_44, e22_47, e22_48, e22_49, e22_50, e22_53, e22_56, e22_57, e22_58, e22_61, e22_62, e22_63, e22_66, e22_67, e22_68, e22_71, e22_72, e22_73, e22_76, e22_77, e22_78, e22_81, e22_82, e22_83, e22_86, e22_87, e22_88, e22_91, e22_92, e22_93, e22_96, e22_97, e22_98, e22_101, e22_102, nI_add, nI_leI, nI_ltI, nI_eq, z_eq, z_lt, z_le, z_gt, z_ge, ↓reduceIte, not_true_eq_false, not_false_eq_true, if_true, if_false, kv_s, kh_s, kn_s, kc_v, kc_n, SH_isO, SH_f0, SH_f1, SH_f2, SH_f3, SH_f4, SH_f5, SH_f6, SH_f7, SH_f8, SH_f9, SH_f10, SH_f11, SH_f12, SH_f13, SH_l0, SH_l1, SH_l2, SH_l3, SH_l4, SH_a0, SH_a1, SH_a2, SH_a3, SH_a4, s8i, q1, q2, true_or, or_true, ne_eq]
theorem s22o (o : Nat) (a : sT) (l : Int32) (h : ¬ inR l (nI 0) (nI 20)) (H : pi_H) : ex 22 [.ref o, .int l] H = some (some (.int (-1000001)), H) := by
  simp (disch := first | omega | assumption | (refine b30 ?_; omega) | exact SH_isO _ _ _ | (refine nI_inR ?_ ?_ ?_ <;> omega)) only [x22, e22_0, e22_1, e22_2, e22_4, e22_7, e22_10, e22_12, e22_13, e22_14, e22_17, e22_20, e22_21, e22_24, e22_27, e22_28, e22_29, e22_32, e22_35, e22_37, e22_38, e22_39, e22_40, e22_43, e22_44, e22_47, e22_48, e22_49, e22_50, e22_53, e22_56, e22_57, e22_58, e22_61, e22_62, e22_63, e22_66, e22_67, e22_68, e22_71, e22_72, e22_73, e22_76, e22_77, e22_78, e22_81, e22_82, e22_83, e22_86, e22_87, e22_88, e22_91, e22_92, e22_93, e22_96, e22_97, e22_98, e22_101, e22_102, nI_add, nI_leI, nI_ltI, nI_eq, z_eq, z_lt, z_le, z_gt, z_ge, ↓reduceIte, not_true_eq_false, not_false_eq_true, if_true, if_false, kv_s, kh_s, kn_s, kc_v, kc_n, s8o]
  simp
