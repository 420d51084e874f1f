-- PART 21: shops' methods, first
theorem z_eq {n : Nat} (h : n < 2 ^ 31) : (nI n = 0) ↔ n = 0 := by
  rw [← nI_0]
  exact nI_eq h (by omega)
theorem z_lt {n : Nat} (h : n < 2 ^ 31) : (nI n < 0) ↔ False := iff_false_intro (nI_pos h)
theorem z_le {n : Nat} (h : n < 2 ^ 31) : (0 ≤ nI n) ↔ True := iff_true_intro (nI_pos' h)
theorem z_gt {n : Nat} (h : n < 2 ^ 31) : (0 < nI n) ↔ 0 < n := by
  rw [← nI_0]
  exact nI_ltI (by omega) h
theorem z_ge {n : Nat} (h : n < 2 ^ 31) : (nI n ≤ 0) ↔ n = 0 := by
  rw [← nI_0, nI_leI h (by omega)]
  omega
/-- in a range or not -/
def inR (x lo hi : Int32) : Prop := lo ≤ x ∧ x ≤ hi
theorem inR_nI {lo hi : Nat} {x : Int32} (h : inR x (nI lo) (nI hi)) (hh : hi < 2 ^ 31) (hl : lo < 2 ^ 31) : ∃ n : Nat, lo ≤ n ∧ n ≤ hi ∧ x = nI n := by
  have h0 : ¬ x < 0 := by
    have := nI_pos' (n := lo) (by omega)
    have h1 := h.1
    grind
  obtain ⟨j, hj, rfl⟩ := nI_of h0
  exact ⟨j, (nI_leI hl hj).mp h.1, (nI_leI hj hh).mp h.2, rfl⟩
theorem nI_inR {lo hi n : Nat} (h1 : lo ≤ n) (h2 : n ≤ hi) (hh : hi < 2 ^ 31) : inR (nI n) (nI lo) (nI hi) := ⟨nI_le h1 (by omega), nI_le h2 hh⟩
theorem rt8_0 : pi_rt pm_Ol_outside (nI 0) = true := by decide +kernel
theorem rt8_1 : pi_rt pm_Ol_outside (nI 1) = true := by decide +kernel
/-- outside -/
theorem s8 (x lo hi : Int32) (H : pi_H) : ex 8 [.int x, .int lo, .int hi] H = some (some (.int (if x < lo ∨ hi < x then nI 1 else nI 0)), H) := by
  simp only [x8, e8_0, e8_1, e8_2, e8_5, e8_6, e8_7, e8_10, e8_11, e8_14, e8_15, rt8_0, rt8_1]
  by_cases h1 : x < lo
  · simp [h1]
  · by_cases h2 : hi < x
    · simp [h1, h2]
      grind
    · simp [h1, h2]
theorem s12 (a b : Nat) (ha : a < 2 ^ 31) (hb : b < 2 ^ 31) (H : pi_H) : ex 12 [.int (nI a), .int (nI b)] H = some (some (.int (nI (min a b))), H) := by
  simp (disch := omega) only [x12, e12_0, e12_1, e12_2, e12_5, e12_6, e12_9, e12_10, nI_add, nI_leI, nI_ltI, nI_eq, z_eq, z_lt, z_le, z_gt, z_ge, ↓reduceIte, not_true_eq_false, not_false_eq_true, if_true, if_false]
  by_cases h : b < a
  · rw [if_pos h, Nat.min_eq_right (by omega)]
  · rw [if_neg h, Nat.min_eq_left (by omega)]
theorem s33 (a b : Nat) (ha : a < 2 ^ 31) (hb : b < 2 ^ 31) (H : pi_H) : ex 33 [.int (nI a), .int (nI b)] H = some (some (.int (nI (max a b))), H) := by
  simp (disch := omega) only [x33, e33_0, e33_1, e33_2, e33_5, e33_6, e33_9, e33_10, nI_add, nI_leI, nI_ltI, nI_eq, z_eq, z_lt, z_le, z_gt, z_ge, ↓reduceIte, not_true_eq_false, not_false_eq_true, if_true, if_false]
  by_cases h : a < b
  · rw [if_pos h, Nat.max_eq_right (by omega)]
  · rw [if_neg h, Nat.max_eq_left (by omega)]
theorem s8i {x lo hi : Int32} (h : inR x lo hi) (H : pi_H) : ex 8 [.int x, .int lo, .int hi] H = some (some (.int (nI 0)), H) := by
  rw [s8, if_neg (by unfold inR at h; grind)]
theorem s8o {x lo hi : Int32} (h : ¬ inR x lo hi) (H : pi_H) : ex 8 [.int x, .int lo, .int hi] H = some (some (.int (nI 1)), H) := by
  rw [s8, if_pos (by unfold inR at h; grind)]
theorem b30 {a : Nat} (h : a ≠ 1000030) : (a == 1000030) = false := by simp [h]
def wsum (a : sT) : Nat := a 0 0 + a 0 1 + a 0 2 + a 0 3 + a 0 4 + a 0 5 + a 0 6
theorem s9 (o : Nat) (ho : o < 1000) (a : sT) (H : pi_H) : ex 9 [.ref o] (SH H o a) = some (some (.int (nI (wsum a))), SH H o a) := by
  simp (disch := first | omega | assumption | (refine b30 ?_; omega) | exact SH_isO _ _ _ | (refine nI_inR ?_ ?_ ?_ <;> omega)) only [x9, e9_0, e9_1, e9_2, e9_3, e9_6, e9_7, e9_8, e9_9, e9_10, e9_11, e9_13, e9_15, e9_16, e9_19, e9_20, e9_22, e9_23, e9_25, e9_26, e9_28, e9_29, e9_30, e9_33, e9_36, e9_37, nI_add, nI_leI, nI_ltI, nI_eq, z_eq, z_lt, z_le, z_gt, z_ge, ↓reduceIte, not_true_eq_false, not_false_eq_true, if_true, if_false, kv_s, kh_s, kn_s, kc_v, kc_n, SH_isO, SH_f0, SH_f1, SH_f2, SH_f3, SH_f4, SH_f5, SH_f6, SH_f7, SH_f8, SH_f9, SH_f10, SH_f11, SH_f12, SH_f13, SH_l0, SH_l1, SH_l2, SH_l3, SH_l4, SH_a0, SH_a1, SH_a2, SH_a3, SH_a4, Nat.zero_add, Nat.reduceAdd, Nat.reduceLeDiff]
  rfl
theorem inR_no {x : Int32} {lo hi : Nat} (h : ¬ inR x (nI lo) (nI hi)) : True := trivial
/-- what a weight's call answers, and the shop behind it -/
def m_weigh (a : sT) (d w : Nat) : Int32 × sT := if wsum a - a 0 d + w = 0 then (-1000002, a) else if 12 < wsum a - a 0 d + w then (-1000003, a) else (nI (wsum a - a 0 d + w), u2 a 0 d w)
theorem wsum_ge (a : sT) (d : Nat) (hd : d ≤ 6) : a 0 d ≤ wsum a := by
  unfold wsum
  have h : d = 0 ∨ d = 1 ∨ d = 2 ∨ d = 3 ∨ d = 4 ∨ d = 5 ∨ d = 6 := by omega
  rcases h with rfl | rfl | rfl | rfl | rfl | rfl | rfl <;> omega
theorem s7 (o : Nat) (ho : o < 1000) (a : sT) (ha : wsum a ≤ 12) (d w : Nat) (hd : d ≤ 6) (hw : w ≤ 9) (H : pi_H) : ex 7 [.ref o, .int (nI d), .int (nI w)] (SH H o a) = some (some (.int (m_weigh a d w).1), SH H o (m_weigh a d w).2) := by
  have h1 := wsum_ge a d hd
  simp (disch := first | omega | assumption | (refine b30 ?_; omega) | exact SH_isO _ _ _ | (refine nI_inR ?_ ?_ ?_ <;> omega)) only [x7, e7_0, e7_1, e7_2, e7_4, e7_7, e7_10, e7_11, e7_12, e7_14, e7_17, e7_20, e7_22, e7_23, e7_24, e7_27, e7_28, e7_31, e7_32, e7_33, e7_34, e7_35, e7_36, e7_37, e7_38, e7_41, e7_43, e7_44, e7_45, e7_47, e7_50, e7_52, e7_53, e7_54, e7_57, e7_58, e7_59, e7_60, e7_61, nI_add, nI_leI, nI_ltI, nI_eq, z_eq, z_lt, z_le, z_gt, z_ge, ↓reduceIte, not_true_eq_false, not_false_eq_true, if_true, if_false, kv_s, kh_s, kn_s, kc_v, kc_n, SH_isO, SH_f0, SH_f1, SH_f2, SH_f3, SH_f4, SH_f5, SH_f6, SH_f7, SH_f8, SH_f9, SH_f10, SH_f11, SH_f12, SH_f13, SH_l0, SH_l1, SH_l2, SH_l3, SH_l4, SH_a0, SH_a1, SH_a2, SH_a3, SH_a4, SH_w0, SH_w1, SH_w2, SH_w3, SH_w4, SH_p, s8i, s9, pk_sub]
  unfold m_weigh
  (repeat' split) <;> first | rfl | (exfalso; omega)
theorem s7o (o : Nat) (a : sT) (d w : Int32) (h : ¬ (inR d (nI 0) (nI 6) ∧ inR w (nI 0) (nI 9))) (H : pi_H) : ex 7 [.ref o, .int d, .int w] H = some (some (.int (-1000001)), H) := by
  by_cases h1 : inR d (nI 0) (nI 6)
  · have h2 : ¬ inR w (nI 0) (nI 9) := fun e => h ⟨h1, e⟩
    simp (disch := first | omega | assumption | (refine b30 ?_; omega) | exact SH_isO _ _ _ | (refine nI_inR ?_ ?_ ?_ <;> omega)) only [x7, e7_0, e7_1, e7_2, e7_4, e7_7, e7_10, e7_11, e7_12, e7_14, e7_17, e7_20, e7_22, e7_23, e7_24, e7_27, e7_28, e7_31, e7_32, e7_33, e7_34, e7_35, e7_36, e7_37, e7_38, e7_41, e7_43, e7_44, e7_45, e7_47, e7_50, e7_52, e7_53, e7_54, e7_57, e7_58, e7_59, e7_60, e7_61, nI_add, nI_leI, nI_ltI, nI_eq, z_eq, z_lt, z_le, z_gt, z_ge, ↓reduceIte, not_true_eq_false, not_false_eq_true, if_true, if_false, kv_s, kh_s, kn_s, kc_v, kc_n, s8i, s8o]
    simp
  · simp (disch := first | omega | assumption | (refine b30 ?_; omega) | exact SH_isO _ _ _ | (refine nI_inR ?_ ?_ ?_ <;> omega)) only [x7, e7_0, e7_1, e7_2, e7_4, e7_7, e7_10, e7_11, e7_12, e7_14, e7_17, e7_20, e7_22, e7_23, e7_24, e7_27, e7_28, e7_31, e7_32, e7_33, e7_34, e7_35, e7_36, e7_37, e7_38, e7_41, e7_43, e7_44, e7_45, e7_47, e7_50, e7_52, e7_53, e7_54, e7_57, e7_58, e7_59, e7_60, e7_61, nI_add, nI_leI, nI_ltI, nI_eq, z_eq, z_lt, z_le, z_gt, z_ge, ↓reduceIte, not_true_eq_false, not_false_eq_true, if_true, if_false, kv_s, kh_s, kn_s, kc_v, kc_n, s8o]
    simp
