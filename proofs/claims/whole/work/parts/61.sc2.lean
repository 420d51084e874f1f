-- PART 61: the script, second: reading
theorem upN_two (f : Nat → Nat) (i x y : Nat) : upN (upN f i x) i y = upN f i y := by
  funext j
  unfold upN
  split <;> rfl
theorem upN_id (f : Nat → Nat) (i : Nat) : upN f i (f i) = f := by
  funext j
  unfold upN
  split
  · rename_i h; rw [h]
  · rfl
theorem upN_comm (f : Nat → Nat) (i j x y : Nat) (h : i ≠ j) : upN (upN f i x) j y = upN (upN f j y) i x := by
  funext k
  unfold upN
  by_cases h1 : k = j
  · rw [if_pos h1, if_neg (by omega), if_pos h1]
  · rw [if_neg h1, if_neg h1]
theorem s94 (k : Nat) (hk : k < 7) (H : pi_H) : ex 94 [.int (nI k)] H = some (some (.ref (1000001 + k)), H) := by
  have h : k = 0 ∨ k = 1 ∨ k = 2 ∨ k = 3 ∨ k = 4 ∨ k = 5 ∨ k = 6 := by omega
  rcases h with rfl | rfl | rfl | rfl | rfl | rfl | rfl <;> simp (disch := first | omega | assumption | exact SC_isO _ _ _ _ | (refine b30 ?_; omega) | (refine nI_inR ?_ ?_ ?_ <;> omega)) only [x94, e94_0, e94_1, e94_40, e94_42, e94_43, e94_45, e94_46, e94_48, e94_49, e94_51, e94_52, e94_54, e94_55, e94_57, e94_58, e94_60, kv_s, kh_s, kn_s, kc_v, kc_n, Nat.reduceEqDiff, Nat.one_ne_zero, Nat.reduceLT, Nat.reduceLeDiff, Nat.reduceAdd, Nat.reduceSub, Nat.reduceMul, nI_add, nI_leI, nI_ltI, nI_eq, z_eq, z_lt, z_le, z_gt, z_ge, ↓reduceIte, not_true_eq_false, not_false_eq_true, if_true, if_false]
theorem s103 (k : Nat) (hk : k < 7) (H : pi_H) : ex 103 [.int (nI k)] H = some (some (.int (nI (many k))), H) := by
  have h : k = 0 ∨ k = 1 ∨ k = 2 ∨ k = 3 ∨ k = 4 ∨ k = 5 ∨ k = 6 := by omega
  rcases h with rfl | rfl | rfl | rfl | rfl | rfl | rfl <;> simp (disch := first | omega | assumption | exact SC_isO _ _ _ _ | (refine b30 ?_; omega) | (refine nI_inR ?_ ?_ ?_ <;> omega)) only [x103, e103_0, e103_1, e103_32, e103_33, e103_34, e103_35, e103_36, e103_37, e103_38, e103_39, kv_s, kh_s, kn_s, kc_v, kc_n, Nat.reduceEqDiff, Nat.one_ne_zero, Nat.reduceLT, Nat.reduceLeDiff, Nat.reduceAdd, Nat.reduceSub, Nat.reduceMul, nI_add, nI_leI, nI_ltI, nI_eq, z_eq, z_lt, z_le, z_gt, z_ge, ↓reduceIte, not_true_eq_false, not_false_eq_true, if_true, if_false] <;> rfl
theorem rt95_0 : pi_rt pm_Sc_skipWord (nI 0) = true := by decide +kernel
theorem rt95_1 : pi_rt pm_Sc_skipWord (nI 1) = true := by decide +kernel
theorem rt104_0 : pi_rt pm_Sc_readNumbers (nI 0) = true := by decide +kernel
theorem rt104_1 : pi_rt pm_Sc_readNumbers (nI 1) = true := by decide +kernel
theorem rt105_0 : pi_rt pm_Sc_skipSign (nI 0) = true := by decide +kernel
theorem rt105_1 : pi_rt pm_Sc_skipSign (nI 1) = true := by decide +kernel
theorem dig_in (t : Nat) (h : t ≤ 126) : inR (nI t - nI 48) (nI 0) (nI 9) ↔ 48 ≤ t ∧ t ≤ 57 := by
  by_cases q : 48 ≤ t
  · rw [pk_sub q, inR_N (by omega) (by omega) (by omega)]
    omega
  · have h1 : nI t - nI 48 < 0 := pk_sneg (by omega) (by omega)
    constructor
    · rintro ⟨a, _⟩
      rw [nI_0] at a
      exfalso
      grind
    · rintro ⟨a, _⟩
      omega
theorem max_m1 (H : pi_H) : ex 33 [.int (nI 0), .int (-1)] H = some (some (.int (nI 0)), H) := by
  have h2 : ¬ nI 0 < -1 := by decide
  simp (disch := first | omega | assumption | exact SC_isO _ _ _ _ | (refine b30 ?_; omega) | (refine nI_inR ?_ ?_ ?_ <;> omega)) only [x33, e33_0, e33_1, e33_2, e33_5, e33_6, e33_9, e33_10, h2, if_false]
section
variable (H : pi_H) (τ ν σ : Nat → Nat)
theorem s95 (hs : strs H) (h126 : ∀ i, τ i ≤ 126) (n p k : Nat) (hk : k < 7) (h0 : σ 0 = n) (hn : n ≤ 80) (hp : p ≤ n) : ex 95 [.ref 74, .ref (1000001 + k)] (SC H τ ν (upN σ 1 p)) = some (if mt τ n p k = true then (some (.int (nI 1)), SC H τ ν (upN σ 1 (p + wl k))) else (some (.int (nI 0)), SC H τ ν (upN σ 1 p))) := by
  have hs' := SC_strs H τ ν (upN σ 1 p) hs
  have e96 := s96 (SC H τ ν (upN σ 1 p)) k hs' hk
  have h1 := st_isO (SC H τ ν (upN σ 1 p)) k hs' hk
  have r0 := rt95_0
  have r1 := rt95_1
  have b := wl_le k hk
  by_cases hl : p + wl k ≤ n
  · have l1 : ∀ m i, i + m = wl k → (∀ j, j < i → τ (p + j) = wc k j) → ev 95 20 [some (.ref 74), some (.ref (1000001 + k)), some (.int (nI i))] [] (SC H τ ν (upN σ 1 p)) = some (if mt τ n p k = true then (some (.int (nI 1)), SC H τ ν (upN σ 1 (p + wl k))) else (some (.int (nI 0)), SC H τ ν (upN σ 1 p))) := by
      intro m
      induction m with
      | zero =>
        intro i hi hj
        obtain rfl : i = wl k := by omega
        rw [if_pos ((mt_iff τ n p k).mpr ⟨hl, hj⟩), e95_20]
        simp (disch := first | omega | assumption | exact SC_isO _ _ _ _ | (refine b30 ?_; omega) | (refine nI_inR ?_ ?_ ?_ <;> omega)) only [x95, e95_0, e95_1, e95_4, e95_5, e95_8, e95_9, e95_12, e95_13, e95_16, e95_17, e95_18, e95_19, e95_21, e95_22, e95_25, e95_28, e95_29, e95_32, e95_33, e95_36, e95_37, e95_38, e95_39, e95_40, e95_41, e95_44, e95_47, e95_48, e95_49, e95_52, e95_55, e95_56, e95_57, e95_60, e95_61, e95_64, e95_65, e95_68, e95_69, kv_s, kh_s, kn_s, kc_v, kc_n, Nat.reduceEqDiff, Nat.one_ne_zero, Nat.reduceLT, Nat.reduceLeDiff, Nat.reduceAdd, Nat.reduceSub, Nat.reduceMul, nI_add, nI_leI, nI_ltI, nI_eq, z_eq, z_lt, z_le, z_gt, z_ge, ↓reduceIte, not_true_eq_false, not_false_eq_true, if_true, if_false, SC_isO, SC_f0, SC_f1, SC_f2, SC_f3, SC_f4, SC_f5, SC_f6, SC_a1, SC_a2, SC_w1, SC_w2, SC_p2, SC_p3, SC_p4, SC_p5, SC_p6, upN_app, upN_two, Nat.zero_ne_one, e96, show wl k ≤ wl k by omega]
      | succ m ih =>
        intro i hi hj
        have e98 := s98 (SC H τ ν (upN σ 1 p)) k hs' hk i (by omega)
        have t1 := h126 (p + i)
        have c1 := wc_in k hk i (by omega)
        rw [e95_20]
        by_cases q : τ (p + i) = wc k i
        · simp (disch := first | omega | assumption | exact SC_isO _ _ _ _ | (refine b30 ?_; omega) | (refine nI_inR ?_ ?_ ?_ <;> omega)) only [x95, e95_0, e95_1, e95_4, e95_5, e95_8, e95_9, e95_12, e95_13, e95_16, e95_17, e95_18, e95_19, e95_21, e95_22, e95_25, e95_28, e95_29, e95_32, e95_33, e95_36, e95_37, e95_38, e95_39, e95_40, e95_41, e95_44, e95_47, e95_48, e95_49, e95_52, e95_55, e95_56, e95_57, e95_60, e95_61, e95_64, e95_65, e95_68, e95_69, kv_s, kh_s, kn_s, kc_v, kc_n, Nat.reduceEqDiff, Nat.one_ne_zero, Nat.reduceLT, Nat.reduceLeDiff, Nat.reduceAdd, Nat.reduceSub, Nat.reduceMul, nI_add, nI_leI, nI_ltI, nI_eq, z_eq, z_lt, z_le, z_gt, z_ge, ↓reduceIte, not_true_eq_false, not_false_eq_true, if_true, if_false, SC_isO, SC_f0, SC_f1, SC_f2, SC_f3, SC_f4, SC_f5, SC_f6, SC_a1, SC_a2, upN_app, upN_two, Nat.zero_ne_one, e96, e98, q, show ¬ wl k ≤ i by omega]
          exact ih (i + 1) (by omega) (fun j hj2 => by
            by_cases e : j = i
            · rw [e, q]
            · exact hj j (by omega))
        · rw [if_neg (fun e => q (((mt_iff τ n p k).mp e).2 i (by omega)))]
          simp (disch := first | omega | assumption | exact SC_isO _ _ _ _ | (refine b30 ?_; omega) | (refine nI_inR ?_ ?_ ?_ <;> omega)) only [x95, e95_0, e95_1, e95_4, e95_5, e95_8, e95_9, e95_12, e95_13, e95_16, e95_17, e95_18, e95_19, e95_21, e95_22, e95_25, e95_28, e95_29, e95_32, e95_33, e95_36, e95_37, e95_38, e95_39, e95_40, e95_41, e95_44, e95_47, e95_48, e95_49, e95_52, e95_55, e95_56, e95_57, e95_60, e95_61, e95_64, e95_65, e95_68, e95_69, kv_s, kh_s, kn_s, kc_v, kc_n, Nat.reduceEqDiff, Nat.one_ne_zero, Nat.reduceLT, Nat.reduceLeDiff, Nat.reduceAdd, Nat.reduceSub, Nat.reduceMul, nI_add, nI_leI, nI_ltI, nI_eq, z_eq, z_lt, z_le, z_gt, z_ge, ↓reduceIte, not_true_eq_false, not_false_eq_true, if_true, if_false, SC_isO, SC_f0, SC_f1, SC_f2, SC_f3, SC_f4, SC_f5, SC_f6, SC_a1, SC_a2, upN_app, upN_two, Nat.zero_ne_one, e96, e98, q, show ¬ wl k ≤ i by omega]
    have := l1 (wl k) 0 (by omega) (fun j hj => absurd hj (by omega))
    simp (disch := first | omega | assumption | exact SC_isO _ _ _ _ | (refine b30 ?_; omega) | (refine nI_inR ?_ ?_ ?_ <;> omega)) only [x95, e95_0, e95_1, e95_4, e95_5, e95_8, e95_9, e95_12, e95_13, e95_16, e95_17, e95_18, e95_19, e95_21, e95_22, e95_25, e95_28, e95_29, e95_32, e95_33, e95_36, e95_37, e95_38, e95_39, e95_40, e95_41, e95_44, e95_47, e95_48, e95_49, e95_52, e95_55, e95_56, e95_57, e95_60, e95_61, e95_64, e95_65, e95_68, e95_69, kv_s, kh_s, kn_s, kc_v, kc_n, Nat.reduceEqDiff, Nat.one_ne_zero, Nat.reduceLT, Nat.reduceLeDiff, Nat.reduceAdd, Nat.reduceSub, Nat.reduceMul, nI_add, nI_leI, nI_ltI, nI_eq, z_eq, z_lt, z_le, z_gt, z_ge, ↓reduceIte, not_true_eq_false, not_false_eq_true, if_true, if_false, SC_isO, SC_f0, SC_f1, SC_f2, SC_f3, SC_f4, SC_f5, SC_f6, SC_a1, SC_a2, upN_app, upN_two, Nat.zero_ne_one, e96, h0, pk_sub, show wl k ≤ n - p by omega]
    exact this
  · rw [if_neg (fun e => hl ((mt_iff τ n p k).mp e).1)]
    simp (disch := first | omega | assumption | exact SC_isO _ _ _ _ | (refine b30 ?_; omega) | (refine nI_inR ?_ ?_ ?_ <;> omega)) only [x95, e95_0, e95_1, e95_4, e95_5, e95_8, e95_9, e95_12, e95_13, e95_16, e95_17, e95_18, e95_19, e95_21, e95_22, e95_25, e95_28, e95_29, e95_32, e95_33, e95_36, e95_37, e95_38, e95_39, e95_40, e95_41, e95_44, e95_47, e95_48, e95_49, e95_52, e95_55, e95_56, e95_57, e95_60, e95_61, e95_64, e95_65, e95_68, e95_69, kv_s, kh_s, kn_s, kc_v, kc_n, Nat.reduceEqDiff, Nat.one_ne_zero, Nat.reduceLT, Nat.reduceLeDiff, Nat.reduceAdd, Nat.reduceSub, Nat.reduceMul, nI_add, nI_leI, nI_ltI, nI_eq, z_eq, z_lt, z_le, z_gt, z_ge, ↓reduceIte, not_true_eq_false, not_false_eq_true, if_true, if_false, SC_isO, SC_f0, SC_f1, SC_f2, SC_f3, SC_f4, SC_f5, SC_f6, SC_a1, SC_a2, upN_app, upN_two, Nat.zero_ne_one, e96, h0, pk_sub, show ¬ wl k ≤ n - p by omega]
def rdK (o : Option Nat) : Int32 := match o with
  | some k => nI k
  | none => -1
def atK (o : Option Nat) (p : Nat) : Nat := match o with
  | some k => p + wl k
  | none => p
theorem s93 (hs : strs H) (h126 : ∀ i, τ i ≤ 126) (n p : Nat) (h0 : σ 0 = n) (hn : n ≤ 80) (hp : p ≤ n) : ex 93 [.ref 74] (SC H τ ν (upN σ 1 p)) = some (some (.int (rdK (kd τ n p))), SC H τ ν (upN σ 1 (atK (kd τ n p) p))) := by
  have l1 : ∀ m k, k + m = 7 → ev 93 2 [some (.ref 74), some (.int (nI k))] [] (SC H τ ν (upN σ 1 p)) = some (some (.int (rdK (kdF τ n p k m))), SC H τ ν (upN σ 1 (atK (kdF τ n p k m) p))) := by
    intro m
    induction m with
    | zero =>
      intro k hk
      rw [e93_2]
      simp (disch := first | omega | assumption | exact SC_isO _ _ _ _ | (refine b30 ?_; omega) | (refine nI_inR ?_ ?_ ?_ <;> omega)) only [x93, e93_0, e93_1, e93_3, e93_5, e93_8, e93_9, e93_10, e93_13, e93_16, e93_19, e93_20, e93_21, e93_24, e93_27, e93_28, kv_s, kh_s, kn_s, kc_v, kc_n, Nat.reduceEqDiff, Nat.one_ne_zero, Nat.reduceLT, Nat.reduceLeDiff, Nat.reduceAdd, Nat.reduceSub, Nat.reduceMul, nI_add, nI_leI, nI_ltI, nI_eq, z_eq, z_lt, z_le, z_gt, z_ge, ↓reduceIte, not_true_eq_false, not_false_eq_true, if_true, if_false, show 7 ≤ k by omega]
      rfl
    | succ m ih =>
      intro k hk
      have e94 := s94 k (by omega) (SC H τ ν (upN σ 1 p))
      have e95 := s95 H τ ν σ hs h126 n p k (by omega) h0 hn hp
      have e : kdF τ n p k (m + 1) = if mt τ n p k = true then some k else kdF τ n p (k + 1) m := rfl
      rw [e, e93_2]
      by_cases q : mt τ n p k = true
      · rw [if_pos q] at e95
        rw [if_pos q]
        simp (disch := first | omega | assumption | exact SC_isO _ _ _ _ | (refine b30 ?_; omega) | (refine nI_inR ?_ ?_ ?_ <;> omega)) only [x93, e93_0, e93_1, e93_3, e93_5, e93_8, e93_9, e93_10, e93_13, e93_16, e93_19, e93_20, e93_21, e93_24, e93_27, e93_28, kv_s, kh_s, kn_s, kc_v, kc_n, Nat.reduceEqDiff, Nat.one_ne_zero, Nat.reduceLT, Nat.reduceLeDiff, Nat.reduceAdd, Nat.reduceSub, Nat.reduceMul, nI_add, nI_leI, nI_ltI, nI_eq, z_eq, z_lt, z_le, z_gt, z_ge, ↓reduceIte, not_true_eq_false, not_false_eq_true, if_true, if_false, e94, e95, show ¬ 7 ≤ k by omega]
        rfl
      · rw [if_neg q] at e95
        rw [if_neg q]
        simp (disch := first | omega | assumption | exact SC_isO _ _ _ _ | (refine b30 ?_; omega) | (refine nI_inR ?_ ?_ ?_ <;> omega)) only [x93, e93_0, e93_1, e93_3, e93_5, e93_8, e93_9, e93_10, e93_13, e93_16, e93_19, e93_20, e93_21, e93_24, e93_27, e93_28, kv_s, kh_s, kn_s, kc_v, kc_n, Nat.reduceEqDiff, Nat.one_ne_zero, Nat.reduceLT, Nat.reduceLeDiff, Nat.reduceAdd, Nat.reduceSub, Nat.reduceMul, nI_add, nI_leI, nI_ltI, nI_eq, z_eq, z_lt, z_le, z_gt, z_ge, ↓reduceIte, not_true_eq_false, not_false_eq_true, if_true, if_false, e94, e95, show ¬ 7 ≤ k by omega]
        exact ih (k + 1) (by omega)
  simp (disch := first | omega | assumption | exact SC_isO _ _ _ _ | (refine b30 ?_; omega) | (refine nI_inR ?_ ?_ ?_ <;> omega)) only [x93, e93_0, e93_1, e93_3, e93_5, e93_8, e93_9, e93_10, e93_13, e93_16, e93_19, e93_20, e93_21, e93_24, e93_27, e93_28, kv_s, kh_s, kn_s, kc_v, kc_n, Nat.reduceEqDiff, Nat.one_ne_zero, Nat.reduceLT, Nat.reduceLeDiff, Nat.reduceAdd, Nat.reduceSub, Nat.reduceMul, nI_add, nI_leI, nI_ltI, nI_eq, z_eq, z_lt, z_le, z_gt, z_ge, ↓reduceIte, not_true_eq_false, not_false_eq_true, if_true, if_false]
  exact l1 7 0 (by omega)
theorem s105 (h126 : ∀ i, τ i ≤ 126) (n p c : Nat) (h0 : σ 0 = n) (hn : n ≤ 80) (hp : p ≤ n) (hc : c < 1000) : ex 105 [.ref 74, .int (nI c)] (SC H τ ν (upN σ 1 p)) = some (if p < n ∧ τ p = c then (some (.int (nI 1)), SC H τ ν (upN σ 1 (p + 1))) else (some (.int (nI 0)), SC H τ ν (upN σ 1 p))) := by
  have r0 := rt105_0
  have r1 := rt105_1
  have t1 := h126 p
  by_cases h : p < n
  · by_cases q : τ p = c
    · rw [if_pos ⟨h, q⟩]
      simp (disch := first | omega | assumption | exact SC_isO _ _ _ _ | (refine b30 ?_; omega) | (refine nI_inR ?_ ?_ ?_ <;> omega)) only [x105, e105_0, e105_1, e105_4, e105_5, e105_8, e105_11, e105_12, e105_15, e105_16, e105_19, e105_20, e105_21, e105_24, e105_25, e105_26, e105_27, e105_28, e105_31, e105_32, e105_33, e105_36, e105_37, kv_s, kh_s, kn_s, kc_v, kc_n, Nat.reduceEqDiff, Nat.one_ne_zero, Nat.reduceLT, Nat.reduceLeDiff, Nat.reduceAdd, Nat.reduceSub, Nat.reduceMul, nI_add, nI_leI, nI_ltI, nI_eq, z_eq, z_lt, z_le, z_gt, z_ge, ↓reduceIte, not_true_eq_false, not_false_eq_true, if_true, if_false, SC_isO, SC_f0, SC_f1, SC_f2, SC_f3, SC_f4, SC_f5, SC_f6, SC_a1, SC_a2, SC_w1, SC_w2, SC_p2, SC_p3, SC_p4, SC_p5, SC_p6, upN_app, upN_two, Nat.zero_ne_one, h0, q, show ¬ n ≤ p by omega]
    · rw [if_neg (fun e => q e.2)]
      simp (disch := first | omega | assumption | exact SC_isO _ _ _ _ | (refine b30 ?_; omega) | (refine nI_inR ?_ ?_ ?_ <;> omega)) only [x105, e105_0, e105_1, e105_4, e105_5, e105_8, e105_11, e105_12, e105_15, e105_16, e105_19, e105_20, e105_21, e105_24, e105_25, e105_26, e105_27, e105_28, e105_31, e105_32, e105_33, e105_36, e105_37, kv_s, kh_s, kn_s, kc_v, kc_n, Nat.reduceEqDiff, Nat.one_ne_zero, Nat.reduceLT, Nat.reduceLeDiff, Nat.reduceAdd, Nat.reduceSub, Nat.reduceMul, nI_add, nI_leI, nI_ltI, nI_eq, z_eq, z_lt, z_le, z_gt, z_ge, ↓reduceIte, not_true_eq_false, not_false_eq_true, if_true, if_false, SC_isO, SC_f0, SC_f1, SC_f2, SC_f3, SC_f4, SC_f5, SC_f6, SC_a1, SC_a2, SC_w1, SC_w2, SC_p2, SC_p3, SC_p4, SC_p5, SC_p6, upN_app, upN_two, Nat.zero_ne_one, h0, q, show ¬ n ≤ p by omega]
  · rw [if_neg (fun e => h e.1)]
    simp (disch := first | omega | assumption | exact SC_isO _ _ _ _ | (refine b30 ?_; omega) | (refine nI_inR ?_ ?_ ?_ <;> omega)) only [x105, e105_0, e105_1, e105_4, e105_5, e105_8, e105_11, e105_12, e105_15, e105_16, e105_19, e105_20, e105_21, e105_24, e105_25, e105_26, e105_27, e105_28, e105_31, e105_32, e105_33, e105_36, e105_37, kv_s, kh_s, kn_s, kc_v, kc_n, Nat.reduceEqDiff, Nat.one_ne_zero, Nat.reduceLT, Nat.reduceLeDiff, Nat.reduceAdd, Nat.reduceSub, Nat.reduceMul, nI_add, nI_leI, nI_ltI, nI_eq, z_eq, z_lt, z_le, z_gt, z_ge, ↓reduceIte, not_true_eq_false, not_false_eq_true, if_true, if_false, SC_isO, SC_f0, SC_f1, SC_f2, SC_f3, SC_f4, SC_f5, SC_f6, SC_a1, SC_a2, SC_w1, SC_w2, SC_p2, SC_p3, SC_p4, SC_p5, SC_p6, upN_app, upN_two, Nat.zero_ne_one, h0, show n ≤ p by omega]
def rdN (o : Option (Nat × Nat)) : Int32 := match o with
  | some (x, _) => nI x
  | none => -1
def atN (o : Option (Nat × Nat)) (p : Nat) : Nat := match o with
  | some (_, q) => q
  | none => p
theorem s106 (h126 : ∀ i, τ i ≤ 126) (n p : Nat) (h0 : σ 0 = n) (hn : n ≤ 80) (hp : p ≤ n) : ex 106 [.ref 74] (SC H τ ν (upN σ 1 p)) = some (some (.int (rdN (nm τ n p))), SC H τ ν (upN σ 1 (atN (nm τ n p) p))) := by
  have t1 := h126 p
  have t2 := h126 (p + 1)
  have d1 := dig_in (τ p) t1
  have d2 := dig_in (τ (p + 1)) t2
  have em := max_m1
  unfold nm
  by_cases h : p < n
  · by_cases q : 48 ≤ τ p ∧ τ p ≤ 57
    · have j1 := d1.mpr q
      have m2 := fun H => s33 0 (τ p - 48) (by omega) (by omega) H
      rw [Nat.zero_max] at m2
      rw [if_pos ⟨h, q⟩]
      by_cases h2 : p + 1 < n
      · by_cases q2 : 48 ≤ τ (p + 1) ∧ τ (p + 1) ≤ 57
        · have j2 := d2.mpr q2
          rw [pk_sub q.1] at j1
          rw [pk_sub q2.1] at j2
          rw [if_pos ⟨h2, q2⟩, Nat.mul_comm 10]
          simp (disch := first | omega | assumption | exact SC_isO _ _ _ _ | (refine b30 ?_; omega) | (refine nI_inR ?_ ?_ ?_ <;> omega)) only [x106, e106_0, e106_1, e106_2, e106_3, e106_4, e106_5, e106_6, e106_9, e106_10, e106_13, e106_14, e106_17, e106_20, e106_21, e106_24, e106_25, e106_28, e106_29, e106_31, e106_32, e106_33, e106_34, e106_35, e106_37, e106_40, e106_43, e106_44, e106_45, e106_46, e106_47, e106_50, e106_52, e106_53, e106_54, e106_55, e106_56, e106_57, e106_58, e106_61, e106_62, e106_63, e106_66, e106_69, e106_72, e106_73, kv_s, kh_s, kn_s, kc_v, kc_n, Nat.reduceEqDiff, Nat.one_ne_zero, Nat.reduceLT, Nat.reduceLeDiff, Nat.reduceAdd, Nat.reduceSub, Nat.reduceMul, nI_add, nI_leI, nI_ltI, nI_eq, z_eq, z_lt, z_le, z_gt, z_ge, ↓reduceIte, not_true_eq_false, not_false_eq_true, if_true, if_false, SC_isO, SC_f0, SC_f1, SC_f2, SC_f3, SC_f4, SC_f5, SC_f6, SC_a1, SC_a2, SC_w1, SC_w2, SC_p2, SC_p3, SC_p4, SC_p5, SC_p6, upN_app, upN_two, Nat.zero_ne_one, h0, s8i, em, m2, pk_sub, pk_mul, Nat.zero_add, Nat.zero_mul, Nat.add_assoc, show ¬ n ≤ p by omega, show ¬ n ≤ p + 1 by omega]
          rfl
        · have j2 : ¬ inR (nI (τ (p + 1)) - nI 48) (nI 0) (nI 9) := fun e => q2 (d2.mp e)
          rw [pk_sub q.1] at j1
          rw [if_neg (fun e => q2 e.2)]
          have e8 := fun H => s8o j2 H
          simp (disch := first | omega | assumption | exact SC_isO _ _ _ _ | (refine b30 ?_; omega) | (refine nI_inR ?_ ?_ ?_ <;> omega)) only [x106, e106_0, e106_1, e106_2, e106_3, e106_4, e106_5, e106_6, e106_9, e106_10, e106_13, e106_14, e106_17, e106_20, e106_21, e106_24, e106_25, e106_28, e106_29, e106_31, e106_32, e106_33, e106_34, e106_35, e106_37, e106_40, e106_43, e106_44, e106_45, e106_46, e106_47, e106_50, e106_52, e106_53, e106_54, e106_55, e106_56, e106_57, e106_58, e106_61, e106_62, e106_63, e106_66, e106_69, e106_72, e106_73, kv_s, kh_s, kn_s, kc_v, kc_n, Nat.reduceEqDiff, Nat.one_ne_zero, Nat.reduceLT, Nat.reduceLeDiff, Nat.reduceAdd, Nat.reduceSub, Nat.reduceMul, nI_add, nI_leI, nI_ltI, nI_eq, z_eq, z_lt, z_le, z_gt, z_ge, ↓reduceIte, not_true_eq_false, not_false_eq_true, if_true, if_false, SC_isO, SC_f0, SC_f1, SC_f2, SC_f3, SC_f4, SC_f5, SC_f6, SC_a1, SC_a2, SC_w1, SC_w2, SC_p2, SC_p3, SC_p4, SC_p5, SC_p6, upN_app, upN_two, Nat.zero_ne_one, h0, s8i, e8, em, pk_mul, Nat.zero_add, Nat.zero_mul, show ¬ n ≤ p by omega, show ¬ n ≤ p + 1 by omega, pk_sub q.1]
          rfl
      · rw [pk_sub q.1] at j1
        rw [if_neg (fun e => h2 e.1)]
        simp (disch := first | omega | assumption | exact SC_isO _ _ _ _ | (refine b30 ?_; omega) | (refine nI_inR ?_ ?_ ?_ <;> omega)) only [x106, e106_0, e106_1, e106_2, e106_3, e106_4, e106_5, e106_6, e106_9, e106_10, e106_13, e106_14, e106_17, e106_20, e106_21, e106_24, e106_25, e106_28, e106_29, e106_31, e106_32, e106_33, e106_34, e106_35, e106_37, e106_40, e106_43, e106_44, e106_45, e106_46, e106_47, e106_50, e106_52, e106_53, e106_54, e106_55, e106_56, e106_57, e106_58, e106_61, e106_62, e106_63, e106_66, e106_69, e106_72, e106_73, kv_s, kh_s, kn_s, kc_v, kc_n, Nat.reduceEqDiff, Nat.one_ne_zero, Nat.reduceLT, Nat.reduceLeDiff, Nat.reduceAdd, Nat.reduceSub, Nat.reduceMul, nI_add, nI_leI, nI_ltI, nI_eq, z_eq, z_lt, z_le, z_gt, z_ge, ↓reduceIte, not_true_eq_false, not_false_eq_true, if_true, if_false, SC_isO, SC_f0, SC_f1, SC_f2, SC_f3, SC_f4, SC_f5, SC_f6, SC_a1, SC_a2, SC_w1, SC_w2, SC_p2, SC_p3, SC_p4, SC_p5, SC_p6, upN_app, upN_two, Nat.zero_ne_one, h0, s8i, em, pk_sub, pk_mul, Nat.zero_add, Nat.zero_mul, show ¬ n ≤ p by omega, show n ≤ p + 1 by omega]
        rfl
    · have j1 : ¬ inR (nI (τ p) - nI 48) (nI 0) (nI 9) := fun e => q (d1.mp e)
      have e8 := fun H => s8o j1 H
      rw [if_neg (fun e => q e.2)]
      simp (disch := first | omega | assumption | exact SC_isO _ _ _ _ | (refine b30 ?_; omega) | (refine nI_inR ?_ ?_ ?_ <;> omega)) only [x106, e106_0, e106_1, e106_2, e106_3, e106_4, e106_5, e106_6, e106_9, e106_10, e106_13, e106_14, e106_17, e106_20, e106_21, e106_24, e106_25, e106_28, e106_29, e106_31, e106_32, e106_33, e106_34, e106_35, e106_37, e106_40, e106_43, e106_44, e106_45, e106_46, e106_47, e106_50, e106_52, e106_53, e106_54, e106_55, e106_56, e106_57, e106_58, e106_61, e106_62, e106_63, e106_66, e106_69, e106_72, e106_73, kv_s, kh_s, kn_s, kc_v, kc_n, Nat.reduceEqDiff, Nat.one_ne_zero, Nat.reduceLT, Nat.reduceLeDiff, Nat.reduceAdd, Nat.reduceSub, Nat.reduceMul, nI_add, nI_leI, nI_ltI, nI_eq, z_eq, z_lt, z_le, z_gt, z_ge, ↓reduceIte, not_true_eq_false, not_false_eq_true, if_true, if_false, SC_isO, SC_f0, SC_f1, SC_f2, SC_f3, SC_f4, SC_f5, SC_f6, SC_a1, SC_a2, SC_w1, SC_w2, SC_p2, SC_p3, SC_p4, SC_p5, SC_p6, upN_app, upN_two, Nat.zero_ne_one, h0, e8, show ¬ n ≤ p by omega]
      rfl
  · rw [if_neg (fun e => h e.1)]
    simp (disch := first | omega | assumption | exact SC_isO _ _ _ _ | (refine b30 ?_; omega) | (refine nI_inR ?_ ?_ ?_ <;> omega)) only [x106, e106_0, e106_1, e106_2, e106_3, e106_4, e106_5, e106_6, e106_9, e106_10, e106_13, e106_14, e106_17, e106_20, e106_21, e106_24, e106_25, e106_28, e106_29, e106_31, e106_32, e106_33, e106_34, e106_35, e106_37, e106_40, e106_43, e106_44, e106_45, e106_46, e106_47, e106_50, e106_52, e106_53, e106_54, e106_55, e106_56, e106_57, e106_58, e106_61, e106_62, e106_63, e106_66, e106_69, e106_72, e106_73, kv_s, kh_s, kn_s, kc_v, kc_n, Nat.reduceEqDiff, Nat.one_ne_zero, Nat.reduceLT, Nat.reduceLeDiff, Nat.reduceAdd, Nat.reduceSub, Nat.reduceMul, nI_add, nI_leI, nI_ltI, nI_eq, z_eq, z_lt, z_le, z_gt, z_ge, ↓reduceIte, not_true_eq_false, not_false_eq_true, if_true, if_false, SC_isO, SC_f0, SC_f1, SC_f2, SC_f3, SC_f4, SC_f5, SC_f6, SC_a1, SC_a2, SC_w1, SC_w2, SC_p2, SC_p3, SC_p4, SC_p5, SC_p6, upN_app, upN_two, Nat.zero_ne_one, h0, show n ≤ p by omega]
    rfl
end
