-- PART 34: the reference's methods, first
/-- the reference's 58 numbers, of a shop -/
def flat (a : sT) (i : Nat) : Nat :=
  if i < 7 then a 0 i else if i < 12 then a 1 (i - 7) else if i < 18 then a 2 (i - 11) else if i < 24 then a 3 (i - 17)
  else if i < 33 then a (i - 19) 0 else if i = 33 then min (a 13 0) 6
  else if (i - 34) / 4 < min (a 13 0) 6 then a 4 (4 * (min (a 13 0) 6 - 1 - (i - 34) / 4) + (i - 34) % 4) else 0
theorem fl0 (a : sT) (i : Nat) (h : i < 7) : flat a i = a 0 i := if_pos h
theorem fl1 (a : sT) (k : Nat) (h : k < 5) : flat a (7 + k) = a 1 k := by
  unfold flat
  rw [if_neg (by omega), if_pos (by omega), show 7 + k - 7 = k by omega]
theorem fl2 (a : sT) (k : Nat) (h1 : 1 ≤ k) (h : k < 7) : flat a (11 + k) = a 2 k := by
  unfold flat
  rw [if_neg (by omega), if_neg (by omega), if_pos (by omega), show 11 + k - 11 = k by omega]
theorem fl3 (a : sT) (k : Nat) (h1 : 1 ≤ k) (h : k < 7) : flat a (17 + k) = a 3 k := by
  unfold flat
  rw [if_neg (by omega), if_neg (by omega), if_neg (by omega), if_pos (by omega), show 17 + k - 17 = k by omega]
def upN (f : Nat → Nat) (i x : Nat) : Nat → Nat := fun i' => if i' = i then x else f i'
theorem upN_app (f : Nat → Nat) (i x i' : Nat) : upN f i x i' = if i' = i then x else f i' := rfl
theorem u2_nj (a : sT) (k j x k' j' : Nat) (h : k' ≠ k) : u2 a k j x k' j' = a k' j' := if_neg (fun e => h e.1)
theorem fu0 (a : sT) (j x : Nat) (hj : j < 7) : flat (u2 a 0 j x) = upN (flat a) j x := by
  funext i
  rw [upN_app]
  unfold flat
  rw [u2_ne a 0 j x 1 (by omega), u2_ne a 0 j x 2 (by omega), u2_ne a 0 j x 3 (by omega), u2_ne a 0 j x 4 (by omega), u2_ne a 0 j x 13 (by omega)]
  by_cases h : i < 7
  · rw [if_pos h, if_pos h, u2_app]
    simp
  · rw [if_neg h, if_neg h, if_neg (show ¬ i = j by omega)]
    by_cases h2 : i < 20
    · rw [if_pos (show i < 24 by omega), if_pos (show i < 24 by omega)]
    · rw [u2_ne a 0 j x (i - 19) (by omega)]
theorem fu1 (a : sT) (j x : Nat) (hj : j < 5) : flat (u2 a 1 j x) = upN (flat a) (7 + j) x := by
  funext i
  rw [upN_app]
  unfold flat
  rw [u2_ne a 1 j x 0 (by omega), u2_ne a 1 j x 2 (by omega), u2_ne a 1 j x 3 (by omega), u2_ne a 1 j x 4 (by omega), u2_ne a 1 j x 13 (by omega)]
  by_cases h : i < 7
  · rw [if_pos h, if_pos h, if_neg (by omega)]
  · rw [if_neg h, if_neg h]
    by_cases h2 : i < 12
    · rw [if_pos h2, if_pos h2, u2_app]
      by_cases h3 : i = 7 + j
      · rw [if_pos h3, if_pos ⟨rfl, by omega⟩]
      · rw [if_neg h3, if_neg (by omega)]
    · rw [if_neg h2, if_neg h2, if_neg (show ¬ i = 7 + j by omega)]
      by_cases h4 : i < 24
      · rw [if_pos h4, if_pos h4]
      · rw [u2_ne a 1 j x (i - 19) (by omega)]
theorem fu2 (a : sT) (j x : Nat) (h1 : 1 ≤ j) (hj : j < 7) : flat (u2 a 2 j x) = upN (flat a) (11 + j) x := by
  funext i
  rw [upN_app]
  unfold flat
  rw [u2_ne a 2 j x 0 (by omega), u2_ne a 2 j x 1 (by omega), u2_ne a 2 j x 3 (by omega), u2_ne a 2 j x 4 (by omega), u2_ne a 2 j x 13 (by omega)]
  by_cases h : i < 12
  · rw [if_neg (show ¬ i = 11 + j by omega)]
    by_cases h0 : i < 7
    · rw [if_pos h0, if_pos h0]
    · rw [if_neg h0, if_neg h0, if_pos h, if_pos h]
  · rw [if_neg (show ¬ i < 7 by omega), if_neg (show ¬ i < 7 by omega), if_neg h, if_neg h]
    by_cases h2 : i < 18
    · rw [if_pos h2, if_pos h2, u2_app]
      by_cases h3 : i = 11 + j
      · rw [if_pos h3, if_pos ⟨rfl, by omega⟩]
      · rw [if_neg h3, if_neg (by omega)]
    · rw [if_neg h2, if_neg h2, if_neg (show ¬ i = 11 + j by omega)]
      by_cases h4 : i < 24
      · rw [if_pos h4, if_pos h4]
      · rw [u2_ne a 2 j x (i - 19) (by omega)]
theorem fu3 (a : sT) (j x : Nat) (h1 : 1 ≤ j) (hj : j < 7) : flat (u2 a 3 j x) = upN (flat a) (17 + j) x := by
  funext i
  rw [upN_app]
  unfold flat
  rw [u2_ne a 3 j x 0 (by omega), u2_ne a 3 j x 1 (by omega), u2_ne a 3 j x 2 (by omega), u2_ne a 3 j x 4 (by omega), u2_ne a 3 j x 13 (by omega)]
  by_cases h : i < 18
  · rw [if_neg (show ¬ i = 17 + j by omega)]
    by_cases h0 : i < 7
    · rw [if_pos h0, if_pos h0]
    · rw [if_neg h0, if_neg h0]
      by_cases h4 : i < 12
      · rw [if_pos h4, if_pos h4]
      · rw [if_neg h4, if_neg h4, if_pos h, if_pos h]
  · rw [if_neg (show ¬ i < 7 by omega), if_neg (show ¬ i < 7 by omega), if_neg (show ¬ i < 12 by omega), if_neg (show ¬ i < 12 by omega), if_neg h, if_neg h]
    by_cases h2 : i < 24
    · rw [if_pos h2, if_pos h2, u2_app]
      by_cases h3 : i = 17 + j
      · rw [if_pos h3, if_pos ⟨rfl, by omega⟩]
      · rw [if_neg h3, if_neg (by omega)]
    · rw [if_neg h2, if_neg h2, if_neg (show ¬ i = 17 + j by omega), u2_ne a 3 j x (i - 19) (by omega)]
/-- a scalar of the shop, 5 to 12, stands at 24 to 31 -/
theorem fuS (a : sT) (k x : Nat) (h5 : 5 ≤ k) (hk : k < 13) : flat (u2 a k 0 x) = upN (flat a) (19 + k) x := by
  funext i
  rw [upN_app]
  unfold flat
  rw [u2_ne a k 0 x 0 (by omega), u2_ne a k 0 x 1 (by omega), u2_ne a k 0 x 2 (by omega), u2_ne a k 0 x 3 (by omega), u2_ne a k 0 x 4 (by omega), u2_ne a k 0 x 13 (by omega)]
  by_cases h : i = 19 + k
  · subst h
    rw [if_neg (by omega), if_neg (by omega), if_neg (by omega), if_neg (by omega), if_pos (by omega), if_pos rfl, u2_app, if_pos ⟨by omega, rfl⟩]
  · rw [if_neg h]
    by_cases h4 : i < 24
    · (repeat' split) <;> first | rfl | omega
    · rw [u2_ne a k 0 x (i - 19) (by omega)]
theorem rt117_0 : pi_rt pm_Mo_in (nI 0) = true := by decide +kernel
theorem rt117_1 : pi_rt pm_Mo_in (nI 1) = true := by decide +kernel
theorem m117i {x lo hi : Int32} (h : inR x lo hi) (H : pi_H) : ex 117 [.int x, .int lo, .int hi] H = some (some (.int (nI 1)), H) := by
  have := rt117_1
  have h1 : ¬ x < lo := by unfold inR at h; grind
  have h2 : ¬ hi < x := by unfold inR at h; grind
  have h3 : x ≤ hi := h.2
  have h4 : lo ≤ x := h.1
  simp (disch := first | omega | assumption | exact MO_isO _ _ _ _ | (refine b30 ?_; omega) | (refine nI_inR ?_ ?_ ?_ <;> omega)) only [x117, e117_0, e117_1, e117_2, e117_5, e117_6, e117_7, e117_10, e117_11, e117_14, e117_15, Nat.reduceEqDiff, Nat.one_ne_zero, Nat.reduceLT, Nat.reduceLeDiff, Nat.reduceAdd, Nat.reduceSub, Nat.reduceMul, nI_add, nI_leI, nI_ltI, nI_eq, z_eq, z_lt, z_le, z_gt, z_ge, ↓reduceIte, not_true_eq_false, not_false_eq_true, if_true, if_false, kv_s, kh_s, kn_s, kc_v, kc_n, h1, h2, h3, h4, not_true_eq_false, not_false_eq_true, if_true, if_false]
theorem m117o {x lo hi : Int32} (h : ¬ inR x lo hi) (H : pi_H) : ex 117 [.int x, .int lo, .int hi] H = some (some (.int (nI 0)), H) := by
  have := rt117_0
  by_cases h1 : x < lo
  · simp (disch := first | omega | assumption | exact MO_isO _ _ _ _ | (refine b30 ?_; omega) | (refine nI_inR ?_ ?_ ?_ <;> omega)) only [x117, e117_0, e117_1, e117_2, e117_5, e117_6, e117_7, e117_10, e117_11, e117_14, e117_15, Nat.reduceEqDiff, Nat.one_ne_zero, Nat.reduceLT, Nat.reduceLeDiff, Nat.reduceAdd, Nat.reduceSub, Nat.reduceMul, nI_add, nI_leI, nI_ltI, nI_eq, z_eq, z_lt, z_le, z_gt, z_ge, ↓reduceIte, not_true_eq_false, not_false_eq_true, if_true, if_false, kv_s, kh_s, kn_s, kc_v, kc_n, h1, if_true]
  · have h2 : hi < x := by unfold inR at h; grind
    have h3 : ¬ x ≤ hi := by grind
    simp (disch := first | omega | assumption | exact MO_isO _ _ _ _ | (refine b30 ?_; omega) | (refine nI_inR ?_ ?_ ?_ <;> omega)) only [x117, e117_0, e117_1, e117_2, e117_5, e117_6, e117_7, e117_10, e117_11, e117_14, e117_15, Nat.reduceEqDiff, Nat.one_ne_zero, Nat.reduceLT, Nat.reduceLeDiff, Nat.reduceAdd, Nat.reduceSub, Nat.reduceMul, nI_add, nI_leI, nI_ltI, nI_eq, z_eq, z_lt, z_le, z_gt, z_ge, ↓reduceIte, not_true_eq_false, not_false_eq_true, if_true, if_false, kv_s, kh_s, kn_s, kc_v, kc_n, h1, h2, h3, if_true, if_false]
section
variable (H : pi_H) (ι : sT) (z : jT) (κ : kT)
theorem m118 : ex 118 [.ref 77] (MO H ι z κ) = some (some (.int (nI (ι 0 0 + ι 0 1 + ι 0 2 + ι 0 3 + ι 0 4 + ι 0 5 + ι 0 6))), MO H ι z κ) := by
  simp (disch := first | omega | assumption | exact MO_isO _ _ _ _ | (refine b30 ?_; omega) | (refine nI_inR ?_ ?_ ?_ <;> omega)) only [x118, e118_0, e118_1, e118_2, e118_3, e118_4, e118_5, e118_7, e118_10, e118_11, e118_12, e118_15, e118_16, e118_17, e118_18, e118_19, e118_20, e118_21, e118_24, e118_27, e118_28, Nat.reduceEqDiff, Nat.one_ne_zero, Nat.reduceLT, Nat.reduceLeDiff, Nat.reduceAdd, Nat.reduceSub, Nat.reduceMul, nI_add, nI_leI, nI_ltI, nI_eq, z_eq, z_lt, z_le, z_gt, z_ge, ↓reduceIte, not_true_eq_false, not_false_eq_true, if_true, if_false, kv_s, kh_s, kn_s, kc_v, kc_n, MO_isO, MO_f0, MO_f1, MO_f2, MO_f3, MO_f4, MO_f5, MO_f6, MO_f7, MO_f8, MO_f9, MO_f10, MO_f11, MO_f12, MO_f13, MO_f14, MO_i0, MO_i1, MO_i2, MO_i3, MO_i4, MO_i5, MO_j0, MO_j1, MO_j2, MO_j3, Nat.zero_add]
/-- the numbers at the begin of an act -/
def bgn (ι : sT) (n : Nat) : sT := u1 ι 1 (fun i => if i < n then ι 0 i else ι 1 i)
theorem bgn_0 : bgn ι 0 = ι := by
  funext k j
  unfold bgn u1
  split
  · rename_i h
    subst h
    simp
  · rfl
theorem bgn_s (n : Nat) : u2 (bgn ι n) 1 n (ι 0 n) = bgn ι (n + 1) := by
  funext k j
  rw [u2_app]
  unfold bgn
  by_cases hk : k = 1
  · subst hk
    rw [u1_s, u1_s]
    by_cases hj : j = n
    · rw [if_pos ⟨rfl, hj⟩, if_pos (by omega), hj]
    · rw [if_neg (by omega)]
      by_cases h : j < n
      · rw [if_pos h, if_pos (by omega)]
      · rw [if_neg h, if_neg (by omega)]
  · rw [if_neg (by omega), u1_n _ _ _ _ hk, u1_n _ _ _ _ hk]
theorem bgn_n (n k : Nat) (h : ¬ k = 1) : bgn ι n k = ι k := by
  unfold bgn
  rw [u1_n _ _ _ _ h]
theorem m115 : ex 115 [.ref 77] (MO H ι z κ) = some (none, MO H (bgn ι 58) z κ) := by
  have h := ev_loop (fun n => ev 115 2 [some (.ref 77), some (.int (nI n))] [] (MO H (bgn ι n) z κ)) 58 (fun n hn => by
    have e := bgn_s ι n
    have e0 := bgn_n ι n 0 (by omega)
    rw [← e, e115_2]
    simp (disch := first | omega | assumption | exact MO_isO _ _ _ _ | (refine b30 ?_; omega) | (refine nI_inR ?_ ?_ ?_ <;> omega)) only [x115, e115_0, e115_1, e115_3, e115_5, e115_8, e115_9, e115_12, e115_13, e115_14, e115_17, e115_18, e115_19, e115_20, e115_23, e115_26, Nat.reduceEqDiff, Nat.one_ne_zero, Nat.reduceLT, Nat.reduceLeDiff, Nat.reduceAdd, Nat.reduceSub, Nat.reduceMul, nI_add, nI_leI, nI_ltI, nI_eq, z_eq, z_lt, z_le, z_gt, z_ge, ↓reduceIte, not_true_eq_false, not_false_eq_true, if_true, if_false, kv_s, kh_s, kn_s, kc_v, kc_n, MO_isO, MO_f0, MO_f1, MO_f2, MO_f3, MO_f4, MO_f5, MO_f6, MO_f7, MO_f8, MO_f9, MO_f10, MO_f11, MO_f12, MO_f13, MO_f14, MO_i0, MO_i1, MO_i2, MO_i3, MO_i4, MO_i5, MO_j0, MO_j1, MO_j2, MO_j3, MO_wi0, MO_wi1, MO_wi2, MO_wi3, MO_wi4, MO_wi5, MO_wj0, MO_wj1, MO_wj2, MO_wj3, MO_k0, MO_k1, MO_k2, MO_k3, MO_k4, show ¬ 58 ≤ n by omega, e0])
  rw [bgn_0] at h
  have h0 : ex 115 [.ref 77] (MO H ι z κ) = ev 115 2 [some (.ref 77), some (.int (nI 0))] [] (MO H ι z κ) := by
    simp (disch := first | omega | assumption | exact MO_isO _ _ _ _ | (refine b30 ?_; omega) | (refine nI_inR ?_ ?_ ?_ <;> omega)) only [x115, e115_0, e115_1, e115_3, e115_5, e115_8, e115_9, e115_12, e115_13, e115_14, e115_17, e115_18, e115_19, e115_20, e115_23, e115_26]
  rw [h0, h, e115_2]
  simp (disch := first | omega | assumption | exact MO_isO _ _ _ _ | (refine b30 ?_; omega) | (refine nI_inR ?_ ?_ ?_ <;> omega)) only [x115, e115_0, e115_1, e115_3, e115_5, e115_8, e115_9, e115_12, e115_13, e115_14, e115_17, e115_18, e115_19, e115_20, e115_23, e115_26, Nat.reduceEqDiff, Nat.one_ne_zero, Nat.reduceLT, Nat.reduceLeDiff, Nat.reduceAdd, Nat.reduceSub, Nat.reduceMul, nI_add, nI_leI, nI_ltI, nI_eq, z_eq, z_lt, z_le, z_gt, z_ge, ↓reduceIte, not_true_eq_false, not_false_eq_true, if_true, if_false, kv_s, kh_s, kn_s, kc_v, kc_n]
/-- the numbers come back from those at the begin -/
def rtn (ι : sT) (n : Nat) : sT := u1 ι 0 (fun i => if i < n then ι 1 i else ι 0 i)
theorem rtn_0 : rtn ι 0 = ι := by
  funext k j
  unfold rtn u1
  split
  · rename_i h
    subst h
    simp
  · rfl
theorem rtn_s (n : Nat) : u2 (rtn ι n) 0 n (ι 1 n) = rtn ι (n + 1) := by
  funext k j
  rw [u2_app]
  unfold rtn
  by_cases hk : k = 0
  · subst hk
    rw [u1_s, u1_s]
    by_cases hj : j = n
    · rw [if_pos ⟨rfl, hj⟩, if_pos (by omega), hj]
    · rw [if_neg (by omega)]
      by_cases h : j < n
      · rw [if_pos h, if_pos (by omega)]
      · rw [if_neg h, if_neg (by omega)]
  · rw [if_neg (by omega), u1_n _ _ _ _ hk, u1_n _ _ _ _ hk]
theorem rtn_n (n k : Nat) (h : ¬ k = 0) : rtn ι n k = ι k := by
  unfold rtn
  rw [u1_n _ _ _ _ h]
theorem m168 : ex 168 [.ref 77] (MO H ι z κ) = some (none, MO H (rtn ι 58) z κ) := by
  have h := ev_loop (fun n => ev 168 2 [some (.ref 77), some (.int (nI n))] [] (MO H (rtn ι n) z κ)) 58 (fun n hn => by
    have e := rtn_s ι n
    have e0 := rtn_n ι n 1 (by omega)
    rw [← e, e168_2]
    simp (disch := first | omega | assumption | exact MO_isO _ _ _ _ | (refine b30 ?_; omega) | (refine nI_inR ?_ ?_ ?_ <;> omega)) only [x168, e168_0, e168_1, e168_3, e168_5, e168_8, e168_9, e168_12, e168_13, e168_14, e168_17, e168_18, e168_19, e168_20, e168_23, e168_26, Nat.reduceEqDiff, Nat.one_ne_zero, Nat.reduceLT, Nat.reduceLeDiff, Nat.reduceAdd, Nat.reduceSub, Nat.reduceMul, nI_add, nI_leI, nI_ltI, nI_eq, z_eq, z_lt, z_le, z_gt, z_ge, ↓reduceIte, not_true_eq_false, not_false_eq_true, if_true, if_false, kv_s, kh_s, kn_s, kc_v, kc_n, MO_isO, MO_f0, MO_f1, MO_f2, MO_f3, MO_f4, MO_f5, MO_f6, MO_f7, MO_f8, MO_f9, MO_f10, MO_f11, MO_f12, MO_f13, MO_f14, MO_i0, MO_i1, MO_i2, MO_i3, MO_i4, MO_i5, MO_j0, MO_j1, MO_j2, MO_j3, MO_wi0, MO_wi1, MO_wi2, MO_wi3, MO_wi4, MO_wi5, MO_wj0, MO_wj1, MO_wj2, MO_wj3, MO_k0, MO_k1, MO_k2, MO_k3, MO_k4, show ¬ 58 ≤ n by omega, e0])
  rw [rtn_0] at h
  have h0 : ex 168 [.ref 77] (MO H ι z κ) = ev 168 2 [some (.ref 77), some (.int (nI 0))] [] (MO H ι z κ) := by
    simp (disch := first | omega | assumption | exact MO_isO _ _ _ _ | (refine b30 ?_; omega) | (refine nI_inR ?_ ?_ ?_ <;> omega)) only [x168, e168_0, e168_1, e168_3, e168_5, e168_8, e168_9, e168_12, e168_13, e168_14, e168_17, e168_18, e168_19, e168_20, e168_23, e168_26]
  rw [h0, h, e168_2]
  simp (disch := first | omega | assumption | exact MO_isO _ _ _ _ | (refine b30 ?_; omega) | (refine nI_inR ?_ ?_ ?_ <;> omega)) only [x168, e168_0, e168_1, e168_3, e168_5, e168_8, e168_9, e168_12, e168_13, e168_14, e168_17, e168_18, e168_19, e168_20, e168_23, e168_26, Nat.reduceEqDiff, Nat.one_ne_zero, Nat.reduceLT, Nat.reduceLeDiff, Nat.reduceAdd, Nat.reduceSub, Nat.reduceMul, nI_add, nI_leI, nI_ltI, nI_eq, z_eq, z_lt, z_le, z_gt, z_ge, ↓reduceIte, not_true_eq_false, not_false_eq_true, if_true, if_false, kv_s, kh_s, kn_s, kc_v, kc_n]
theorem m116 (a : sT) (hs : ι 0 = flat a) (ha : wsum a ≤ 12) (d w : Nat) (hd : d ≤ 6) (hw : w ≤ 9) : ex 116 [.ref 77, .int (nI d), .int (nI w)] (MO H ι z κ) = some (some (.int (m_weigh a d w).1), MO H (u1 ι 0 (flat (m_weigh a d w).2)) z κ) := by
  have h1 := wsum_ge a d hd
  have hf : flat a d = a 0 d := fl0 a d (by omega)
  have hu : ∀ x, u2 ι 0 d x = u1 ι 0 (flat (u2 a 0 d x)) := by
    intro x
    rw [fu0 a d x (by omega), ← hs]
    funext k j
    rw [u2_app]
    by_cases hk : k = 0
    · subst hk
      rw [u1_s]
      unfold upN
      simp
    · rw [if_neg (by omega), u1_n _ _ _ _ hk]
  have hi : u1 ι 0 (flat a) = ι := by
    funext k j
    unfold u1
    split
    · rename_i h
      rw [h, hs]
    · rfl
  have h18 := m118 H ι z κ
  rw [hs, fl0 a 0 (by omega), fl0 a 1 (by omega), fl0 a 2 (by omega), fl0 a 3 (by omega), fl0 a 4 (by omega), fl0 a 5 (by omega), fl0 a 6 (by omega)] at h18
  have h18' : ex 118 [.ref 77] (MO H ι z κ) = some (some (.int (nI (wsum a))), MO H ι z κ) := h18
  simp (disch := first | omega | assumption | exact MO_isO _ _ _ _ | (refine b30 ?_; omega) | (refine nI_inR ?_ ?_ ?_ <;> omega)) only [x116, e116_0, e116_1, e116_2, e116_4, e116_7, e116_10, e116_11, e116_12, e116_14, e116_17, e116_20, e116_22, e116_23, e116_24, e116_27, e116_28, e116_31, e116_32, e116_33, e116_34, e116_35, e116_36, e116_37, e116_38, e116_39, e116_40, e116_43, e116_45, e116_46, e116_47, e116_49, e116_52, e116_54, e116_55, e116_56, e116_59, e116_60, e116_61, e116_62, e116_63, e116_64, e116_65, Nat.reduceEqDiff, Nat.one_ne_zero, Nat.reduceLT, Nat.reduceLeDiff, Nat.reduceAdd, Nat.reduceSub, Nat.reduceMul, nI_add, nI_leI, nI_ltI, nI_eq, z_eq, z_lt, z_le, z_gt, z_ge, ↓reduceIte, not_true_eq_false, not_false_eq_true, if_true, if_false, kv_s, kh_s, kn_s, kc_v, kc_n, MO_isO, MO_f0, MO_f1, MO_f2, MO_f3, MO_f4, MO_f5, MO_f6, MO_f7, MO_f8, MO_f9, MO_f10, MO_f11, MO_f12, MO_f13, MO_f14, MO_i0, MO_i1, MO_i2, MO_i3, MO_i4, MO_i5, MO_j0, MO_j1, MO_j2, MO_j3, MO_wi0, MO_wi1, MO_wi2, MO_wi3, MO_wi4, MO_wi5, MO_wj0, MO_wj1, MO_wj2, MO_wj3, MO_k0, MO_k1, MO_k2, MO_k3, MO_k4, m117i, h18', hs, hf, pk_sub, Nat.zero_add]
  unfold m_weigh
  (repeat' split) <;> first | (rw [hi]; done) | (rw [hu]; done) | rfl | (exfalso; omega)
end
