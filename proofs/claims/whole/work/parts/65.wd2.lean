-- PART 65: the whole heap, second: changes
def nwF (v : Int32) (nw : Nat) : Nat := if v < 0 then nw else (nw + 1) % 4
def szF (v : Int32) (sz : Nat) : Nat := if v < 0 then sz else min (sz + 1) 4
def rF (v : Int32) (nw : Nat) (r : Nat → sT) (c : sT) : Nat → sT := if v < 0 then r else upr r ((nw + 1) % 4) c
section
variable (B : pi_H) (a b : sT) (nw sz : Nat) (r : Nat → sT) (μ : lT) (β : bT) (fl fh : Int32) (fc : Int64) (τ ν σ : Nat → Nat) (ι : sT) (z : jT) (κ : kT)
theorem w71 (h7 : a 7 0 ≤ 1) : ex 6 [.ref 7, .ref 1] (Wd B a b nw sz r μ β fl fh fc τ ν σ ι z κ) = some (none, Wd B a a nw sz r μ β fl fh fc τ ν σ ι z κ) := by
  have h := s6 7 1 (by omega) (by omega) (by omega) b a h7 (Wd B a b nw sz r μ β fl fh fc τ ν σ ι z κ)
  rw [W_1, W_7, W_7] at h
  exact h
theorem w17 (h7 : b 7 0 ≤ 1) : ex 6 [.ref 1, .ref 7] (Wd B a b nw sz r μ β fl fh fc τ ν σ ι z κ) = some (none, Wd B b b nw sz r μ β fl fh fc τ ν σ ι z κ) := by
  have h := s6 1 7 (by omega) (by omega) (by omega) a b h7 (Wd B a b nw sz r μ β fl fh fc τ ν σ ι z κ)
  rw [W_7, W_1, W_1] at h
  exact h
theorem wR7 (i : Nat) (hi : i < 4) (h7 : b 7 0 ≤ 1) : ex 6 [.ref (15 + 6 * i), .ref 7] (Wd B a b nw sz r μ β fl fh fc τ ν σ ι z κ) = some (none, Wd B a b nw sz (upr r i b) μ β fl fh fc τ ν σ ι z κ) := by
  have h := s6 (15 + 6 * i) 7 (by omega) (by omega) (by omega) (r i) b h7 (Wd B a b nw sz r μ β fl fh fc τ ν σ ι z κ)
  rw [W_7, W_Ri _ _ _ _ _ _ _ _ _ _ _ _ _ _ _ _ _ _ hi, W_Ri _ _ _ _ _ _ _ _ _ _ _ _ _ _ _ _ _ _ hi, upr_id] at h
  exact h
theorem wR1 (i : Nat) (hi : i < 4) (h7 : a 7 0 ≤ 1) : ex 6 [.ref (15 + 6 * i), .ref 1] (Wd B a b nw sz r μ β fl fh fc τ ν σ ι z κ) = some (none, Wd B a b nw sz (upr r i a) μ β fl fh fc τ ν σ ι z κ) := by
  have h := s6 (15 + 6 * i) 1 (by omega) (by omega) (by omega) (r i) a h7 (Wd B a b nw sz r μ β fl fh fc τ ν σ ι z κ)
  rw [W_1, W_Ri _ _ _ _ _ _ _ _ _ _ _ _ _ _ _ _ _ _ hi, W_Ri _ _ _ _ _ _ _ _ _ _ _ _ _ _ _ _ _ _ hi, upr_id] at h
  exact h
theorem w1R (i : Nat) (hi : i < 4) (h7 : r i 7 0 ≤ 1) : ex 6 [.ref 1, .ref (15 + 6 * i)] (Wd B a b nw sz r μ β fl fh fc τ ν σ ι z κ) = some (none, Wd B (r i) b nw sz r μ β fl fh fc τ ν σ ι z κ) := by
  have h := s6 1 (15 + 6 * i) (by omega) (by omega) (by omega) a (r i) h7 (Wd B a b nw sz r μ β fl fh fc τ ν σ ι z κ)
  rw [W_Ri _ _ _ _ _ _ _ _ _ _ _ _ _ _ _ _ _ _ hi, upr_id, W_1, W_1] at h
  exact h
theorem s11_7 (hnw : nw < 4) (hsz : sz ≤ 4) (h7 : b 7 0 ≤ 1) : ex 11 [.ref 13, .ref 7] (Wd B a b nw sz r μ β fl fh fc τ ν σ ι z κ) = some (none, Wd B a b ((nw + 1) % 4) (min (sz + 1) 4) (upr r ((nw + 1) % 4) b) μ β fl fh fc τ ν σ ι z κ) := by
  have h4 : ¬ nI 4 = 0 := by decide
  have hi : (nw + 1) % 4 < 4 := Nat.mod_lt _ (by omega)
  have e6 := wR7 B a b ((nw + 1) % 4) sz r μ β fl fh fc τ ν σ ι z κ ((nw + 1) % 4) hi h7
  simp (disch := first | omega | assumption | (apply W_i1; done) | (apply W_i7; done) | (apply W_i13; done) | (apply W_i39; done) | (apply W_i74; done) | (apply W_i77; done) | (apply W_i0; assumption) | (apply W_iR; omega) | (refine b30 ?_; omega) | (refine nI_inR ?_ ?_ ?_ <;> omega)) only [x11, e11_0, e11_1, e11_2, e11_5, e11_6, e11_7, e11_8, e11_9, e11_12, e11_13, e11_16, e11_17, e11_20, e11_21, e11_22, e11_25, e11_26, e11_27, e11_30, e11_31, e11_32, e11_33, e11_36, e11_39, kv_s, kh_s, kn_s, kc_v, kc_n, Nat.reduceEqDiff, Nat.one_ne_zero, Nat.reduceLT, Nat.reduceLeDiff, Nat.reduceAdd, Nat.reduceSub, Nat.reduceMul, nI_add, nI_leI, nI_ltI, nI_eq, z_eq, z_lt, z_le, z_gt, z_ge, ↓reduceIte, not_true_eq_false, not_false_eq_true, if_true, if_false, W_h0, W_h1, W_h2, W_hr, W_o0, W_o1, W_o2, W_o3, W_o4, W_p1, W_p2, pk_rem, e6, s12]
theorem s11_1 (hnw : nw < 4) (hsz : sz ≤ 4) (h7 : a 7 0 ≤ 1) : ex 11 [.ref 13, .ref 1] (Wd B a b nw sz r μ β fl fh fc τ ν σ ι z κ) = some (none, Wd B a b ((nw + 1) % 4) (min (sz + 1) 4) (upr r ((nw + 1) % 4) a) μ β fl fh fc τ ν σ ι z κ) := by
  have h4 : ¬ nI 4 = 0 := by decide
  have hi : (nw + 1) % 4 < 4 := Nat.mod_lt _ (by omega)
  have e6 := wR1 B a b ((nw + 1) % 4) sz r μ β fl fh fc τ ν σ ι z κ ((nw + 1) % 4) hi h7
  simp (disch := first | omega | assumption | (apply W_i1; done) | (apply W_i7; done) | (apply W_i13; done) | (apply W_i39; done) | (apply W_i74; done) | (apply W_i77; done) | (apply W_i0; assumption) | (apply W_iR; omega) | (refine b30 ?_; omega) | (refine nI_inR ?_ ?_ ?_ <;> omega)) only [x11, e11_0, e11_1, e11_2, e11_5, e11_6, e11_7, e11_8, e11_9, e11_12, e11_13, e11_16, e11_17, e11_20, e11_21, e11_22, e11_25, e11_26, e11_27, e11_30, e11_31, e11_32, e11_33, e11_36, e11_39, kv_s, kh_s, kn_s, kc_v, kc_n, Nat.reduceEqDiff, Nat.one_ne_zero, Nat.reduceLT, Nat.reduceLeDiff, Nat.reduceAdd, Nat.reduceSub, Nat.reduceMul, nI_add, nI_leI, nI_ltI, nI_eq, z_eq, z_lt, z_le, z_gt, z_ge, ↓reduceIte, not_true_eq_false, not_false_eq_true, if_true, if_false, W_h0, W_h1, W_h2, W_hr, W_o0, W_o1, W_o2, W_o3, W_o4, W_p1, W_p2, pk_rem, e6, s12]
theorem s10 (hB : olok B) (hnw : nw < 4) (hsz : sz ≤ 4) (h7 : b 7 0 ≤ 1) (v : Int32) : ex 10 [.ref 0, .int v] (Wd B a b nw sz r μ β fl fh fc τ ν σ ι z κ) = some (some (.int v), Wd B a b (nwF v nw) (szF v sz) (rF v nw r b) μ β fl fh fc τ ν σ ι z κ) := by
  have e11 := s11_7 B a b nw sz r μ β fl fh fc τ ν σ ι z κ hnw hsz h7
  unfold nwF szF rF
  by_cases h : v < 0
  · simp (disch := first | omega | assumption | (apply W_i1; done) | (apply W_i7; done) | (apply W_i13; done) | (apply W_i39; done) | (apply W_i74; done) | (apply W_i77; done) | (apply W_i0; assumption) | (apply W_iR; omega) | (refine b30 ?_; omega) | (refine nI_inR ?_ ?_ ?_ <;> omega)) only [x10, e10_0, e10_1, e10_4, e10_5, e10_8, e10_9, e10_12, e10_15, e10_16, kv_s, kh_s, kn_s, kc_v, kc_n, h, if_true]
  · simp (disch := first | omega | assumption | (apply W_i1; done) | (apply W_i7; done) | (apply W_i13; done) | (apply W_i39; done) | (apply W_i74; done) | (apply W_i77; done) | (apply W_i0; assumption) | (apply W_iR; omega) | (refine b30 ?_; omega) | (refine nI_inR ?_ ?_ ?_ <;> omega)) only [x10, e10_0, e10_1, e10_4, e10_5, e10_8, e10_9, e10_12, e10_15, e10_16, kv_s, kh_s, kn_s, kc_v, kc_n, W_h0, W_h1, W_h2, W_hr, W_o0, W_o1, W_o2, W_o3, W_o4, W_p1, W_p2, e11, h, if_false]
end
section
variable (B : pi_H) (hB : olok B) (a b : sT) (h7 : a 7 0 ≤ 1) (nw sz : Nat) (hnw : nw < 4) (hsz : sz ≤ 4) (r : Nat → sT) (μ : lT) (β : bT) (fl fh : Int32) (fc : Int64) (τ ν σ : Nat → Nat) (ι : sT) (z : jT) (κ : kT) (R : Int32 × sT)
theorem c5 (hB : olok B) (h7 : a 7 0 ≤ 1) (hnw : nw < 4) (hsz : sz ≤ 4) (x y : Int32) (e : ex 7 [.ref 1, .int x, .int y] (Wd B a a nw sz r μ β fl fh fc τ ν σ ι z κ) = some (some (.int R.1), Wd B R.2 a nw sz r μ β fl fh fc τ ν σ ι z κ)) : ex 5 [.ref 0, .int x, .int y] (Wd B a b nw sz r μ β fl fh fc τ ν σ ι z κ) = some (some (.int R.1), Wd B R.2 a (nwF R.1 nw) (szF R.1 sz) (rF R.1 nw r a) μ β fl fh fc τ ν σ ι z κ) := by
  have e6 := w71 B a b nw sz r μ β fl fh fc τ ν σ ι z κ h7
  have e10 := s10 B R.2 a nw sz r μ β fl fh fc τ ν σ ι z κ hB hnw hsz h7 R.1
  simp (disch := first | omega | assumption | (apply W_i1; done) | (apply W_i7; done) | (apply W_i13; done) | (apply W_i39; done) | (apply W_i74; done) | (apply W_i77; done) | (apply W_i0; assumption) | (apply W_iR; omega) | (refine b30 ?_; omega) | (refine nI_inR ?_ ?_ ?_ <;> omega)) only [x5, e5_0, e5_1, e5_4, e5_5, e5_8, e5_11, e5_12, e5_13, e5_16, e5_17, e5_18, e5_21, e5_24, kv_s, kh_s, kn_s, kc_v, kc_n, W_h0, W_h1, W_h2, W_hr, W_o0, W_o1, W_o2, W_o3, W_o4, W_p1, W_p2, e6, e, e10]
theorem c13 (hB : olok B) (h7 : a 7 0 ≤ 1) (hnw : nw < 4) (hsz : sz ≤ 4) (x y : Int32) (e : ex 14 [.ref 1, .int x, .int y] (Wd B a a nw sz r μ β fl fh fc τ ν σ ι z κ) = some (some (.int R.1), Wd B R.2 a nw sz r μ β fl fh fc τ ν σ ι z κ)) : ex 13 [.ref 0, .int x, .int y] (Wd B a b nw sz r μ β fl fh fc τ ν σ ι z κ) = some (some (.int R.1), Wd B R.2 a (nwF R.1 nw) (szF R.1 sz) (rF R.1 nw r a) μ β fl fh fc τ ν σ ι z κ) := by
  have e6 := w71 B a b nw sz r μ β fl fh fc τ ν σ ι z κ h7
  have e10 := s10 B R.2 a nw sz r μ β fl fh fc τ ν σ ι z κ hB hnw hsz h7 R.1
  simp (disch := first | omega | assumption | (apply W_i1; done) | (apply W_i7; done) | (apply W_i13; done) | (apply W_i39; done) | (apply W_i74; done) | (apply W_i77; done) | (apply W_i0; assumption) | (apply W_iR; omega) | (refine b30 ?_; omega) | (refine nI_inR ?_ ?_ ?_ <;> omega)) only [x13, e13_0, e13_1, e13_4, e13_5, e13_8, e13_11, e13_12, e13_13, e13_16, e13_17, e13_18, e13_21, e13_24, kv_s, kh_s, kn_s, kc_v, kc_n, W_h0, W_h1, W_h2, W_hr, W_o0, W_o1, W_o2, W_o3, W_o4, W_p1, W_p2, e6, e, e10]
theorem c15 (hB : olok B) (h7 : a 7 0 ≤ 1) (hnw : nw < 4) (hsz : sz ≤ 4) (x y w : Int32) (e : ex 16 [.ref 1, .int x, .int y, .int w] (Wd B a a nw sz r μ β fl fh fc τ ν σ ι z κ) = some (some (.int R.1), Wd B R.2 a nw sz r μ β fl fh fc τ ν σ ι z κ)) : ex 15 [.ref 0, .int x, .int y, .int w] (Wd B a b nw sz r μ β fl fh fc τ ν σ ι z κ) = some (some (.int R.1), Wd B R.2 a (nwF R.1 nw) (szF R.1 sz) (rF R.1 nw r a) μ β fl fh fc τ ν σ ι z κ) := by
  have e6 := w71 B a b nw sz r μ β fl fh fc τ ν σ ι z κ h7
  have e10 := s10 B R.2 a nw sz r μ β fl fh fc τ ν σ ι z κ hB hnw hsz h7 R.1
  simp (disch := first | omega | assumption | (apply W_i1; done) | (apply W_i7; done) | (apply W_i13; done) | (apply W_i39; done) | (apply W_i74; done) | (apply W_i77; done) | (apply W_i0; assumption) | (apply W_iR; omega) | (refine b30 ?_; omega) | (refine nI_inR ?_ ?_ ?_ <;> omega)) only [x15, e15_0, e15_1, e15_4, e15_5, e15_8, e15_11, e15_12, e15_13, e15_16, e15_17, e15_18, e15_19, e15_22, e15_25, kv_s, kh_s, kn_s, kc_v, kc_n, W_h0, W_h1, W_h2, W_hr, W_o0, W_o1, W_o2, W_o3, W_o4, W_p1, W_p2, e6, e, e10]
theorem c19 (hB : olok B) (h7 : a 7 0 ≤ 1) (hnw : nw < 4) (hsz : sz ≤ 4) (x y : Int32) (e : ex 20 [.ref 1, .int x, .int y] (Wd B a a nw sz r μ β fl fh fc τ ν σ ι z κ) = some (some (.int R.1), Wd B R.2 a nw sz r μ β fl fh fc τ ν σ ι z κ)) : ex 19 [.ref 0, .int x, .int y] (Wd B a b nw sz r μ β fl fh fc τ ν σ ι z κ) = some (some (.int R.1), Wd B R.2 a (nwF R.1 nw) (szF R.1 sz) (rF R.1 nw r a) μ β fl fh fc τ ν σ ι z κ) := by
  have e6 := w71 B a b nw sz r μ β fl fh fc τ ν σ ι z κ h7
  have e10 := s10 B R.2 a nw sz r μ β fl fh fc τ ν σ ι z κ hB hnw hsz h7 R.1
  simp (disch := first | omega | assumption | (apply W_i1; done) | (apply W_i7; done) | (apply W_i13; done) | (apply W_i39; done) | (apply W_i74; done) | (apply W_i77; done) | (apply W_i0; assumption) | (apply W_iR; omega) | (refine b30 ?_; omega) | (refine nI_inR ?_ ?_ ?_ <;> omega)) only [x19, e19_0, e19_1, e19_4, e19_5, e19_8, e19_11, e19_12, e19_13, e19_16, e19_17, e19_18, e19_21, e19_24, kv_s, kh_s, kn_s, kc_v, kc_n, W_h0, W_h1, W_h2, W_hr, W_o0, W_o1, W_o2, W_o3, W_o4, W_p1, W_p2, e6, e, e10]
theorem c21 (hB : olok B) (h7 : a 7 0 ≤ 1) (hnw : nw < 4) (hsz : sz ≤ 4) (x : Int32) (e : ex 22 [.ref 1, .int x] (Wd B a a nw sz r μ β fl fh fc τ ν σ ι z κ) = some (some (.int R.1), Wd B R.2 a nw sz r μ β fl fh fc τ ν σ ι z κ)) : ex 21 [.ref 0, .int x] (Wd B a b nw sz r μ β fl fh fc τ ν σ ι z κ) = some (some (.int R.1), Wd B R.2 a (nwF R.1 nw) (szF R.1 sz) (rF R.1 nw r a) μ β fl fh fc τ ν σ ι z κ) := by
  have e6 := w71 B a b nw sz r μ β fl fh fc τ ν σ ι z κ h7
  have e10 := s10 B R.2 a nw sz r μ β fl fh fc τ ν σ ι z κ hB hnw hsz h7 R.1
  simp (disch := first | omega | assumption | (apply W_i1; done) | (apply W_i7; done) | (apply W_i13; done) | (apply W_i39; done) | (apply W_i74; done) | (apply W_i77; done) | (apply W_i0; assumption) | (apply W_iR; omega) | (refine b30 ?_; omega) | (refine nI_inR ?_ ?_ ?_ <;> omega)) only [x21, e21_0, e21_1, e21_4, e21_5, e21_8, e21_11, e21_12, e21_13, e21_16, e21_17, e21_20, e21_23, kv_s, kh_s, kn_s, kc_v, kc_n, W_h0, W_h1, W_h2, W_hr, W_o0, W_o1, W_o2, W_o3, W_o4, W_p1, W_p2, e6, e, e10]
theorem c24 (hB : olok B) (h7 : a 7 0 ≤ 1) (hnw : nw < 4) (hsz : sz ≤ 4) (e : ex 25 [.ref 1] (Wd B a a nw sz r μ β fl fh fc τ ν σ ι z κ) = some (some (.int R.1), Wd B R.2 a nw sz r μ β fl fh fc τ ν σ ι z κ)) : ex 24 [.ref 0] (Wd B a b nw sz r μ β fl fh fc τ ν σ ι z κ) = some (some (.int R.1), Wd B R.2 a (nwF R.1 nw) (szF R.1 sz) (rF R.1 nw r a) μ β fl fh fc τ ν σ ι z κ) := by
  have e6 := w71 B a b nw sz r μ β fl fh fc τ ν σ ι z κ h7
  have e10 := s10 B R.2 a nw sz r μ β fl fh fc τ ν σ ι z κ hB hnw hsz h7 R.1
  simp (disch := first | omega | assumption | (apply W_i1; done) | (apply W_i7; done) | (apply W_i13; done) | (apply W_i39; done) | (apply W_i74; done) | (apply W_i77; done) | (apply W_i0; assumption) | (apply W_iR; omega) | (refine b30 ?_; omega) | (refine nI_inR ?_ ?_ ?_ <;> omega)) only [x24, e24_0, e24_1, e24_4, e24_5, e24_8, e24_11, e24_12, e24_13, e24_16, e24_19, e24_22, kv_s, kh_s, kn_s, kc_v, kc_n, W_h0, W_h1, W_h2, W_hr, W_o0, W_o1, W_o2, W_o3, W_o4, W_p1, W_p2, e6, e, e10]
theorem c29 (hB : olok B) (h7 : a 7 0 ≤ 1) (hnw : nw < 4) (hsz : sz ≤ 4) (x : Int32) (e : ex 30 [.ref 1, .int x] (Wd B a a nw sz r μ β fl fh fc τ ν σ ι z κ) = some (some (.int R.1), Wd B R.2 a nw sz r μ β fl fh fc τ ν σ ι z κ)) : ex 29 [.ref 0, .int x] (Wd B a b nw sz r μ β fl fh fc τ ν σ ι z κ) = some (some (.int R.1), Wd B R.2 a (nwF R.1 nw) (szF R.1 sz) (rF R.1 nw r a) μ β fl fh fc τ ν σ ι z κ) := by
  have e6 := w71 B a b nw sz r μ β fl fh fc τ ν σ ι z κ h7
  have e10 := s10 B R.2 a nw sz r μ β fl fh fc τ ν σ ι z κ hB hnw hsz h7 R.1
  simp (disch := first | omega | assumption | (apply W_i1; done) | (apply W_i7; done) | (apply W_i13; done) | (apply W_i39; done) | (apply W_i74; done) | (apply W_i77; done) | (apply W_i0; assumption) | (apply W_iR; omega) | (refine b30 ?_; omega) | (refine nI_inR ?_ ?_ ?_ <;> omega)) only [x29, e29_0, e29_1, e29_4, e29_5, e29_8, e29_11, e29_12, e29_13, e29_16, e29_17, e29_20, e29_23, kv_s, kh_s, kn_s, kc_v, kc_n, W_h0, W_h1, W_h2, W_hr, W_o0, W_o1, W_o2, W_o3, W_o4, W_p1, W_p2, e6, e, e10]
theorem c17 (hB : olok B) (x y : Int32) : ex 17 [.ref 0, .int x, .int y] (Wd B a b nw sz r μ β fl fh fc τ ν σ ι z κ) = some (some (.int (setn a x y)), Wd B a b nw sz r μ β fl fh fc τ ν σ ι z κ) := by
  have e := s18 1 (by omega) a x y (Wd B a b nw sz r μ β fl fh fc τ ν σ ι z κ)
  rw [W_1] at e
  simp (disch := first | omega | assumption | (apply W_i1; done) | (apply W_i7; done) | (apply W_i13; done) | (apply W_i39; done) | (apply W_i74; done) | (apply W_i77; done) | (apply W_i0; assumption) | (apply W_iR; omega) | (refine b30 ?_; omega) | (refine nI_inR ?_ ?_ ?_ <;> omega)) only [x17, e17_0, e17_1, e17_4, e17_5, e17_6, e17_9, kv_s, kh_s, kn_s, kc_v, kc_n, W_h0, W_h1, W_h2, W_hr, W_o0, W_o1, W_o2, W_o3, W_o4, W_p1, W_p2, e]
theorem c35 (hB : olok B) (h13 : a 13 0 < 2 ^ 30) (x y : Int32) : ex 35 [.ref 0, .int x, .int y] (Wd B a b nw sz r μ β fl fh fc τ ν σ ι z κ) = some (some (.int (saleN a x y)), Wd B a b nw sz r μ β fl fh fc τ ν σ ι z κ) := by
  have e := s36 1 (by omega) a h13 x y (Wd B a b nw sz r μ β fl fh fc τ ν σ ι z κ)
  rw [W_1] at e
  simp (disch := first | omega | assumption | (apply W_i1; done) | (apply W_i7; done) | (apply W_i13; done) | (apply W_i39; done) | (apply W_i74; done) | (apply W_i77; done) | (apply W_i0; assumption) | (apply W_iR; omega) | (refine b30 ?_; omega) | (refine nI_inR ?_ ?_ ?_ <;> omega)) only [x35, e35_0, e35_1, e35_4, e35_5, e35_6, e35_9, kv_s, kh_s, kn_s, kc_v, kc_n, W_h0, W_h1, W_h2, W_hr, W_o0, W_o1, W_o2, W_o3, W_o4, W_p1, W_p2, e]
theorem s38 : ex 38 [.ref 13] (Wd B a b nw sz r μ β fl fh fc τ ν σ ι z κ) = some (some (.int (nI sz)), Wd B a b nw sz r μ β fl fh fc τ ν σ ι z κ) := by
  simp (disch := first | omega | assumption | (apply W_i1; done) | (apply W_i7; done) | (apply W_i13; done) | (apply W_i39; done) | (apply W_i74; done) | (apply W_i77; done) | (apply W_i0; assumption) | (apply W_iR; omega) | (refine b30 ?_; omega) | (refine nI_inR ?_ ?_ ?_ <;> omega)) only [x38, e38_0, e38_1, e38_4, kv_s, kh_s, kn_s, kc_v, kc_n, W_h0, W_h1, W_h2, W_hr, W_o0, W_o1, W_o2, W_o3, W_o4, W_p1, W_p2]
theorem c37 (hB : olok B) (h7 : a 7 0 ≤ 1) (x : Int32) : ex 37 [.ref 0, .int x] (Wd B a b nw sz r μ β fl fh fc τ ν σ ι z κ) = some (some (.int (cntN a sz (σ 0) x)), Wd B a b nw sz r μ β fl fh fc τ ν σ ι z κ) := by
  have e := s40 1 (by omega) a h7 x (Wd B a b nw sz r μ β fl fh fc τ ν σ ι z κ)
  rw [W_1] at e
  have e38 := s38 B a b nw sz r μ β fl fh fc τ ν σ ι z κ
  have e39 := s39 (Wd B a b nw sz r μ β fl fh fc τ ν σ ι z κ) τ ν σ
  rw [W_S] at e39
  unfold cntN
  by_cases q1 : x = nI 10
  · subst q1
    simp (disch := first | omega | assumption | (apply W_i1; done) | (apply W_i7; done) | (apply W_i13; done) | (apply W_i39; done) | (apply W_i74; done) | (apply W_i77; done) | (apply W_i0; assumption) | (apply W_iR; omega) | (refine b30 ?_; omega) | (refine nI_inR ?_ ?_ ?_ <;> omega)) only [x37, e37_0, e37_1, e37_28, e37_29, e37_32, e37_35, e37_36, e37_37, e37_40, e37_43, e37_44, e37_45, e37_48, e37_49, e37_52, kv_s, kh_s, kn_s, kc_v, kc_n, Nat.reduceEqDiff, Nat.one_ne_zero, Nat.reduceLT, Nat.reduceLeDiff, Nat.reduceAdd, Nat.reduceSub, Nat.reduceMul, nI_add, nI_leI, nI_ltI, nI_eq, z_eq, z_lt, z_le, z_gt, z_ge, ↓reduceIte, not_true_eq_false, not_false_eq_true, if_true, if_false, W_h0, W_h1, W_h2, W_hr, W_o0, W_o1, W_o2, W_o3, W_o4, W_p1, W_p2, e38]
  · by_cases q2 : x = nI 11
    · subst q2
      simp (disch := first | omega | assumption | (apply W_i1; done) | (apply W_i7; done) | (apply W_i13; done) | (apply W_i39; done) | (apply W_i74; done) | (apply W_i77; done) | (apply W_i0; assumption) | (apply W_iR; omega) | (refine b30 ?_; omega) | (refine nI_inR ?_ ?_ ?_ <;> omega)) only [x37, e37_0, e37_1, e37_28, e37_29, e37_32, e37_35, e37_36, e37_37, e37_40, e37_43, e37_44, e37_45, e37_48, e37_49, e37_52, kv_s, kh_s, kn_s, kc_v, kc_n, Nat.reduceEqDiff, Nat.one_ne_zero, Nat.reduceLT, Nat.reduceLeDiff, Nat.reduceAdd, Nat.reduceSub, Nat.reduceMul, nI_add, nI_leI, nI_ltI, nI_eq, z_eq, z_lt, z_le, z_gt, z_ge, ↓reduceIte, not_true_eq_false, not_false_eq_true, if_true, if_false, W_h0, W_h1, W_h2, W_hr, W_o0, W_o1, W_o2, W_o3, W_o4, W_p1, W_p2, e39]
    · simp (disch := first | omega | assumption | (apply W_i1; done) | (apply W_i7; done) | (apply W_i13; done) | (apply W_i39; done) | (apply W_i74; done) | (apply W_i77; done) | (apply W_i0; assumption) | (apply W_iR; omega) | (refine b30 ?_; omega) | (refine nI_inR ?_ ?_ ?_ <;> omega)) only [x37, e37_0, e37_1, e37_28, e37_29, e37_32, e37_35, e37_36, e37_37, e37_40, e37_43, e37_44, e37_45, e37_48, e37_49, e37_52, kv_s, kh_s, kn_s, kc_v, kc_n, Nat.reduceEqDiff, Nat.one_ne_zero, Nat.reduceLT, Nat.reduceLeDiff, Nat.reduceAdd, Nat.reduceSub, Nat.reduceMul, nI_add, nI_leI, nI_ltI, nI_eq, z_eq, z_lt, z_le, z_gt, z_ge, ↓reduceIte, not_true_eq_false, not_false_eq_true, if_true, if_false, W_h0, W_h1, W_h2, W_hr, W_o0, W_o1, W_o2, W_o3, W_o4, W_p1, W_p2, e, q1, q2]
theorem s85 (hnw : nw < 4) (hsz : sz ≤ 4) (h0 : 1 ≤ sz) (h7 : r nw 7 0 ≤ 1) : ex 85 [.ref 13, .ref 1] (Wd B a b nw sz r μ β fl fh fc τ ν σ ι z κ) = some (some (.int (nI (sz - 1))), Wd B (r nw) b ((nw + 3) % 4) (sz - 1) r μ β fl fh fc τ ν σ ι z κ) := by
  have h4 : ¬ nI 4 = 0 := by decide
  have e6 := w1R B a b nw sz r μ β fl fh fc τ ν σ ι z κ nw hnw h7
  have en : nw + 4 - 1 = nw + 3 := by omega
  simp (disch := first | omega | assumption | (apply W_i1; done) | (apply W_i7; done) | (apply W_i13; done) | (apply W_i39; done) | (apply W_i74; done) | (apply W_i77; done) | (apply W_i0; assumption) | (apply W_iR; omega) | (refine b30 ?_; omega) | (refine nI_inR ?_ ?_ ?_ <;> omega)) only [x85, e85_0, e85_1, e85_4, e85_7, e85_8, e85_9, e85_12, e85_13, e85_16, e85_17, e85_20, e85_21, e85_22, e85_25, e85_26, e85_27, e85_28, e85_29, e85_30, e85_31, e85_34, e85_35, e85_36, e85_39, e85_40, e85_41, e85_44, e85_45, e85_48, kv_s, kh_s, kn_s, kc_v, kc_n, Nat.reduceEqDiff, Nat.one_ne_zero, Nat.reduceLT, Nat.reduceLeDiff, Nat.reduceAdd, Nat.reduceSub, Nat.reduceMul, nI_add, nI_leI, nI_ltI, nI_eq, z_eq, z_lt, z_le, z_gt, z_ge, ↓reduceIte, not_true_eq_false, not_false_eq_true, if_true, if_false, W_h0, W_h1, W_h2, W_hr, W_o0, W_o1, W_o2, W_o3, W_o4, W_p1, W_p2, pk_rem, pk_sub, e6, en, show ¬ sz = 0 by omega]
theorem c84z (hB : olok B) (h0 : sz = 0) : ex 84 [.ref 0] (Wd B a b nw sz r μ β fl fh fc τ ν σ ι z κ) = some (some (.int (-1000002)), Wd B a b nw sz r μ β fl fh fc τ ν σ ι z κ) := by
  subst h0
  have e38 := s38 B a b nw 0 r μ β fl fh fc τ ν σ ι z κ
  simp (disch := first | omega | assumption | (apply W_i1; done) | (apply W_i7; done) | (apply W_i13; done) | (apply W_i39; done) | (apply W_i74; done) | (apply W_i77; done) | (apply W_i0; assumption) | (apply W_iR; omega) | (refine b30 ?_; omega) | (refine nI_inR ?_ ?_ ?_ <;> omega)) only [x84, e84_0, e84_1, e84_4, e84_7, e84_10, e84_12, e84_13, e84_14, e84_17, e84_18, e84_21, e84_24, kv_s, kh_s, kn_s, kc_v, kc_n, Nat.reduceEqDiff, Nat.one_ne_zero, Nat.reduceLT, Nat.reduceLeDiff, Nat.reduceAdd, Nat.reduceSub, Nat.reduceMul, nI_add, nI_leI, nI_ltI, nI_eq, z_eq, z_lt, z_le, z_gt, z_ge, ↓reduceIte, not_true_eq_false, not_false_eq_true, if_true, if_false, W_h0, W_h1, W_h2, W_hr, W_o0, W_o1, W_o2, W_o3, W_o4, W_p1, W_p2, e38]
theorem c84 (hB : olok B) (hnw : nw < 4) (hsz : sz ≤ 4) (h0 : 1 ≤ sz) (h7 : r nw 7 0 ≤ 1) : ex 84 [.ref 0] (Wd B a b nw sz r μ β fl fh fc τ ν σ ι z κ) = some (some (.int (nI (sz - 1))), Wd B (r nw) b ((nw + 3) % 4) (sz - 1) r μ β fl fh fc τ ν σ ι z κ) := by
  have e38 := s38 B a b nw sz r μ β fl fh fc τ ν σ ι z κ
  have e85 := s85 B a b nw sz r μ β fl fh fc τ ν σ ι z κ hnw hsz h0 h7
  simp (disch := first | omega | assumption | (apply W_i1; done) | (apply W_i7; done) | (apply W_i13; done) | (apply W_i39; done) | (apply W_i74; done) | (apply W_i77; done) | (apply W_i0; assumption) | (apply W_iR; omega) | (refine b30 ?_; omega) | (refine nI_inR ?_ ?_ ?_ <;> omega)) only [x84, e84_0, e84_1, e84_4, e84_7, e84_10, e84_12, e84_13, e84_14, e84_17, e84_18, e84_21, e84_24, kv_s, kh_s, kn_s, kc_v, kc_n, Nat.reduceEqDiff, Nat.one_ne_zero, Nat.reduceLT, Nat.reduceLeDiff, Nat.reduceAdd, Nat.reduceSub, Nat.reduceMul, nI_add, nI_leI, nI_ltI, nI_eq, z_eq, z_lt, z_le, z_gt, z_ge, ↓reduceIte, not_true_eq_false, not_false_eq_true, if_true, if_false, W_h0, W_h1, W_h2, W_hr, W_o0, W_o1, W_o2, W_o3, W_o4, W_p1, W_p2, e38, e85, show ¬ sz = 0 by omega]
theorem c86o (hB : olok B) (x : Int32) (h : ¬ inR x (nI 32) (nI 126)) : ex 86 [.ref 0, .int x] (Wd B a b nw sz r μ β fl fh fc τ ν σ ι z κ) = some (some (.int (-1000001)), Wd B a b nw sz r μ β fl fh fc τ ν σ ι z κ) := by
  have e := s87o (Wd B a b nw sz r μ β fl fh fc τ ν σ ι z κ) x h
  simp (disch := first | omega | assumption | (apply W_i1; done) | (apply W_i7; done) | (apply W_i13; done) | (apply W_i39; done) | (apply W_i74; done) | (apply W_i77; done) | (apply W_i0; assumption) | (apply W_iR; omega) | (refine b30 ?_; omega) | (refine nI_inR ?_ ?_ ?_ <;> omega)) only [x86, e86_0, e86_1, e86_4, e86_5, e86_8, kv_s, kh_s, kn_s, kc_v, kc_n, W_h0, W_h1, W_h2, W_hr, W_o0, W_o1, W_o2, W_o3, W_o4, W_p1, W_p2, e]
theorem c86l (hB : olok B) (x : Nat) (h1 : 32 ≤ x) (h2 : x ≤ 126) (h0 : σ 0 = 80) : ex 86 [.ref 0, .int (nI x)] (Wd B a b nw sz r μ β fl fh fc τ ν σ ι z κ) = some (some (.int (-1000003)), Wd B a b nw sz r μ β fl fh fc τ ν σ ι z κ) := by
  have e := s87l (Wd B a b nw sz r μ β fl fh fc τ ν σ ι z κ) τ ν σ x h1 h2 h0
  rw [W_S] at e
  simp (disch := first | omega | assumption | (apply W_i1; done) | (apply W_i7; done) | (apply W_i13; done) | (apply W_i39; done) | (apply W_i74; done) | (apply W_i77; done) | (apply W_i0; assumption) | (apply W_iR; omega) | (refine b30 ?_; omega) | (refine nI_inR ?_ ?_ ?_ <;> omega)) only [x86, e86_0, e86_1, e86_4, e86_5, e86_8, kv_s, kh_s, kn_s, kc_v, kc_n, W_h0, W_h1, W_h2, W_hr, W_o0, W_o1, W_o2, W_o3, W_o4, W_p1, W_p2, e]
theorem c86 (hB : olok B) (x n : Nat) (h1 : 32 ≤ x) (h2 : x ≤ 126) (h0 : σ 0 = n) (hn : n < 80) : ex 86 [.ref 0, .int (nI x)] (Wd B a b nw sz r μ β fl fh fc τ ν σ ι z κ) = some (some (.int (nI (n + 1))), Wd B a b nw sz r μ β fl fh fc (upN τ n x) ν (upN σ 0 (n + 1)) ι z κ) := by
  have e := s87 (Wd B a b nw sz r μ β fl fh fc τ ν σ ι z κ) τ ν σ x n h1 h2 h0 hn
  rw [W_S, W_S] at e
  simp (disch := first | omega | assumption | (apply W_i1; done) | (apply W_i7; done) | (apply W_i13; done) | (apply W_i39; done) | (apply W_i74; done) | (apply W_i77; done) | (apply W_i0; assumption) | (apply W_iR; omega) | (refine b30 ?_; omega) | (refine nI_inR ?_ ?_ ?_ <;> omega)) only [x86, e86_0, e86_1, e86_4, e86_5, e86_8, kv_s, kh_s, kn_s, kc_v, kc_n, W_h0, W_h1, W_h2, W_hr, W_o0, W_o1, W_o2, W_o3, W_o4, W_p1, W_p2, e]
theorem c88 (hB : olok B) : ex 88 [.ref 0] (Wd B a b nw sz r μ β fl fh fc τ ν σ ι z κ) = some (some (.int (nI (σ 0))), Wd B a b nw sz r μ β fl fh fc τ ν (upN σ 0 0) ι z κ) := by
  have e := s89 (Wd B a b nw sz r μ β fl fh fc τ ν σ ι z κ) τ ν σ
  rw [W_S, W_S] at e
  simp (disch := first | omega | assumption | (apply W_i1; done) | (apply W_i7; done) | (apply W_i13; done) | (apply W_i39; done) | (apply W_i74; done) | (apply W_i77; done) | (apply W_i0; assumption) | (apply W_iR; omega) | (refine b30 ?_; omega) | (refine nI_inR ?_ ?_ ?_ <;> omega)) only [x88, e88_0, e88_1, e88_4, e88_7, kv_s, kh_s, kn_s, kc_v, kc_n, W_h0, W_h1, W_h2, W_hr, W_o0, W_o1, W_o2, W_o3, W_o4, W_p1, W_p2, e]
theorem c90o (w : Int32) (h : ¬ inR w (nI 0) (nI 1)) : ex 90 [.ref 0, .int w] (Wd B a b nw sz r μ β fl fh fc τ ν σ ι z κ) = some (some (.int (-1000001)), Wd B a b nw sz r μ β fl fh fc τ ν σ ι z κ) := by
  simp (disch := first | omega | assumption | (apply W_i1; done) | (apply W_i7; done) | (apply W_i13; done) | (apply W_i39; done) | (apply W_i74; done) | (apply W_i77; done) | (apply W_i0; assumption) | (apply W_iR; omega) | (refine b30 ?_; omega) | (refine nI_inR ?_ ?_ ?_ <;> omega)) only [x90, e90_0, e90_1, e90_2, e90_3, e90_6, e90_9, e90_11, e90_12, e90_13, e90_16, e90_17, e90_20, e90_23, e90_24, e90_27, e90_28, e90_31, e90_34, e90_35, e90_38, e90_41, e90_44, e90_46, e90_47, e90_48, e90_51, e90_52, e90_55, e90_58, e90_61, e90_62, e90_65, e90_68, kv_s, kh_s, kn_s, kc_v, kc_n, Nat.reduceEqDiff, Nat.one_ne_zero, Nat.reduceLT, Nat.reduceLeDiff, Nat.reduceAdd, Nat.reduceSub, Nat.reduceMul, nI_add, nI_leI, nI_ltI, nI_eq, z_eq, z_lt, z_le, z_gt, z_ge, ↓reduceIte, not_true_eq_false, not_false_eq_true, if_true, if_false, s8o]
/-- a run over the spare shop -/
theorem w91 (hmc : mcok B) (hs : strs B) (h126 : ∀ i, τ i ≤ 126) (n : Nat) (hn : n ≤ 80) (t : Nat) (ok : okT t b) (ht : t + 80 < 2 ^ 30) (h0 : σ 0 = n) : ∃ ν' σ' : Nat → Nat, ex 91 [.ref 74, .ref 7] (Wd B a b nw sz r μ β fl fh fc τ ν σ ι z κ) = some (none, Wd B a (run1 τ n 80 0 b 0).2.1 nw sz r μ β fl fh fc τ ν' σ' ι z κ) ∧ σ' 0 = n ∧ okRun (run1 τ n 80 0 b 0).1 (run1 τ n 80 0 b 0).2.2 σ' := by
  obtain ⟨ν', σ', e, h⟩ := s91 (Wd B a b nw sz r μ β fl fh fc τ ν σ ι z κ) τ (W_mc _ _ _ _ _ _ _ _ _ _ _ _ _ _ _ _ _ hmc) (W_strs _ _ _ _ _ _ _ _ _ _ _ _ _ _ _ _ _ hs) h126 n hn b t ok ht ν σ h0
  rw [W_7, W_S, W_7, W_S] at e
  exact ⟨ν', σ', e, h⟩
theorem w108 (h : σ 4 < 1000) : ex 108 [.ref 74] (Wd B a b nw sz r μ β fl fh fc τ ν σ ι z κ) = some (some (.int (nI (if σ 4 = 0 then 0 else 1))), Wd B a b nw sz r μ β fl fh fc τ ν σ ι z κ) := by
  have e := s108 (Wd B a b nw sz r μ β fl fh fc τ ν σ ι z κ) τ ν σ h
  rw [W_S] at e
  exact e
theorem w109 : ex 109 [.ref 74] (Wd B a b nw sz r μ β fl fh fc τ ν σ ι z κ) = some (some (.int (nI (σ 3))), Wd B a b nw sz r μ β fl fh fc τ ν σ ι z κ) := by
  have e := s109 (Wd B a b nw sz r μ β fl fh fc τ ν σ ι z κ) τ ν σ
  rw [W_S] at e
  exact e
theorem w110 : ex 110 [.ref 74] (Wd B a b nw sz r μ β fl fh fc τ ν σ ι z κ) = some (some (.int (nI (σ 4))), Wd B a b nw sz r μ β fl fh fc τ ν σ ι z κ) := by
  have e := s110 (Wd B a b nw sz r μ β fl fh fc τ ν σ ι z κ) τ ν σ
  rw [W_S] at e
  exact e
theorem w112 : ex 112 [.ref 74] (Wd B a b nw sz r μ β fl fh fc τ ν σ ι z κ) = some (some (.int (nI (σ 2))), Wd B a b nw sz r μ β fl fh fc τ ν σ ι z κ) := by
  have e := s112 (Wd B a b nw sz r μ β fl fh fc τ ν σ ι z κ) τ ν σ
  rw [W_S] at e
  exact e
theorem c90 (hB : olok B) (hmc : mcok B) (hs : strs B) (h126 : ∀ i, τ i ≤ 126) (n : Nat) (hn : n ≤ 80) (t : Nat) (ok : okT t a) (ht : t + 80 < 2 ^ 30) (h0 : σ 0 = n) (w : Nat) (hw : w ≤ 1) : ∃ (b' : sT) (ν' σ' : Nat → Nat), ex 90 [.ref 0, .int (nI w)] (Wd B a b nw sz r μ β fl fh fc τ ν σ ι z κ) = some (some (.int (fltN (run1 τ n 80 0 a 0).1 w)), Wd B a b' nw sz r μ β fl fh fc τ ν' σ' ι z κ) ∧ σ' 0 = n := by
  have e6 := w71 B a b nw sz r μ β fl fh fc τ ν σ ι z κ ok.2.2.2.2.2.1
  obtain ⟨ν', σ', e91, j1, j2⟩ := w91 B a a nw sz r μ β fl fh fc τ ν σ ι z κ hmc hs h126 n hn t ok ht h0
  have hr := run1_ok τ n h126 80 0 a 0 t ok
  generalize run1 τ n 80 0 a 0 = R at e91 j2 hr
  obtain ⟨o, b', m⟩ := R
  dsimp only at e91 j2 hr
  refine ⟨b', ν', σ', ?_, j1⟩
  dsimp only
  cases o with
  | none =>
    obtain ⟨k4, k2⟩ := j2
    have e108 := w108 B a b' nw sz r μ β fl fh fc τ ν' σ' ι z κ (by omega)
    rw [if_pos k4] at e108
    simp (disch := first | omega | assumption | (apply W_i1; done) | (apply W_i7; done) | (apply W_i13; done) | (apply W_i39; done) | (apply W_i74; done) | (apply W_i77; done) | (apply W_i0; assumption) | (apply W_iR; omega) | (refine b30 ?_; omega) | (refine nI_inR ?_ ?_ ?_ <;> omega)) only [x90, e90_0, e90_1, e90_2, e90_3, e90_6, e90_9, e90_11, e90_12, e90_13, e90_16, e90_17, e90_20, e90_23, e90_24, e90_27, e90_28, e90_31, e90_34, e90_35, e90_38, e90_41, e90_44, e90_46, e90_47, e90_48, e90_51, e90_52, e90_55, e90_58, e90_61, e90_62, e90_65, e90_68, kv_s, kh_s, kn_s, kc_v, kc_n, Nat.reduceEqDiff, Nat.one_ne_zero, Nat.reduceLT, Nat.reduceLeDiff, Nat.reduceAdd, Nat.reduceSub, Nat.reduceMul, nI_add, nI_leI, nI_ltI, nI_eq, z_eq, z_lt, z_le, z_gt, z_ge, ↓reduceIte, not_true_eq_false, not_false_eq_true, if_true, if_false, W_h0, W_h1, W_h2, W_hr, W_o0, W_o1, W_o2, W_o3, W_o4, W_p1, W_p2, s8i, e6, e91, e108]
    rfl
  | some fr =>
    obtain ⟨fp, rr⟩ := fr
    obtain ⟨k4, k3⟩ := j2
    have h5 := hr.2.2 fp rr rfl
    have e108 := w108 B a b' nw sz r μ β fl fh fc τ ν' σ' ι z κ (by omega)
    have e109 := w109 B a b' nw sz r μ β fl fh fc τ ν' σ' ι z κ
    have e110 := w110 B a b' nw sz r μ β fl fh fc τ ν' σ' ι z κ
    rw [if_neg (by omega)] at e108
    rw [k3] at e109
    rw [k4] at e110
    unfold fltN
    by_cases q : w = 0
    · simp (disch := first | omega | assumption | (apply W_i1; done) | (apply W_i7; done) | (apply W_i13; done) | (apply W_i39; done) | (apply W_i74; done) | (apply W_i77; done) | (apply W_i0; assumption) | (apply W_iR; omega) | (refine b30 ?_; omega) | (refine nI_inR ?_ ?_ ?_ <;> omega)) only [x90, e90_0, e90_1, e90_2, e90_3, e90_6, e90_9, e90_11, e90_12, e90_13, e90_16, e90_17, e90_20, e90_23, e90_24, e90_27, e90_28, e90_31, e90_34, e90_35, e90_38, e90_41, e90_44, e90_46, e90_47, e90_48, e90_51, e90_52, e90_55, e90_58, e90_61, e90_62, e90_65, e90_68, kv_s, kh_s, kn_s, kc_v, kc_n, Nat.reduceEqDiff, Nat.one_ne_zero, Nat.reduceLT, Nat.reduceLeDiff, Nat.reduceAdd, Nat.reduceSub, Nat.reduceMul, nI_add, nI_leI, nI_ltI, nI_eq, z_eq, z_lt, z_le, z_gt, z_ge, ↓reduceIte, not_true_eq_false, not_false_eq_true, if_true, if_false, W_h0, W_h1, W_h2, W_hr, W_o0, W_o1, W_o2, W_o3, W_o4, W_p1, W_p2, s8i, e6, e91, e108, e109, q]
    · simp (disch := first | omega | assumption | (apply W_i1; done) | (apply W_i7; done) | (apply W_i13; done) | (apply W_i39; done) | (apply W_i74; done) | (apply W_i77; done) | (apply W_i0; assumption) | (apply W_iR; omega) | (refine b30 ?_; omega) | (refine nI_inR ?_ ?_ ?_ <;> omega)) only [x90, e90_0, e90_1, e90_2, e90_3, e90_6, e90_9, e90_11, e90_12, e90_13, e90_16, e90_17, e90_20, e90_23, e90_24, e90_27, e90_28, e90_31, e90_34, e90_35, e90_38, e90_41, e90_44, e90_46, e90_47, e90_48, e90_51, e90_52, e90_55, e90_58, e90_61, e90_62, e90_65, e90_68, kv_s, kh_s, kn_s, kc_v, kc_n, Nat.reduceEqDiff, Nat.one_ne_zero, Nat.reduceLT, Nat.reduceLeDiff, Nat.reduceAdd, Nat.reduceSub, Nat.reduceMul, nI_add, nI_leI, nI_ltI, nI_eq, z_eq, z_lt, z_le, z_gt, z_ge, ↓reduceIte, not_true_eq_false, not_false_eq_true, if_true, if_false, W_h0, W_h1, W_h2, W_hr, W_o0, W_o1, W_o2, W_o3, W_o4, W_p1, W_p2, s8i, e6, e91, e108, e110, q]
theorem c111 (hB : olok B) (hmc : mcok B) (hs : strs B) (h126 : ∀ i, τ i ≤ 126) (n : Nat) (hn : n ≤ 80) (t : Nat) (ok : okT t a) (ht : t + 80 < 2 ^ 30) (h0 : σ 0 = n) (hnw : nw < 4) (hsz : sz ≤ 4) : ∃ (b' : sT) (ν' σ' : Nat → Nat), σ' 0 = n ∧ (∀ fr, (run1 τ n 80 0 a 0).1 = some fr → ex 111 [.ref 0] (Wd B a b nw sz r μ β fl fh fc τ ν σ ι z κ) = some (some (.int (-1000002)), Wd B a b' nw sz r μ β fl fh fc τ ν' σ' ι z κ)) ∧ ((run1 τ n 80 0 a 0).1 = none → ex 111 [.ref 0] (Wd B a b nw sz r μ β fl fh fc τ ν σ ι z κ) = some (some (.int (nI (run1 τ n 80 0 a 0).2.2)), Wd B (run1 τ n 80 0 a 0).2.1 b' ((nw + 1) % 4) (min (sz + 1) 4) (upr r ((nw + 1) % 4) a) μ β fl fh fc τ ν' σ' ι z κ)) := by
  have e6 := w71 B a b nw sz r μ β fl fh fc τ ν σ ι z κ ok.2.2.2.2.2.1
  obtain ⟨ν', σ', e91, j1, j2⟩ := w91 B a a nw sz r μ β fl fh fc τ ν σ ι z κ hmc hs h126 n hn t ok ht h0
  have hr := run1_ok τ n h126 80 0 a 0 t ok
  generalize run1 τ n 80 0 a 0 = R at e91 j2 hr
  obtain ⟨o, b', m⟩ := R
  dsimp only at e91 j2 hr
  refine ⟨b', ν', σ', j1, ?_, ?_⟩
  · rintro fr rfl
    obtain ⟨fp, rr⟩ := fr
    obtain ⟨k4, k3⟩ := j2
    have h5 := hr.2.2 fp rr rfl
    have e108 := w108 B a b' nw sz r μ β fl fh fc τ ν' σ' ι z κ (by omega)
    rw [if_neg (by omega)] at e108
    simp (disch := first | omega | assumption | (apply W_i1; done) | (apply W_i7; done) | (apply W_i13; done) | (apply W_i39; done) | (apply W_i74; done) | (apply W_i77; done) | (apply W_i0; assumption) | (apply W_iR; omega) | (refine b30 ?_; omega) | (refine nI_inR ?_ ?_ ?_ <;> omega)) only [x111, e111_0, e111_1, e111_4, e111_5, e111_8, e111_11, e111_12, e111_15, e111_16, e111_19, e111_22, e111_23, e111_26, e111_29, e111_32, e111_34, e111_35, e111_36, e111_39, e111_40, e111_43, e111_46, e111_47, e111_50, e111_51, e111_54, e111_57, e111_58, e111_61, e111_64, kv_s, kh_s, kn_s, kc_v, kc_n, Nat.reduceEqDiff, Nat.one_ne_zero, Nat.reduceLT, Nat.reduceLeDiff, Nat.reduceAdd, Nat.reduceSub, Nat.reduceMul, nI_add, nI_leI, nI_ltI, nI_eq, z_eq, z_lt, z_le, z_gt, z_ge, ↓reduceIte, not_true_eq_false, not_false_eq_true, if_true, if_false, W_h0, W_h1, W_h2, W_hr, W_o0, W_o1, W_o2, W_o3, W_o4, W_p1, W_p2, e6, e91, e108]
  · rintro rfl
    obtain ⟨k4, k2⟩ := j2
    have e108 := w108 B a b' nw sz r μ β fl fh fc τ ν' σ' ι z κ (by omega)
    rw [if_pos k4] at e108
    have e11 := s11_1 B a b' nw sz r μ β fl fh fc τ ν' σ' ι z κ hnw hsz ok.2.2.2.2.2.1
    have e17 := w17 B a b' ((nw + 1) % 4) (min (sz + 1) 4) (upr r ((nw + 1) % 4) a) μ β fl fh fc τ ν' σ' ι z κ hr.1.2.2.2.2.2.1
    have e112 := w112 B b' b' ((nw + 1) % 4) (min (sz + 1) 4) (upr r ((nw + 1) % 4) a) μ β fl fh fc τ ν' σ' ι z κ
    rw [k2] at e112
    simp (disch := first | omega | assumption | (apply W_i1; done) | (apply W_i7; done) | (apply W_i13; done) | (apply W_i39; done) | (apply W_i74; done) | (apply W_i77; done) | (apply W_i0; assumption) | (apply W_iR; omega) | (refine b30 ?_; omega) | (refine nI_inR ?_ ?_ ?_ <;> omega)) only [x111, e111_0, e111_1, e111_4, e111_5, e111_8, e111_11, e111_12, e111_15, e111_16, e111_19, e111_22, e111_23, e111_26, e111_29, e111_32, e111_34, e111_35, e111_36, e111_39, e111_40, e111_43, e111_46, e111_47, e111_50, e111_51, e111_54, e111_57, e111_58, e111_61, e111_64, kv_s, kh_s, kn_s, kc_v, kc_n, Nat.reduceEqDiff, Nat.one_ne_zero, Nat.reduceLT, Nat.reduceLeDiff, Nat.reduceAdd, Nat.reduceSub, Nat.reduceMul, nI_add, nI_leI, nI_ltI, nI_eq, z_eq, z_lt, z_le, z_gt, z_ge, ↓reduceIte, not_true_eq_false, not_false_eq_true, if_true, if_false, W_h0, W_h1, W_h2, W_hr, W_o0, W_o1, W_o2, W_o3, W_o4, W_p1, W_p2, e6, e91, e108, e11, e17, e112]
end
