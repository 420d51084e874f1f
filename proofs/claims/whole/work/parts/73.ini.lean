-- PART 73: what is made, second: history, means, script, reference
def dO : List Value := [.null, .null, .null, .null, .null]
def dH : List Value := [.null, .int 0, .int 0]
def dM : List Value := [.null, .null, .null, .null, .null, .null, .int 0, .int 0, .long 0]
def dC : List Value := [.null, .null, .int 0, .int 0, .int 0, .int 0, .int 0]
def dR : List Value := [.null, .null, .null, .int 0, .null, .int 0, .null, .null, .null, .null, .null, .int 0, .int 0, .int 0, .null]
theorem dg0 : pi_dft.getD 0 [] = dH := rfl
theorem dg1 : pi_dft.getD 1 [] = dM := rfl
theorem dg2 : pi_dft.getD 2 [] = dC := rfl
theorem dg3 : pi_dft.getD 3 [] = dS := rfl
theorem dg4 : pi_dft.getD 4 [] = dO := rfl
theorem dg5 : pi_dft.getD 5 [] = dR := rfl
theorem dl0 : dH.length = 3 := rfl
theorem dl1 : dM.length = 9 := rfl
theorem dl2 : dC.length = 7 := rfl
theorem dl3 : dS.length = 14 := rfl
theorem dl4 : dO.length = 5 := rfl
theorem dl5 : dR.length = 15 := rfl
theorem fv_s (c k : Nat) (fs : List Value) : pi_fv (some (.inr (c, fs))) c k = fs[k]? := by
  unfold pi_fv
  simp
def scL : List pi_E := [.inr (2, [.ref 75, .ref 76, .int 0, .int 0, .int 0, .int 0, .int 0]), .inl (1, 80, .inl (fun _ => 0)), .inl (0, 3, .inl (fun _ => 0))]
theorem k4 (H : pi_H) (hn : H.2.1 = 74) : ex 4 [.ref 74] (ad H [.inr (2, dC)] 7) = some (none, ad H scL 90) := by
  unfold dC
  simp (disch := first | omega | assumption | (refine b30 ?_; omega) | (refine nb_ok ?_ ?_ <;> first | omega | (simp only [ad_n, List.length_cons, List.length_nil, List.length_append, List.length_replicate, shL_len]; omega)) | (simp only [List.length_cons, List.length_nil]; omega) | (simp; done)) only [x4, e4_0, e4_1, e4_4, e4_5, e4_7, e4_9, e4_12, e4_13, e4_14, e4_16, e4_19, kv_s, kh_s, kn_s, kc_v, kc_n, ad_n, ad_0, ad_add, ad_ad, ad_pf, ad_as, pfO_s, asO_s, nI_clamp, Nat.sub_self, Nat.add_sub_cancel_left, Nat.add_sub_cancel, List.getElem?_cons_zero, List.getElem?_cons_succ, List.set_cons_zero, List.set_cons_succ, List.cons_append, List.nil_append, List.length_cons, List.length_nil, Nat.zero_add, Nat.reduceAdd, Nat.reduceSub, Nat.add_assoc, hn]
  rfl
def moS : Nat → Int32 := upd (upd (upd (upd (upd (fun _ => 0) 0 (nI 1)) 7 (nI 5)) 8 (nI 1)) 9 (nI 1)) 10 (nI 4)
def moL : List pi_E := [.inr (5, [.ref 78, .ref 79, .ref 80, .int 0, .ref 81, .int 0, .ref 82, .ref 83, .ref 84, .ref 85, .ref 86, .int 0, .int 0, .int 0, .ref 87]), .inl (0, 58, .inl moS), .inl (0, 58, .inl (fun _ => 0)), .inl (0, 232, .inl (fun _ => 0)), .inl (0, 80, .inl (fun _ => 0)), .inl (2, 147, .inr (.inl (fun _ => 0))), .inl (2, 147, .inr (.inl (fun _ => 0))), .inl (0, 147, .inl (fun _ => 0)), .inl (2, 7, .inr (.inl (fun _ => 0))), .inl (2, 147, .inr (.inl (fun _ => 0))), .inl (0, 3, .inl (fun _ => 0))]
theorem k113 (H : pi_H) (hn : H.2.1 = 77) : ex 113 [.ref 77] (ad H [.inr (5, dR)] 15) = some (none, ad H moL 1041) := by
  unfold dR
  simp (disch := first | omega | assumption | (refine b30 ?_; omega) | (refine nb_ok ?_ ?_ <;> first | omega | (simp only [ad_n, List.length_cons, List.length_nil, List.length_append, List.length_replicate, shL_len]; omega)) | (simp only [List.length_cons, List.length_nil]; omega) | (simp; done)) only [x113, e113_0, e113_1, e113_4, e113_5, e113_7, e113_9, e113_12, e113_13, e113_15, e113_17, e113_20, e113_21, e113_24, e113_26, e113_29, e113_30, e113_32, e113_34, e113_37, e113_38, e113_41, e113_43, e113_46, e113_47, e113_50, e113_52, e113_55, e113_56, e113_59, e113_61, e113_64, e113_65, e113_67, e113_69, e113_72, e113_73, e113_76, e113_78, e113_81, e113_82, e113_83, e113_85, e113_88, e113_89, e113_92, e113_93, e113_94, e113_95, e113_96, e113_99, e113_101, e113_102, e113_103, e113_104, e113_107, e113_109, e113_110, e113_111, e113_112, e113_115, e113_117, e113_118, e113_119, e113_120, e113_123, e113_125, e113_126, e113_127, kv_s, kh_s, kn_s, kc_v, kc_n, ad_n, ad_0, ad_add, ad_ad, ad_pf, ad_as, pfO_s, asO_s, nI_clamp, Nat.sub_self, Nat.add_sub_cancel_left, Nat.add_sub_cancel, List.getElem?_cons_zero, List.getElem?_cons_succ, List.set_cons_zero, List.set_cons_succ, List.cons_append, List.nil_append, List.length_cons, List.length_nil, Nat.zero_add, Nat.reduceAdd, Nat.reduceSub, Nat.add_assoc, hn, ad_get, fv_s]
  rfl
def meL : List pi_E := [.inr (1, [.ref 40, .ref 41, .ref 42, .ref 50, .ref 58, .ref 66, .int 0, .int 0, .long 0]), .inl (2, 7, .inr (.inl (fun _ => 0))), .inl (2, 21, .inr (.inl (fun _ => 0)))] ++ (.inl (5, 7, .inr (.inr (.inr (.inr (rows 42))))) :: List.replicate 7 (.inl (2, 21, .inr (.inl (fun _ => 0))))) ++ (.inl (5, 7, .inr (.inr (.inr (.inr (rows 50))))) :: List.replicate 7 (.inl (2, 21, .inr (.inl (fun _ => 0))))) ++ (.inl (4, 7, .inr (.inr (.inr (.inr (rows 58))))) :: List.replicate 7 (.inl (0, 21, .inl (fun _ => 0)))) ++ (.inl (5, 7, .inr (.inr (.inr (.inr (rows 66))))) :: List.replicate 7 (.inl (2, 21, .inr (.inl (fun _ => 0)))))
theorem rows_c (b : Nat) : (fun i => if i < 7 then some (b + 1 + i) else none) = rows b := by
  funext i
  unfold rows
  rw [Nat.add_comm]
theorem k3 (H : pi_H) (hn : H.2.1 = 39) : ex 3 [.ref 39] (ad H [.inr (1, dM)] 9) = some (none, ad H meL 653) := by
  unfold dM
  simp (disch := first | omega | assumption | (refine b30 ?_; omega) | (refine nb_ok ?_ ?_ <;> first | omega | (simp only [ad_n, List.length_cons, List.length_nil, List.length_append, List.length_replicate]; omega)) | (refine nb_ok2 ?_ ?_ ?_ <;> first | omega | (simp only [ad_n, List.length_cons, List.length_nil, List.length_append, List.length_replicate]; omega)) | (simp only [List.length_cons, List.length_nil]; omega) | (simp; done)) only [x3, e3_0, e3_1, e3_4, e3_5, e3_7, e3_9, e3_12, e3_13, e3_15, e3_17, e3_20, e3_21, e3_23, e3_25, e3_29, e3_32, e3_33, e3_35, e3_37, e3_41, e3_44, e3_45, e3_47, e3_49, e3_53, e3_56, e3_57, e3_59, e3_61, e3_65, e3_68, kv_s, kh_s, kn_s, kc_v, kc_n, ad_n, ad_0, ad_add, ad_ad, ad_pf, ad_as, pfO_s, asO_s, nI_clamp, Nat.sub_self, Nat.add_sub_cancel_left, Nat.add_sub_cancel, List.getElem?_cons_zero, List.getElem?_cons_succ, List.set_cons_zero, List.set_cons_succ, List.cons_append, List.nil_append, List.length_cons, List.length_nil, Nat.zero_add, Nat.reduceAdd, Nat.reduceSub, Nat.add_assoc, ad_mul, List.length_append, List.length_replicate, Nat.reduceMul, hn]
  have r1 := rows_c 42
  have r2 := rows_c 50
  have r3 := rows_c 58
  have r4 := rows_c 66
  rw [r1, r2, r3, r4]
  rfl
/-- the history being made -/
def G (H : pi_H) (f : Nat → Option Nat) (m : List pi_E) (z : Nat) : pi_H := ad H (.inr (0, [.ref 14, .int 0, .int 0]) :: .inl (3, 4, .inr (.inr (.inr (.inr f)))) :: m) z
section
variable (H : pi_H) (hn : H.2.1 = 13) (f : Nat → Option Nat) (m : List pi_E) (z : Nat)
theorem G_n (hn : H.2.1 = 13) : (G H f m z).2.1 = 15 + m.length := by
  show H.2.1 + (m.length + 1 + 1) = _
  omega
theorem G_13 (hn : H.2.1 = 13) : pi_get (G H f m z) 13 = some (.inr (0, [.ref 14, .int 0, .int 0])) := by
  unfold G
  rw [ad_get _ _ _ _ (by simp only [List.length_cons]; omega), hn]
  rfl
theorem G_14 (hn : H.2.1 = 13) : pi_get (G H f m z) 14 = some (.inl (3, 4, .inr (.inr (.inr (.inr f))))) := by
  unfold G
  rw [ad_get _ _ _ _ (by simp only [List.length_cons]; omega), hn]
  rfl
theorem G_as (hn : H.2.1 = 13) (i v c : Nat) (hi : i < 4) (hv : v = 15 + m.length) : pi_as (ad (G H f m z) (shL v) c) 14 (nI i) (.ref v) 4 = some (G H (va_up f i (some v)) (m ++ shL v) (z + c)) := by
  have e : ad (G H f m z) (shL v) c = G H f (m ++ shL v) (z + c) := by
    unfold G
    rw [ad_ad]
    rfl
  have e14 := G_14 H f (m ++ shL v) (z + c) hn
  have eo : pi_isO (pi_get (G H f (m ++ shL v) (z + c)) v) 3 = true := by
    unfold G
    rw [ad_get _ _ _ _ (by simp only [List.length_cons, List.length_append, shL_len]; omega), hn, show v - 13 = m.length + 1 + 1 by omega, List.getElem?_cons_succ, List.getElem?_cons_succ, List.getElem?_append_right (Nat.le_refl _), Nat.sub_self]
    rfl
  have es : ∀ x, pi_set (G H f (m ++ shL v) (z + c)) 14 x = ad H (.inr (0, [.ref 14, .int 0, .int 0]) :: x :: (m ++ shL v)) (z + c) := by
    intro x
    unfold G
    rw [ad_set _ _ _ _ (by simp only [List.length_cons]; omega), hn]
    rfl
  rw [e]
  unfold pi_as
  rw [e14]
  dsimp only
  rw [if_pos (by
    unfold pi_in
    rw [eo]
    simp [nI_clamp (n := i) (by omega), nI_pos (n := i) (by omega), hi]), nI_clamp (by omega), es]
  rfl
theorem l2 (hn : H.2.1 = 13) (i : Nat) (hi : i < 4) (hm : m.length = 6 * i) : ev 2 14 [some (.ref 13), some (.int (nI i))] [] (G H f m z) = ev 2 14 [some (.ref 13), some (.int (nI (i + 1)))] [] (G H (va_up f i (some (15 + 6 * i))) (m ++ shL (15 + 6 * i)) (z + 64)) := by
  have gn : (G H f m z).2.1 = 15 + 6 * i := by rw [G_n H f m z hn, hm]
  have g13 := G_13 H f m z hn
  have g14 := G_14 H f m z hn
  have gl : pi_len (pi_get (G H f m z) 14) = some 4 := by rw [g14]; rfl
  have hk := k1 (G H f m z) (15 + 6 * i) gn (by omega)
  have h0 := ad_0 (G H f m z) (3, dS) 14
  have hA := G_as H f m z hn i (15 + 6 * i) 64 hi (by omega)
  have hfv : pi_fv (pi_get (G H f m z) 13) 0 0 = some (.ref 14) := by rw [g13]; rfl
  rw [e2_14]
  simp (disch := first | omega | assumption | (refine b30 ?_; omega) | (refine nb_ok ?_ ?_ <;> first | omega | (simp only [ad_n, List.length_cons, List.length_nil, List.length_append, List.length_replicate, shL_len]; omega)) | (simp only [List.length_cons, List.length_nil]; omega) | (simp; done)) only [x2, e2_0, e2_1, e2_4, e2_5, e2_6, e2_9, e2_12, e2_13, e2_15, e2_16, e2_19, e2_20, e2_23, e2_24, e2_27, e2_28, e2_31, e2_32, e2_35, e2_36, e2_39, e2_42, kv_s, kh_s, kn_s, kc_v, kc_n, Nat.reduceEqDiff, Nat.one_ne_zero, Nat.reduceLT, Nat.reduceLeDiff, Nat.reduceAdd, Nat.reduceSub, Nat.reduceMul, nI_add, nI_leI, nI_ltI, nI_eq, z_eq, z_lt, z_le, z_gt, z_ge, ↓reduceIte, not_true_eq_false, not_false_eq_true, if_true, if_false, dg3, dl3, gn, gl, hfv, h0, hk, hA, show ¬ 4 ≤ i by omega]
end
def hiL : List pi_E := .inr (0, [.ref 14, .int 0, .int 0]) :: .inl (3, 4, .inr (.inr (.inr (.inr rg)))) :: (((([] ++ shL 15) ++ shL 21) ++ shL 27) ++ shL 33)
theorem rg_va : va_up (va_up (va_up (va_up (fun _ => none) 0 (some 15)) 1 (some 21)) 2 (some 27)) 3 (some 33) = rg := by
  funext i
  unfold va_up rg
  by_cases h : i < 4
  · have h4 : i = 0 ∨ i = 1 ∨ i = 2 ∨ i = 3 := by omega
    rcases h4 with rfl | rfl | rfl | rfl <;> rfl
  · rw [if_neg (by omega), if_neg (by omega), if_neg (by omega), if_neg (by omega), if_neg h]
theorem k2 (H : pi_H) (hn : H.2.1 = 13) : ex 2 [.ref 13] (ad H [.inr (0, dH)] 3) = some (none, ad H hiL 263) := by
  have e0 : ex 2 [.ref 13] (ad H [.inr (0, dH)] 3) = ev 2 14 [some (.ref 13), some (.int (nI 0))] [] (G H (fun _ => none) [] 7) := by
    unfold dH
    simp (disch := first | omega | assumption | (refine b30 ?_; omega) | (refine nb_ok ?_ ?_ <;> first | omega | (simp only [ad_n, List.length_cons, List.length_nil, List.length_append, List.length_replicate, shL_len]; omega)) | (simp only [List.length_cons, List.length_nil]; omega) | (simp; done)) only [x2, e2_0, e2_1, e2_4, e2_5, e2_6, e2_9, e2_12, e2_13, e2_15, e2_16, e2_19, e2_20, e2_23, e2_24, e2_27, e2_28, e2_31, e2_32, e2_35, e2_36, e2_39, e2_42, kv_s, kh_s, kn_s, kc_v, kc_n, ad_n, ad_0, ad_add, ad_ad, ad_pf, ad_as, pfO_s, asO_s, nI_clamp, Nat.sub_self, Nat.add_sub_cancel_left, Nat.add_sub_cancel, List.getElem?_cons_zero, List.getElem?_cons_succ, List.set_cons_zero, List.set_cons_succ, List.cons_append, List.nil_append, List.length_cons, List.length_nil, Nat.zero_add, Nat.reduceAdd, Nat.reduceSub, Nat.add_assoc, hn]
    rfl
  have a0 := l2 H (fun _ => none) [] 7 hn 0 (by omega) rfl
  have a1 := l2 H (va_up (fun _ => none) 0 (some 15)) ([] ++ shL 15) 71 hn 1 (by omega) rfl
  have a2 := l2 H (va_up (va_up (fun _ => none) 0 (some 15)) 1 (some 21)) ([] ++ shL 15 ++ shL 21) 135 hn 2 (by omega) rfl
  have a3 := l2 H (va_up (va_up (va_up (fun _ => none) 0 (some 15)) 1 (some 21)) 2 (some 27)) ([] ++ shL 15 ++ shL 21 ++ shL 27) 199 hn 3 (by omega) rfl
  have gl : pi_len (pi_get (G H rg ([] ++ shL 15 ++ shL 21 ++ shL 27 ++ shL 33) 263) 14) = some 4 := by rw [G_14 _ _ _ _ hn]; rfl
  have hfv : pi_fv (pi_get (G H rg ([] ++ shL 15 ++ shL 21 ++ shL 27 ++ shL 33) 263) 13) 0 0 = some (.ref 14) := by rw [G_13 _ _ _ _ hn]; rfl
  simp only [Nat.reduceMul, Nat.reduceAdd] at a0 a1 a2 a3
  rw [e0, a0, a1, a2, a3, rg_va, e2_14]
  simp (disch := first | omega | assumption | (refine b30 ?_; omega) | (refine nb_ok ?_ ?_ <;> first | omega | (simp only [ad_n, List.length_cons, List.length_nil, List.length_append, List.length_replicate, shL_len]; omega)) | (simp only [List.length_cons, List.length_nil]; omega) | (simp; done)) only [x2, e2_0, e2_1, e2_4, e2_5, e2_6, e2_9, e2_12, e2_13, e2_15, e2_16, e2_19, e2_20, e2_23, e2_24, e2_27, e2_28, e2_31, e2_32, e2_35, e2_36, e2_39, e2_42, kv_s, kh_s, kn_s, kc_v, kc_n, Nat.reduceEqDiff, Nat.one_ne_zero, Nat.reduceLT, Nat.reduceLeDiff, Nat.reduceAdd, Nat.reduceSub, Nat.reduceMul, nI_add, nI_leI, nI_ltI, nI_eq, z_eq, z_lt, z_le, z_gt, z_ge, ↓reduceIte, not_true_eq_false, not_false_eq_true, if_true, if_false, gl, hfv]
  rfl
