-- PART 59: texts, sixth: the reference does, tells, plays
theorem kk_w4 (κ : kT) (f p r : Nat) : uk (kk κ f p) 4 r = kk (uk κ 4 r) f p := by
  funext i
  unfold kk uk
  by_cases h : i = 4
  · subst h
    rw [if_pos rfl, if_neg (by omega), if_neg (by omega), if_pos rfl]
  · rw [if_neg h]
    by_cases h2 : i = 2
    · rw [if_pos h2, if_pos h2]
    · rw [if_neg h2, if_neg h2]
      by_cases h3 : i = 3
      · rw [if_pos h3, if_pos h3]
      · rw [if_neg h3, if_neg h3, if_neg h]
theorem kk_4 (κ : kT) (f p : Nat) : kk κ f p 4 = κ 4 := rfl
theorem kk_5 (κ : kT) (f p i : Nat) (h : 5 ≤ i) : kk κ f p i = κ i := by
  unfold kk uk
  rw [if_neg (by omega), if_neg (by omega)]
theorem uk_44 (κ : kT) (r : Nat) : uk κ 4 r 4 = r := rfl
theorem nI_ne1 (n : Nat) (h : n < 2 ^ 31) : ¬ nI n = -1000001 := by
  intro e
  have h0 := nI_pos' h
  have h3 : (-1000001 : Int32) < 0 := by decide
  grind
theorem n_1 : ¬ (0 : Int32) ≤ -1000001 := by decide
theorem n_2 : ¬ (0 : Int32) ≤ -1000002 := by decide
theorem n_3 : ¬ (0 : Int32) ≤ -1000003 := by decide
theorem n_4 : (-1000002 : Int32) < 0 := by decide
theorem n_5 : (-1000003 : Int32) < 0 := by decide
theorem n_6 : ¬ (-1000002 : Int32) = -1000001 := by decide
theorem n_7 : ¬ (-1000003 : Int32) = -1000001 := by decide
theorem m1_neg (m : Nat) (h : m < 2 ^ 29) : (-1 : Int32) - nI m < 0 := by
  have h1 := pk_sneg (a := 0) (b := m + 1) (by omega) (by omega)
  have h2 : nI (m + 1) = nI m + nI 1 := (nI_add m 1).symm
  have h3 : (-1 : Int32) = nI 0 - nI 1 := by decide
  rw [h3, show nI 0 - nI 1 - nI m = nI 0 - nI (m + 1) by rw [h2]; grind]
  exact h1
theorem m1_m1 (m : Nat) : (-1 : Int32) - (-1 - nI m) = nI m := by grind
def doesN (o : Option (Nat × Nat)) (m : Nat) : Int32 := match o with
  | none => -1 - nI m
  | some (fp, _) => nI fp
section
variable (H : pi_H) (z : jT)
theorem l161 : ∀ (F p : Nat) (a : sT) (c t : Nat) (ι : sT) (κ : kT) (f : Nat) (v2 v3 : Option Value), (∀ i, ι 3 i ≤ 126) → κ 1 ≤ 80 → κ 1 ≤ p + F → p ≤ 80 → okT t a → t + F < 2 ^ 30 → ∃ (ι' : sT) (κ' : kT), ev 161 7 [some (.ref 77), some (.int (nI c)), v2, v3] [] (MO H (u1 ι 0 (flat a)) z (kk κ f p)) = some (some (.int (doesN (run1 (ι 3) (κ 1) F p a c).1 (run1 (ι 3) (κ 1) F p a c).2.2)), MO H (u1 ι' 0 (flat (run1 (ι 3) (κ 1) F p a c).2.1)) z κ') ∧ (∀ t, t ≠ 5 → ι' t = ι t) ∧ κ' 0 = κ 0 ∧ κ' 1 = κ 1 ∧ (∀ fp r, (run1 (ι 3) (κ 1) F p a c).1 = some (fp, r) → κ' 4 = r) := by
  intro F
  induction F with
  | zero =>
    intro p a c t ι κ f v2 v3 h126 hn hF hp ok ht
    refine ⟨ι, kk κ f p, ?_, fun _ _ => rfl, rfl, rfl, fun fp r h => by cases h⟩
    rw [e161_7 77 (hb := rfl)]
    simp (disch := first | omega | assumption | exact MO_isO _ _ _ _ | (refine b30 ?_; omega) | (refine nI_inR ?_ ?_ ?_ <;> omega)) only [x161, e161_0, e161_1, e161_2, e161_5, e161_6, e161_8, e161_11, e161_12, e161_15, e161_18, e161_19, e161_22, e161_23, e161_24, e161_27, e161_28, e161_29, e161_30, e161_33, e161_36, e161_37, e161_40, e161_41, e161_43, e161_46, e161_47, e161_50, e161_51, e161_54, e161_55, e161_58, e161_59, e161_62, e161_63, e161_66, e161_69, e161_70, e161_71, e161_74, e161_77, e161_78, e161_79, e161_80, kv_s, kh_s, kn_s, kc_v, kc_n, MO_isO, MO_f0, MO_f1, MO_f2, MO_f3, MO_f4, MO_f5, MO_f6, MO_f7, MO_f8, MO_f9, MO_f10, MO_f11, MO_f12, MO_f13, MO_f14, MO_i0, MO_i1, MO_i2, MO_i3, MO_i4, MO_i5, MO_j0, MO_j1, MO_j2, MO_j3, Nat.reduceEqDiff, Nat.one_ne_zero, Nat.reduceLT, Nat.reduceLeDiff, Nat.reduceAdd, Nat.reduceSub, Nat.reduceMul, nI_add, nI_leI, nI_ltI, nI_eq, z_eq, z_lt, z_le, z_gt, z_ge, ↓reduceIte, not_true_eq_false, not_false_eq_true, if_true, if_false, kk_0, kk_1, kk_2, kk_3, kk_w2, kk_w3, show κ 1 ≤ p by omega]
    rfl
  | succ F ih =>
    intro p a c t ι κ f v2 v3 h126 hn hF hp ok ht
    by_cases hpn : p < κ 1
    · cases hq : psr (ι 3) (κ 1) p with
      | none =>
        obtain ⟨ι', q, e, i1⟩ := m162b H z ι κ a h126 hn f p (by omega) hq
        have er : run1 (ι 3) (κ 1) (F + 1) p a c = (some (p, 1), a, c) := by
          unfold run1
          rw [if_pos hpn, hq]
        rw [er]
        refine ⟨ι', kk (uk κ 4 1) 0 q, ?_, i1, rfl, rfl, fun fp r h => by cases h; rfl⟩
        rw [e161_7 77 (hb := rfl)]
        simp (disch := first | omega | assumption | exact MO_isO _ _ _ _ | (refine b30 ?_; omega) | (refine nI_inR ?_ ?_ ?_ <;> omega)) only [x161, e161_0, e161_1, e161_2, e161_5, e161_6, e161_8, e161_11, e161_12, e161_15, e161_18, e161_19, e161_22, e161_23, e161_24, e161_27, e161_28, e161_29, e161_30, e161_33, e161_36, e161_37, e161_40, e161_41, e161_43, e161_46, e161_47, e161_50, e161_51, e161_54, e161_55, e161_58, e161_59, e161_62, e161_63, e161_66, e161_69, e161_70, e161_71, e161_74, e161_77, e161_78, e161_79, e161_80, kv_s, kh_s, kn_s, kc_v, kc_n, MO_isO, MO_f0, MO_f1, MO_f2, MO_f3, MO_f4, MO_f5, MO_f6, MO_f7, MO_f8, MO_f9, MO_f10, MO_f11, MO_f12, MO_f13, MO_f14, MO_i0, MO_i1, MO_i2, MO_i3, MO_i4, MO_i5, MO_j0, MO_j1, MO_j2, MO_j3, MO_wi0, MO_wi1, MO_wi2, MO_wi3, MO_wi4, MO_wi5, MO_wj0, MO_wj1, MO_wj2, MO_wj3, MO_k0, MO_k1, MO_k2, MO_k3, MO_k4, Nat.reduceEqDiff, Nat.one_ne_zero, Nat.reduceLT, Nat.reduceLeDiff, Nat.reduceAdd, Nat.reduceSub, Nat.reduceMul, nI_add, nI_leI, nI_ltI, nI_eq, z_eq, z_lt, z_le, z_gt, z_ge, ↓reduceIte, not_true_eq_false, not_false_eq_true, if_true, if_false, kk_0, kk_1, kk_2, kk_3, kk_w2, kk_w3, kk_w4, kk_4, uk_44, e, show ¬ κ 1 ≤ p by omega]
        rfl
      | some kq =>
        obtain ⟨k, q⟩ := kq
        obtain ⟨l1, l2, l3, l4⟩ := psr_le (ι 3) (κ 1) p h126 k q hq
        obtain ⟨ι', e, i1⟩ := m162a H z ι κ t a ok (by omega) h126 hn f p (by omega) k q hq
        have hA := act_o t a ok k (vs (ι 3) (κ 1) (p + wl k) 0) (vs (ι 3) (κ 1) (p + wl k) 1) (vs (ι 3) (κ 1) (p + wl k) 2)
        have er : run1 (ι 3) (κ 1) (F + 1) p a c = (if (act a k (vs (ι 3) (κ 1) (p + wl k) 0) (vs (ι 3) (κ 1) (p + wl k) 1) (vs (ι 3) (κ 1) (p + wl k) 2)).1 = -1000001 then (some (p, 2), a, c)
        else if (act a k (vs (ι 3) (κ 1) (p + wl k) 0) (vs (ι 3) (κ 1) (p + wl k) 1) (vs (ι 3) (κ 1) (p + wl k) 2)).1 < 0 then (some (p, 3), a, c)
        else run1 (ι 3) (κ 1) F q (act a k (vs (ι 3) (κ 1) (p + wl k) 0) (vs (ι 3) (κ 1) (p + wl k) 1) (vs (ι 3) (κ 1) (p + wl k) 2)).2 (c + 1)) := by
          show (if p < κ 1 then _ else _) = _
          rw [if_pos hpn, hq]
        generalize hR : act a k (vs (ι 3) (κ 1) (p + wl k) 0) (vs (ι 3) (κ 1) (p + wl k) 1) (vs (ι 3) (κ 1) (p + wl k) 2) = R at hA er e
        obtain ⟨v, b⟩ := R
        rcases hA with ⟨hb, hv⟩ | ⟨⟨n, hn2, hv⟩, hg⟩
        · dsimp only at hb hv er e
          subst hb
          rcases hv with rfl | rfl | rfl
          · rw [if_pos rfl] at er
            rw [er]
            refine ⟨ι', kk (uk κ 4 2) 1 q, ?_, i1, rfl, rfl, fun fp r h => by cases h; rfl⟩
            rw [e161_7 77 (hb := rfl)]
            simp (disch := first | omega | assumption | exact MO_isO _ _ _ _ | (refine b30 ?_; omega) | (refine nI_inR ?_ ?_ ?_ <;> omega)) only [x161, e161_0, e161_1, e161_2, e161_5, e161_6, e161_8, e161_11, e161_12, e161_15, e161_18, e161_19, e161_22, e161_23, e161_24, e161_27, e161_28, e161_29, e161_30, e161_33, e161_36, e161_37, e161_40, e161_41, e161_43, e161_46, e161_47, e161_50, e161_51, e161_54, e161_55, e161_58, e161_59, e161_62, e161_63, e161_66, e161_69, e161_70, e161_71, e161_74, e161_77, e161_78, e161_79, e161_80, kv_s, kh_s, kn_s, kc_v, kc_n, MO_isO, MO_f0, MO_f1, MO_f2, MO_f3, MO_f4, MO_f5, MO_f6, MO_f7, MO_f8, MO_f9, MO_f10, MO_f11, MO_f12, MO_f13, MO_f14, MO_i0, MO_i1, MO_i2, MO_i3, MO_i4, MO_i5, MO_j0, MO_j1, MO_j2, MO_j3, MO_wi0, MO_wi1, MO_wi2, MO_wi3, MO_wi4, MO_wi5, MO_wj0, MO_wj1, MO_wj2, MO_wj3, MO_k0, MO_k1, MO_k2, MO_k3, MO_k4, Nat.reduceEqDiff, Nat.one_ne_zero, Nat.reduceLT, Nat.reduceLeDiff, Nat.reduceAdd, Nat.reduceSub, Nat.reduceMul, nI_add, nI_leI, nI_ltI, nI_eq, z_eq, z_lt, z_le, z_gt, z_ge, ↓reduceIte, not_true_eq_false, not_false_eq_true, if_true, if_false, kk_0, kk_1, kk_2, kk_3, kk_w2, kk_w3, kk_w4, kk_4, uk_44, e, show ¬ κ 1 ≤ p by omega]
            rfl
          · rw [if_neg n_6, if_pos n_4] at er
            rw [er]
            refine ⟨ι', kk (uk κ 4 3) 1 q, ?_, i1, rfl, rfl, fun fp r h => by cases h; rfl⟩
            rw [e161_7 77 (hb := rfl)]
            simp (disch := first | omega | assumption | exact MO_isO _ _ _ _ | (refine b30 ?_; omega) | (refine nI_inR ?_ ?_ ?_ <;> omega)) only [x161, e161_0, e161_1, e161_2, e161_5, e161_6, e161_8, e161_11, e161_12, e161_15, e161_18, e161_19, e161_22, e161_23, e161_24, e161_27, e161_28, e161_29, e161_30, e161_33, e161_36, e161_37, e161_40, e161_41, e161_43, e161_46, e161_47, e161_50, e161_51, e161_54, e161_55, e161_58, e161_59, e161_62, e161_63, e161_66, e161_69, e161_70, e161_71, e161_74, e161_77, e161_78, e161_79, e161_80, kv_s, kh_s, kn_s, kc_v, kc_n, MO_isO, MO_f0, MO_f1, MO_f2, MO_f3, MO_f4, MO_f5, MO_f6, MO_f7, MO_f8, MO_f9, MO_f10, MO_f11, MO_f12, MO_f13, MO_f14, MO_i0, MO_i1, MO_i2, MO_i3, MO_i4, MO_i5, MO_j0, MO_j1, MO_j2, MO_j3, MO_wi0, MO_wi1, MO_wi2, MO_wi3, MO_wi4, MO_wi5, MO_wj0, MO_wj1, MO_wj2, MO_wj3, MO_k0, MO_k1, MO_k2, MO_k3, MO_k4, Nat.reduceEqDiff, Nat.one_ne_zero, Nat.reduceLT, Nat.reduceLeDiff, Nat.reduceAdd, Nat.reduceSub, Nat.reduceMul, nI_add, nI_leI, nI_ltI, nI_eq, z_eq, z_lt, z_le, z_gt, z_ge, ↓reduceIte, not_true_eq_false, not_false_eq_true, if_true, if_false, kk_0, kk_1, kk_2, kk_3, kk_w2, kk_w3, kk_w4, kk_4, uk_44, e, n_2, n_6, show ¬ κ 1 ≤ p by omega]
            rfl
          · rw [if_neg n_7, if_pos n_5] at er
            rw [er]
            refine ⟨ι', kk (uk κ 4 3) 1 q, ?_, i1, rfl, rfl, fun fp r h => by cases h; rfl⟩
            rw [e161_7 77 (hb := rfl)]
            simp (disch := first | omega | assumption | exact MO_isO _ _ _ _ | (refine b30 ?_; omega) | (refine nI_inR ?_ ?_ ?_ <;> omega)) only [x161, e161_0, e161_1, e161_2, e161_5, e161_6, e161_8, e161_11, e161_12, e161_15, e161_18, e161_19, e161_22, e161_23, e161_24, e161_27, e161_28, e161_29, e161_30, e161_33, e161_36, e161_37, e161_40, e161_41, e161_43, e161_46, e161_47, e161_50, e161_51, e161_54, e161_55, e161_58, e161_59, e161_62, e161_63, e161_66, e161_69, e161_70, e161_71, e161_74, e161_77, e161_78, e161_79, e161_80, kv_s, kh_s, kn_s, kc_v, kc_n, MO_isO, MO_f0, MO_f1, MO_f2, MO_f3, MO_f4, MO_f5, MO_f6, MO_f7, MO_f8, MO_f9, MO_f10, MO_f11, MO_f12, MO_f13, MO_f14, MO_i0, MO_i1, MO_i2, MO_i3, MO_i4, MO_i5, MO_j0, MO_j1, MO_j2, MO_j3, MO_wi0, MO_wi1, MO_wi2, MO_wi3, MO_wi4, MO_wi5, MO_wj0, MO_wj1, MO_wj2, MO_wj3, MO_k0, MO_k1, MO_k2, MO_k3, MO_k4, Nat.reduceEqDiff, Nat.one_ne_zero, Nat.reduceLT, Nat.reduceLeDiff, Nat.reduceAdd, Nat.reduceSub, Nat.reduceMul, nI_add, nI_leI, nI_ltI, nI_eq, z_eq, z_lt, z_le, z_gt, z_ge, ↓reduceIte, not_true_eq_false, not_false_eq_true, if_true, if_false, kk_0, kk_1, kk_2, kk_3, kk_w2, kk_w3, kk_w4, kk_4, uk_44, e, n_3, n_7, show ¬ κ 1 ≤ p by omega]
            rfl
        · dsimp only at hv hg er e
          subst hv
          have z1 := nI_ne1 n hn2
          have z2 := nI_pos hn2
          rw [if_neg z1, if_neg z2] at er
          have e13 : ι' 3 = ι 3 := i1 3 (by omega)
          obtain ⟨ι2, κ2, e2, j1, j2, j3, j4⟩ := ih q b (c + 1) (t + 1) ι' (uk κ 4 0) 1 (some (.int (nI p))) (some (.int (nI n))) (by rw [e13]; exact h126) hn (show κ 1 ≤ q + F by omega) (by omega) hg (by omega)
          have ek : uk κ 4 0 1 = κ 1 := rfl
          rw [e13, ek] at e2 j4
          rw [er]
          refine ⟨ι2, κ2, ?_, fun t ht => (j1 t ht).trans (i1 t ht), j2, j3, j4⟩
          rw [e161_7 77 (hb := rfl)]
          simp (disch := first | omega | assumption | exact MO_isO _ _ _ _ | (refine b30 ?_; omega) | (refine nI_inR ?_ ?_ ?_ <;> omega)) only [x161, e161_0, e161_1, e161_2, e161_5, e161_6, e161_8, e161_11, e161_12, e161_15, e161_18, e161_19, e161_22, e161_23, e161_24, e161_27, e161_28, e161_29, e161_30, e161_33, e161_36, e161_37, e161_40, e161_41, e161_43, e161_46, e161_47, e161_50, e161_51, e161_54, e161_55, e161_58, e161_59, e161_62, e161_63, e161_66, e161_69, e161_70, e161_71, e161_74, e161_77, e161_78, e161_79, e161_80, kv_s, kh_s, kn_s, kc_v, kc_n, MO_isO, MO_f0, MO_f1, MO_f2, MO_f3, MO_f4, MO_f5, MO_f6, MO_f7, MO_f8, MO_f9, MO_f10, MO_f11, MO_f12, MO_f13, MO_f14, MO_i0, MO_i1, MO_i2, MO_i3, MO_i4, MO_i5, MO_j0, MO_j1, MO_j2, MO_j3, MO_wi0, MO_wi1, MO_wi2, MO_wi3, MO_wi4, MO_wi5, MO_wj0, MO_wj1, MO_wj2, MO_wj3, MO_k0, MO_k1, MO_k2, MO_k3, MO_k4, Nat.reduceEqDiff, Nat.one_ne_zero, Nat.reduceLT, Nat.reduceLeDiff, Nat.reduceAdd, Nat.reduceSub, Nat.reduceMul, nI_add, nI_leI, nI_ltI, nI_eq, z_eq, z_lt, z_le, z_gt, z_ge, ↓reduceIte, not_true_eq_false, not_false_eq_true, if_true, if_false, kk_0, kk_1, kk_2, kk_3, kk_w2, kk_w3, kk_w4, kk_4, uk_44, e, z1, show ¬ κ 1 ≤ p by omega]
          exact e2
    · have er : run1 (ι 3) (κ 1) (F + 1) p a c = (none, a, c) := by
        show (if p < κ 1 then _ else _) = _
        rw [if_neg hpn]
      rw [er]
      refine ⟨ι, kk κ f p, ?_, fun _ _ => rfl, rfl, rfl, fun fp r h => by cases h⟩
      rw [e161_7 77 (hb := rfl)]
      simp (disch := first | omega | assumption | exact MO_isO _ _ _ _ | (refine b30 ?_; omega) | (refine nI_inR ?_ ?_ ?_ <;> omega)) only [x161, e161_0, e161_1, e161_2, e161_5, e161_6, e161_8, e161_11, e161_12, e161_15, e161_18, e161_19, e161_22, e161_23, e161_24, e161_27, e161_28, e161_29, e161_30, e161_33, e161_36, e161_37, e161_40, e161_41, e161_43, e161_46, e161_47, e161_50, e161_51, e161_54, e161_55, e161_58, e161_59, e161_62, e161_63, e161_66, e161_69, e161_70, e161_71, e161_74, e161_77, e161_78, e161_79, e161_80, kv_s, kh_s, kn_s, kc_v, kc_n, MO_isO, MO_f0, MO_f1, MO_f2, MO_f3, MO_f4, MO_f5, MO_f6, MO_f7, MO_f8, MO_f9, MO_f10, MO_f11, MO_f12, MO_f13, MO_f14, MO_i0, MO_i1, MO_i2, MO_i3, MO_i4, MO_i5, MO_j0, MO_j1, MO_j2, MO_j3, Nat.reduceEqDiff, Nat.one_ne_zero, Nat.reduceLT, Nat.reduceLeDiff, Nat.reduceAdd, Nat.reduceSub, Nat.reduceMul, nI_add, nI_leI, nI_ltI, nI_eq, z_eq, z_lt, z_le, z_gt, z_ge, ↓reduceIte, not_true_eq_false, not_false_eq_true, if_true, if_false, kk_0, kk_1, kk_2, kk_3, kk_w2, kk_w3, show κ 1 ≤ p by omega]
      rfl
theorem uk_kk (κ : kT) : uk κ 2 0 = kk κ (κ 3) 0 := by
  funext i
  unfold kk uk
  by_cases h : i = 2
  · rw [if_pos h, if_pos h]
  · rw [if_neg h, if_neg h]
    by_cases h3 : i = 3
    · rw [if_pos h3, h3]
    · rw [if_neg h3]
theorem m161 (a : sT) (t : Nat) (ι : sT) (κ : kT) (h126 : ∀ i, ι 3 i ≤ 126) (hn : κ 1 ≤ 80) (ok : okT t a) (ht : t + 80 < 2 ^ 30) : ∃ (ι' : sT) (κ' : kT), ex 161 [.ref 77] (MO H (u1 ι 0 (flat a)) z κ) = some (some (.int (doesN (run1 (ι 3) (κ 1) 80 0 a 0).1 (run1 (ι 3) (κ 1) 80 0 a 0).2.2)), MO H (u1 ι' 0 (flat (run1 (ι 3) (κ 1) 80 0 a 0).2.1)) z κ') ∧ (∀ t, t ≠ 5 → ι' t = ι t) ∧ κ' 0 = κ 0 ∧ κ' 1 = κ 1 ∧ (∀ fp r, (run1 (ι 3) (κ 1) 80 0 a 0).1 = some (fp, r) → κ' 4 = r) := by
  obtain ⟨ι', κ', e, h⟩ := l161 H z 80 0 a 0 t ι κ (κ 3) none none h126 hn (by omega) (by omega) ok ht
  refine ⟨ι', κ', ?_, h⟩
  have e0 : ex 161 [.ref 77] (MO H (u1 ι 0 (flat a)) z κ) = ev 161 7 [some (.ref 77), some (.int (nI 0)), none, none] [] (MO H (u1 ι 0 (flat a)) z (kk κ (κ 3) 0)) := by
    rw [← uk_kk]
    simp (disch := first | omega | assumption | exact MO_isO _ _ _ _ | (refine b30 ?_; omega) | (refine nI_inR ?_ ?_ ?_ <;> omega)) only [x161, e161_0, e161_1, e161_2, e161_5, e161_6, e161_8, e161_11, e161_12, e161_15, e161_18, e161_19, e161_22, e161_23, e161_24, e161_27, e161_28, e161_29, e161_30, e161_33, e161_36, e161_37, e161_40, e161_41, e161_43, e161_46, e161_47, e161_50, e161_51, e161_54, e161_55, e161_58, e161_59, e161_62, e161_63, e161_66, e161_69, e161_70, e161_71, e161_74, e161_77, e161_78, e161_79, e161_80, kv_s, kh_s, kn_s, kc_v, kc_n, MO_isO, MO_f0, MO_f1, MO_f2, MO_f3, MO_f4, MO_f5, MO_f6, MO_f7, MO_f8, MO_f9, MO_f10, MO_f11, MO_f12, MO_f13, MO_f14, MO_i0, MO_i1, MO_i2, MO_i3, MO_i4, MO_i5, MO_j0, MO_j1, MO_j2, MO_j3, MO_wi0, MO_wi1, MO_wi2, MO_wi3, MO_wi4, MO_wi5, MO_wj0, MO_wj1, MO_wj2, MO_wj3, MO_k0, MO_k1, MO_k2, MO_k3, MO_k4, Nat.reduceEqDiff, Nat.one_ne_zero, Nat.reduceLT, Nat.reduceLeDiff, Nat.reduceAdd, Nat.reduceSub, Nat.reduceMul, nI_add, nI_leI, nI_ltI, nI_eq, z_eq, z_lt, z_le, z_gt, z_ge, ↓reduceIte, not_true_eq_false, not_false_eq_true, if_true, if_false]
  rw [e0, e]
theorem u1_comm (ι : sT) (k k' : Nat) (F G : Nat → Nat) (h : k ≠ k') : u1 (u1 ι k F) k' G = u1 (u1 ι k' G) k F := by
  funext q
  by_cases h1 : q = k
  · subst h1
    rw [u1_n _ _ _ _ h, u1_s, u1_s]
  · rw [u1_n _ _ _ _ h1]
    by_cases h2 : q = k'
    · subst h2
      rw [u1_s, u1_s]
    · rw [u1_n _ _ _ _ h2, u1_n _ _ _ _ h2, u1_n _ _ _ _ h1]
theorem bgn_u (ι : sT) (F : Nat → Nat) : bgn (u1 ι 0 F) 58 = u1 (u1 ι 1 (fun i => if i < 58 then F i else ι 1 i)) 0 F := by
  unfold bgn
  rw [u1_s, u1_n ι 0 F 1 (by omega), u1_comm _ _ _ _ _ (by omega)]
theorem rtn_u (ι : sT) (a b : sT) (h : ∀ i, i < 58 → ι 1 i = flat a i) : rtn (u1 ι 0 (flat b)) 58 = u1 ι 0 (flat a) := by
  unfold rtn
  rw [u1_s, u1_n ι 0 (flat b) 1 (by omega), u1_u1]
  congr 1
  funext j
  by_cases hj : j < 58
  · rw [if_pos hj, h j hj]
  · rw [if_neg hj, flat_hi _ _ (by omega), flat_hi _ _ (by omega)]
/-- what is told of a fault -/
def fltN (o : Option (Nat × Nat)) (w : Nat) : Int32 := match o with
  | none => -1000004
  | some (fp, r) => if w = 0 then nI fp else nI r
def bg (ι : sT) (a : sT) : sT := u1 ι 1 (fun i => if i < 58 then flat a i else ι 1 i)
theorem bg_1 (ι : sT) (a : sT) (i : Nat) (h : i < 58) : bg ι a 1 i = flat a i := by
  unfold bg
  rw [u1_s, if_pos h]
theorem bg_n (ι : sT) (a : sT) (k : Nat) (h : k ≠ 1) : bg ι a k = ι k := u1_n _ _ _ _ h
theorem m115b (ι : sT) (κ : kT) (a : sT) : ex 115 [.ref 77] (MO H (u1 ι 0 (flat a)) z κ) = some (none, MO H (u1 (bg ι a) 0 (flat a)) z κ) := by
  rw [m115, bgn_u]
  rfl
theorem m160o (κ : kT) (ι : sT) (w : Int32) (h : ¬ inR w (nI 0) (nI 1)) : ex 160 [.ref 77, .int w] (MO H ι z κ) = some (some (.int (-1000001)), MO H ι z κ) := by
  simp (disch := first | omega | assumption | exact MO_isO _ _ _ _ | (refine b30 ?_; omega) | (refine nI_inR ?_ ?_ ?_ <;> omega)) only [x160, e160_0, e160_1, e160_2, e160_3, e160_6, e160_9, e160_11, e160_12, e160_13, e160_16, e160_17, e160_20, e160_21, e160_22, e160_25, e160_26, e160_29, e160_31, e160_34, e160_35, e160_38, e160_39, e160_42, e160_43, e160_46, Nat.reduceEqDiff, Nat.one_ne_zero, Nat.reduceLT, Nat.reduceLeDiff, Nat.reduceAdd, Nat.reduceSub, Nat.reduceMul, nI_add, nI_leI, nI_ltI, nI_eq, z_eq, z_lt, z_le, z_gt, z_ge, ↓reduceIte, not_true_eq_false, not_false_eq_true, if_true, if_false, kv_s, kh_s, kn_s, kc_v, kc_n, m117o]
theorem m160 (a : sT) (t : Nat) (ι : sT) (κ : kT) (w : Nat) (hw : w ≤ 1) (h126 : ∀ i, ι 3 i ≤ 126) (hn : κ 1 ≤ 80) (ok : okT t a) (ht : t + 80 < 2 ^ 30) : ∃ (ι' : sT) (κ' : kT), ex 160 [.ref 77, .int (nI w)] (MO H (u1 ι 0 (flat a)) z κ) = some (some (.int (fltN (run1 (ι 3) (κ 1) 80 0 a 0).1 w)), MO H (u1 ι' 0 (flat a)) z κ') ∧ (∀ t, t ≠ 5 → t ≠ 1 → ι' t = ι t) ∧ κ' 0 = κ 0 ∧ κ' 1 = κ 1 := by
  have e1 := m115b H z ι κ a
  have e3 : bg ι a 3 = ι 3 := bg_n _ _ _ (by omega)
  obtain ⟨ι', κ', e, i1, i2, i3, i4⟩ := m161 H z a t (bg ι a) κ (by rw [e3]; exact h126) hn ok ht
  rw [e3] at e i4
  have hr := run1_ok (ι 3) (κ 1) h126 80 0 a 0 t ok
  generalize hR : run1 (ι 3) (κ 1) 80 0 a 0 = R at e i4 hr
  obtain ⟨o, b, m⟩ := R
  dsimp only at e i4 hr
  have e68 := m168 H (u1 ι' 0 (flat b)) z κ'
  rw [rtn_u ι' a b (fun i hi => by rw [i1 1 (by omega)]; exact bg_1 ι a i hi)] at e68
  refine ⟨ι', κ', ?_, fun t h5 h1 => (i1 t h5).trans (bg_n _ _ _ h1), i2, i3⟩
  dsimp only
  cases o with
  | none =>
    have hm := m1_neg m (by omega)
    have hz : ¬ (0 : Int32) ≤ -1 - nI m := by grind
    dsimp only [doesN] at e
    simp (disch := first | omega | assumption | exact MO_isO _ _ _ _ | (refine b30 ?_; omega) | (refine nI_inR ?_ ?_ ?_ <;> omega)) only [x160, e160_0, e160_1, e160_2, e160_3, e160_6, e160_9, e160_11, e160_12, e160_13, e160_16, e160_17, e160_20, e160_21, e160_22, e160_25, e160_26, e160_29, e160_31, e160_34, e160_35, e160_38, e160_39, e160_42, e160_43, e160_46, kv_s, kh_s, kn_s, kc_v, kc_n, MO_isO, MO_f0, MO_f1, MO_f2, MO_f3, MO_f4, MO_f5, MO_f6, MO_f7, MO_f8, MO_f9, MO_f10, MO_f11, MO_f12, MO_f13, MO_f14, MO_i0, MO_i1, MO_i2, MO_i3, MO_i4, MO_i5, MO_j0, MO_j1, MO_j2, MO_j3, Nat.reduceEqDiff, Nat.one_ne_zero, Nat.reduceLT, Nat.reduceLeDiff, Nat.reduceAdd, Nat.reduceSub, Nat.reduceMul, nI_add, nI_leI, nI_ltI, nI_eq, z_eq, z_lt, z_le, z_gt, z_ge, ↓reduceIte, not_true_eq_false, not_false_eq_true, if_true, if_false, m117i, e1, e, e68, hz]
    rfl
  | some fr =>
    obtain ⟨fp, r⟩ := fr
    have h4 := i4 fp r rfl
    have h5 := hr.2.2 fp r rfl
    dsimp only [doesN] at e
    unfold fltN
    by_cases q : w = 0
    · simp (disch := first | omega | assumption | exact MO_isO _ _ _ _ | (refine b30 ?_; omega) | (refine nI_inR ?_ ?_ ?_ <;> omega)) only [x160, e160_0, e160_1, e160_2, e160_3, e160_6, e160_9, e160_11, e160_12, e160_13, e160_16, e160_17, e160_20, e160_21, e160_22, e160_25, e160_26, e160_29, e160_31, e160_34, e160_35, e160_38, e160_39, e160_42, e160_43, e160_46, kv_s, kh_s, kn_s, kc_v, kc_n, MO_isO, MO_f0, MO_f1, MO_f2, MO_f3, MO_f4, MO_f5, MO_f6, MO_f7, MO_f8, MO_f9, MO_f10, MO_f11, MO_f12, MO_f13, MO_f14, MO_i0, MO_i1, MO_i2, MO_i3, MO_i4, MO_i5, MO_j0, MO_j1, MO_j2, MO_j3, Nat.reduceEqDiff, Nat.one_ne_zero, Nat.reduceLT, Nat.reduceLeDiff, Nat.reduceAdd, Nat.reduceSub, Nat.reduceMul, nI_add, nI_leI, nI_ltI, nI_eq, z_eq, z_lt, z_le, z_gt, z_ge, ↓reduceIte, not_true_eq_false, not_false_eq_true, if_true, if_false, m117i, e1, e, e68, h4, q]
    · simp (disch := first | omega | assumption | exact MO_isO _ _ _ _ | (refine b30 ?_; omega) | (refine nI_inR ?_ ?_ ?_ <;> omega)) only [x160, e160_0, e160_1, e160_2, e160_3, e160_6, e160_9, e160_11, e160_12, e160_13, e160_16, e160_17, e160_20, e160_21, e160_22, e160_25, e160_26, e160_29, e160_31, e160_34, e160_35, e160_38, e160_39, e160_42, e160_43, e160_46, kv_s, kh_s, kn_s, kc_v, kc_n, MO_isO, MO_f0, MO_f1, MO_f2, MO_f3, MO_f4, MO_f5, MO_f6, MO_f7, MO_f8, MO_f9, MO_f10, MO_f11, MO_f12, MO_f13, MO_f14, MO_i0, MO_i1, MO_i2, MO_i3, MO_i4, MO_i5, MO_j0, MO_j1, MO_j2, MO_j3, Nat.reduceEqDiff, Nat.one_ne_zero, Nat.reduceLT, Nat.reduceLeDiff, Nat.reduceAdd, Nat.reduceSub, Nat.reduceMul, nI_add, nI_leI, nI_ltI, nI_eq, z_eq, z_lt, z_le, z_gt, z_ge, ↓reduceIte, not_true_eq_false, not_false_eq_true, if_true, if_false, m117i, e1, e, e68, h4, q]
/-- all is done, and told how many -/
theorem m169 (a : sT) (t : Nat) (ι : sT) (κ : kT) (h126 : ∀ i, ι 3 i ≤ 126) (hn : κ 1 ≤ 80) (ok : okT t a) (ht : t + 80 < 2 ^ 30) (h : Nat → sT) (n : Nat) (hn4 : n ≤ 4) (hκ : κ 0 = n) (hP : okPast h n (ι 2)) : (∀ fr, (run1 (ι 3) (κ 1) 80 0 a 0).1 = some fr → ∃ (ι' : sT) (κ' : kT), ex 169 [.ref 77] (MO H (u1 ι 0 (flat a)) z κ) = some (some (.int (-1000002)), MO H (u1 ι' 0 (flat a)) z κ') ∧ (∀ t, t ≠ 5 → t ≠ 1 → ι' t = ι t) ∧ κ' 0 = κ 0 ∧ κ' 1 = κ 1) ∧ ((run1 (ι 3) (κ 1) 80 0 a 0).1 = none → ∃ (ι' : sT) (κ' : kT), ex 169 [.ref 77] (MO H (u1 ι 0 (flat a)) z κ) = some (some (.int (nI (run1 (ι 3) (κ 1) 80 0 a 0).2.2)), MO H (u1 ι' 0 (flat (run1 (ι 3) (κ 1) 80 0 a 0).2.1)) z κ') ∧ okPast (pushH h n a) (pushN n) (ι' 2) ∧ (∀ t, t ≠ 5 → t ≠ 1 → t ≠ 2 → ι' t = ι t) ∧ κ' 0 = pushN n ∧ κ' 1 = κ 1) := by
  have e1 := m115b H z ι κ a
  have e3 : bg ι a 3 = ι 3 := bg_n _ _ _ (by omega)
  obtain ⟨ι', κ', e, i1, i2, i3, i4⟩ := m161 H z a t (bg ι a) κ (by rw [e3]; exact h126) hn ok ht
  rw [e3] at e i4
  have hr := run1_ok (ι 3) (κ 1) h126 80 0 a 0 t ok
  generalize hR : run1 (ι 3) (κ 1) 80 0 a 0 = R at e i4 hr
  obtain ⟨o, b, m⟩ := R
  dsimp only at e i4 hr
  constructor
  · rintro fr rfl
    obtain ⟨fp, r⟩ := fr
    have e68 := m168 H (u1 ι' 0 (flat b)) z κ'
    rw [rtn_u ι' a b (fun i hi => by rw [i1 1 (by omega)]; exact bg_1 ι a i hi)] at e68
    have h5 := hr.2.2 fp r rfl
    refine ⟨ι', κ', ?_, fun t h5 h1 => (i1 t h5).trans (bg_n _ _ _ h1), i2, i3⟩
    dsimp only [doesN] at e
    simp (disch := first | omega | assumption | exact MO_isO _ _ _ _ | (refine b30 ?_; omega) | (refine nI_inR ?_ ?_ ?_ <;> omega)) only [x169, e169_0, e169_1, e169_4, e169_5, e169_8, e169_9, e169_10, e169_13, e169_14, e169_17, e169_19, e169_20, e169_21, e169_22, e169_23, e169_24, e169_27, kv_s, kh_s, kn_s, kc_v, kc_n, MO_isO, MO_f0, MO_f1, MO_f2, MO_f3, MO_f4, MO_f5, MO_f6, MO_f7, MO_f8, MO_f9, MO_f10, MO_f11, MO_f12, MO_f13, MO_f14, MO_i0, MO_i1, MO_i2, MO_i3, MO_i4, MO_i5, MO_j0, MO_j1, MO_j2, MO_j3, Nat.reduceEqDiff, Nat.one_ne_zero, Nat.reduceLT, Nat.reduceLeDiff, Nat.reduceAdd, Nat.reduceSub, Nat.reduceMul, nI_add, nI_leI, nI_ltI, nI_eq, z_eq, z_lt, z_le, z_gt, z_ge, ↓reduceIte, not_true_eq_false, not_false_eq_true, if_true, if_false, e1, e, e68]
  · rintro rfl
    have hm := m1_neg m (by omega)
    have hmm := m1_m1 m
    have s2 : u1 ι' 0 (flat b) 2 = ι 2 := by rw [u1_n _ _ _ _ (by omega), i1 2 (by omega), bg_n _ _ _ (by omega)]
    obtain ⟨P, e19, hP2⟩ := m119 H (u1 ι' 0 (flat b)) z κ' h n m (by omega) hn4 (by omega) a (by rw [s2]; exact hP) (fun i hi => by rw [u1_n _ _ _ _ (by omega), i1 1 (by omega)]; exact bg_1 ι a i hi)
    have hc : u1 (u1 ι' 0 (flat b)) 2 P = u1 (u1 ι' 2 P) 0 (flat b) := u1_comm _ _ _ _ _ (by omega)
    rw [hc] at e19
    refine ⟨u1 ι' 2 P, uk κ' 0 (pushN n), ?_, ?_, ?_, rfl, i3⟩
    · dsimp only [doesN] at e
      simp (disch := first | omega | assumption | exact MO_isO _ _ _ _ | (refine b30 ?_; omega) | (refine nI_inR ?_ ?_ ?_ <;> omega)) only [x169, e169_0, e169_1, e169_4, e169_5, e169_8, e169_9, e169_10, e169_13, e169_14, e169_17, e169_19, e169_20, e169_21, e169_22, e169_23, e169_24, e169_27, kv_s, kh_s, kn_s, kc_v, kc_n, MO_isO, MO_f0, MO_f1, MO_f2, MO_f3, MO_f4, MO_f5, MO_f6, MO_f7, MO_f8, MO_f9, MO_f10, MO_f11, MO_f12, MO_f13, MO_f14, MO_i0, MO_i1, MO_i2, MO_i3, MO_i4, MO_i5, MO_j0, MO_j1, MO_j2, MO_j3, Nat.reduceEqDiff, Nat.one_ne_zero, Nat.reduceLT, Nat.reduceLeDiff, Nat.reduceAdd, Nat.reduceSub, Nat.reduceMul, nI_add, nI_leI, nI_ltI, nI_eq, z_eq, z_lt, z_le, z_gt, z_ge, ↓reduceIte, not_true_eq_false, not_false_eq_true, if_true, if_false, e1, e, hm, hmm, e19]
    · rw [u1_s]
      exact hP2
    · intro t h5 h1 h2
      rw [u1_n _ _ _ _ h2, i1 t h5, bg_n _ _ _ h1]
end
