-- PART 55: texts, second: the reference reads
def kk (κ : kT) (f p : Nat) : kT := uk (uk κ 3 f) 2 p
theorem kk_0 (κ : kT) (f p : Nat) : kk κ f p 0 = κ 0 := rfl
theorem kk_1 (κ : kT) (f p : Nat) : kk κ f p 1 = κ 1 := rfl
theorem kk_2 (κ : kT) (f p : Nat) : kk κ f p 2 = p := rfl
theorem kk_3 (κ : kT) (f p : Nat) : kk κ f p 3 = f := rfl
theorem kk_w2 (κ : kT) (f p q : Nat) : uk (kk κ f p) 2 q = kk κ f q := by
  funext i
  unfold kk uk
  by_cases h : i = 2
  · rw [if_pos h, if_pos h]
  · rw [if_neg h, if_neg h, if_neg h]
theorem kk_w3 (κ : kT) (f p g : Nat) : uk (kk κ f p) 3 g = kk κ g p := by
  funext i
  unfold kk uk
  by_cases h : i = 3
  · subst h
    rw [if_pos rfl, if_neg (by omega), if_pos rfl]
  · rw [if_neg h]
    by_cases h2 : i = 2
    · rw [if_pos h2, if_pos h2]
    · rw [if_neg h2, if_neg h2, if_neg h, if_neg h]
theorem hr_in (τ : Nat → Nat) (n p lo hi : Nat) (h126 : ∀ i, τ i ≤ 126) (h1 : lo < 1000) (h2 : hi < 1000) : inR (hr τ n p) (nI lo) (nI hi) ↔ bt τ n p lo hi := by
  have := h126 p
  unfold inR hr bt
  by_cases h : p < n
  · rw [if_pos h, nI_leI (by omega) (by omega), nI_leI (by omega) (by omega)]
    constructor
    · rintro ⟨a, b⟩; exact ⟨h, a, b⟩
    · rintro ⟨_, a, b⟩; exact ⟨a, b⟩
  · rw [if_neg h]
    constructor
    · rintro ⟨a, _⟩
      have h0 := nI_pos' (n := lo) (by omega)
      have h3 : (-1 : Int32) < 0 := by decide
      exfalso
      grind
    · rintro ⟨a, _⟩
      exact absurd a h
theorem hr_eq (τ : Nat → Nat) (n p c : Nat) (h126 : ∀ i, τ i ≤ 126) (hc : c < 1000) : hr τ n p = nI c ↔ p < n ∧ τ p = c := by
  have := h126 p
  unfold hr
  by_cases h : p < n
  · rw [if_pos h, nI_eq (by omega) (by omega)]
    exact ⟨fun e => ⟨h, e⟩, fun e => e.2⟩
  · rw [if_neg h]
    constructor
    · intro e
      have h0 := nI_pos' (n := c) (by omega)
      have h3 : (-1 : Int32) < 0 := by decide
      exfalso
      grind
    · rintro ⟨a, _⟩
      exact absurd a h
theorem hr_lt (τ : Nat → Nat) (n p : Nat) (h : p < n) : hr τ n p = nI (τ p) := if_pos h
section
variable (H : pi_H) (ι : sT) (z : jT) (κ : kT)
theorem m164 (h126 : ∀ i, ι 3 i ≤ 126) (hn : κ 1 ≤ 80) (f p : Nat) (hp : p < 1000) : ex 164 [.ref 77] (MO H ι z (kk κ f p)) = some (some (.int (hr (ι 3) (κ 1) p)), MO H ι z (kk κ f p)) := by
  unfold hr
  by_cases h : p < κ 1
  · simp (disch := first | omega | assumption | exact MO_isO _ _ _ _ | (refine b30 ?_; omega) | (refine nI_inR ?_ ?_ ?_ <;> omega)) only [x164, e164_0, e164_1, e164_4, e164_5, e164_8, e164_11, e164_12, e164_15, e164_16, e164_19, e164_20, e164_23, e164_24, kv_s, kh_s, kn_s, kc_v, kc_n, MO_isO, MO_f0, MO_f1, MO_f2, MO_f3, MO_f4, MO_f5, MO_f6, MO_f7, MO_f8, MO_f9, MO_f10, MO_f11, MO_f12, MO_f13, MO_f14, MO_i0, MO_i1, MO_i2, MO_i3, MO_i4, MO_i5, MO_j0, MO_j1, MO_j2, MO_j3, Nat.reduceEqDiff, Nat.one_ne_zero, Nat.reduceLT, Nat.reduceLeDiff, Nat.reduceAdd, Nat.reduceSub, Nat.reduceMul, nI_add, nI_leI, nI_ltI, nI_eq, z_eq, z_lt, z_le, z_gt, z_ge, ↓reduceIte, not_true_eq_false, not_false_eq_true, if_true, if_false, kk_0, kk_1, kk_2, kk_3, kk_w2, kk_w3, h, show ¬ κ 1 ≤ p by omega]
  · simp (disch := first | omega | assumption | exact MO_isO _ _ _ _ | (refine b30 ?_; omega) | (refine nI_inR ?_ ?_ ?_ <;> omega)) only [x164, e164_0, e164_1, e164_4, e164_5, e164_8, e164_11, e164_12, e164_15, e164_16, e164_19, e164_20, e164_23, e164_24, kv_s, kh_s, kn_s, kc_v, kc_n, MO_isO, MO_f0, MO_f1, MO_f2, MO_f3, MO_f4, MO_f5, MO_f6, MO_f7, MO_f8, MO_f9, MO_f10, MO_f11, MO_f12, MO_f13, MO_f14, MO_i0, MO_i1, MO_i2, MO_i3, MO_i4, MO_i5, MO_j0, MO_j1, MO_j2, MO_j3, Nat.reduceEqDiff, Nat.one_ne_zero, Nat.reduceLT, Nat.reduceLeDiff, Nat.reduceAdd, Nat.reduceSub, Nat.reduceMul, nI_add, nI_leI, nI_ltI, nI_eq, z_eq, z_lt, z_le, z_gt, z_ge, ↓reduceIte, not_true_eq_false, not_false_eq_true, if_true, if_false, kk_0, kk_1, kk_2, kk_3, kk_w2, kk_w3, h, show κ 1 ≤ p by omega]
theorem m167 (h126 : ∀ i, ι 3 i ≤ 126) (hn : κ 1 ≤ 80) (f p c : Nat) (hf : f ≤ 1) (hp : p < 1000) (hc : c < 1000) : ex 167 [.ref 77, .int (nI c)] (MO H ι z (kk κ f p)) = some (none, MO H ι z (kk κ (if f = 1 ∧ (p < κ 1 ∧ ι 3 p = c) then 1 else 0) (p + 1))) := by
  have e64 := m164 H ι z κ h126 hn f p hp
  have k0 := okb0
  have k1 := okb1
  have he := hr_eq (ι 3) (κ 1) p c h126 hc
  by_cases q : f = 0
  · subst q
    simp (disch := first | omega | assumption | exact MO_isO _ _ _ _ | (refine b30 ?_; omega) | (refine nI_inR ?_ ?_ ?_ <;> omega)) only [x167, e167_0, e167_1, e167_2, e167_5, e167_8, e167_9, e167_12, e167_13, e167_16, e167_17, e167_20, e167_21, e167_24, e167_25, e167_26, e167_29, e167_30, e167_31, e167_34, kv_s, kh_s, kn_s, kc_v, kc_n, MO_isO, MO_f0, MO_f1, MO_f2, MO_f3, MO_f4, MO_f5, MO_f6, MO_f7, MO_f8, MO_f9, MO_f10, MO_f11, MO_f12, MO_f13, MO_f14, MO_i0, MO_i1, MO_i2, MO_i3, MO_i4, MO_i5, MO_j0, MO_j1, MO_j2, MO_j3, MO_wi0, MO_wi1, MO_wi2, MO_wi3, MO_wi4, MO_wi5, MO_wj0, MO_wj1, MO_wj2, MO_wj3, MO_k0, MO_k1, MO_k2, MO_k3, MO_k4, Nat.reduceEqDiff, Nat.one_ne_zero, Nat.reduceLT, Nat.reduceLeDiff, Nat.reduceAdd, Nat.reduceSub, Nat.reduceMul, nI_add, nI_leI, nI_ltI, nI_eq, z_eq, z_lt, z_le, z_gt, z_ge, ↓reduceIte, not_true_eq_false, not_false_eq_true, if_true, if_false, kk_0, kk_1, kk_2, kk_3, kk_w2, kk_w3, Nat.zero_ne_one, false_and]
  · by_cases q2 : p < κ 1 ∧ ι 3 p = c
    · have e := he.mpr q2
      rw [if_pos ⟨by omega, q2⟩]
      simp (disch := first | omega | assumption | exact MO_isO _ _ _ _ | (refine b30 ?_; omega) | (refine nI_inR ?_ ?_ ?_ <;> omega)) only [x167, e167_0, e167_1, e167_2, e167_5, e167_8, e167_9, e167_12, e167_13, e167_16, e167_17, e167_20, e167_21, e167_24, e167_25, e167_26, e167_29, e167_30, e167_31, e167_34, kv_s, kh_s, kn_s, kc_v, kc_n, MO_isO, MO_f0, MO_f1, MO_f2, MO_f3, MO_f4, MO_f5, MO_f6, MO_f7, MO_f8, MO_f9, MO_f10, MO_f11, MO_f12, MO_f13, MO_f14, MO_i0, MO_i1, MO_i2, MO_i3, MO_i4, MO_i5, MO_j0, MO_j1, MO_j2, MO_j3, MO_wi0, MO_wi1, MO_wi2, MO_wi3, MO_wi4, MO_wi5, MO_wj0, MO_wj1, MO_wj2, MO_wj3, MO_k0, MO_k1, MO_k2, MO_k3, MO_k4, Nat.reduceEqDiff, Nat.one_ne_zero, Nat.reduceLT, Nat.reduceLeDiff, Nat.reduceAdd, Nat.reduceSub, Nat.reduceMul, nI_add, nI_leI, nI_ltI, nI_eq, z_eq, z_lt, z_le, z_gt, z_ge, ↓reduceIte, not_true_eq_false, not_false_eq_true, if_true, if_false, kk_0, kk_1, kk_2, kk_3, kk_w2, kk_w3, q, e64, e]
    · have e : ¬ hr (ι 3) (κ 1) p = nI c := fun e => q2 (he.mp e)
      rw [if_neg (fun e => q2 e.2)]
      simp (disch := first | omega | assumption | exact MO_isO _ _ _ _ | (refine b30 ?_; omega) | (refine nI_inR ?_ ?_ ?_ <;> omega)) only [x167, e167_0, e167_1, e167_2, e167_5, e167_8, e167_9, e167_12, e167_13, e167_16, e167_17, e167_20, e167_21, e167_24, e167_25, e167_26, e167_29, e167_30, e167_31, e167_34, kv_s, kh_s, kn_s, kc_v, kc_n, MO_isO, MO_f0, MO_f1, MO_f2, MO_f3, MO_f4, MO_f5, MO_f6, MO_f7, MO_f8, MO_f9, MO_f10, MO_f11, MO_f12, MO_f13, MO_f14, MO_i0, MO_i1, MO_i2, MO_i3, MO_i4, MO_i5, MO_j0, MO_j1, MO_j2, MO_j3, MO_wi0, MO_wi1, MO_wi2, MO_wi3, MO_wi4, MO_wi5, MO_wj0, MO_wj1, MO_wj2, MO_wj3, MO_k0, MO_k1, MO_k2, MO_k3, MO_k4, Nat.reduceEqDiff, Nat.one_ne_zero, Nat.reduceLT, Nat.reduceLeDiff, Nat.reduceAdd, Nat.reduceSub, Nat.reduceMul, nI_add, nI_leI, nI_ltI, nI_eq, z_eq, z_lt, z_le, z_gt, z_ge, ↓reduceIte, not_true_eq_false, not_false_eq_true, if_true, if_false, kk_0, kk_1, kk_2, kk_3, kk_w2, kk_w3, q, e64, e]
theorem m166 (h126 : ∀ i, ι 3 i ≤ 126) (hn : κ 1 ≤ 80) (f p : Nat) (hf : f ≤ 1) (hp : p < 900) : ∃ v q g, ex 166 [.ref 77] (MO H ι z (kk κ f p)) = some (some (.int (nI v)), MO H ι z (kk κ g q)) ∧ v < 100 ∧ p < q ∧ q ≤ p + 3 ∧ g ≤ 1 ∧ (f = 1 → ∀ x y, n1 (ι 3) (κ 1) p = some (x, y) → v = x ∧ q = y ∧ g = 1) ∧ ((f = 0 ∨ n1 (ι 3) (κ 1) p = none) → g = 0) := by
  have e67 := m167 H ι z κ h126 hn f p 32 hf (by omega) (by omega)
  generalize hF : (if f = 1 ∧ (p < κ 1 ∧ ι 3 p = 32) then 1 else 0) = F at e67
  have hF1 : F ≤ 1 := by rw [← hF]; split <;> omega
  have a1 := m164 H ι z κ h126 hn F (p + 1) (by omega)
  have a2 := m164 H ι z κ h126 hn F (p + 2) (by omega)
  have k0 := okb0
  have k1 := okb1
  have i1 := hr_in (ι 3) (κ 1) (p + 1) 48 57 h126 (by omega) (by omega)
  have i2 := hr_in (ι 3) (κ 1) (p + 2) 48 57 h126 (by omega) (by omega)
  have t1 := h126 (p + 1)
  have t2 := h126 (p + 2)
  by_cases d1 : bt (ι 3) (κ 1) (p + 1) 48 57
  · have j1 := i1.mpr d1
    have d1' := id d1
    obtain ⟨b1, b2, b3⟩ := d1
    rw [hr_lt _ _ _ b1] at a1 j1
    by_cases d2 : bt (ι 3) (κ 1) (p + 2) 48 57
    · have j2 := i2.mpr d2
      obtain ⟨c1, c2, c3⟩ := d2
      rw [hr_lt _ _ _ c1] at a2 j2
      have en : p < κ 1 ∧ ι 3 p = 32 → n1 (ι 3) (κ 1) p = some (10 * (ι 3 (p + 1) - 48) + (ι 3 (p + 2) - 48), p + 3) := by
        intro h
        unfold n1 nm
        rw [if_pos h, if_pos ⟨b1, b2, b3⟩, if_pos ⟨c1, c2, c3⟩]
      refine ⟨10 * (ι 3 (p + 1) - 48) + ι 3 (p + 2) - 48, p + 3, F, ?_, by omega, by omega, by omega, hF1, ?_, ?_⟩
      · by_cases q : F = 0
        · subst q
          simp (disch := first | omega | assumption | exact MO_isO _ _ _ _ | (refine b30 ?_; omega) | (refine nI_inR ?_ ?_ ?_ <;> omega)) only [x166, e166_0, e166_1, e166_3, e166_6, e166_7, e166_8, e166_9, e166_10, e166_11, e166_12, e166_15, e166_16, e166_19, e166_21, e166_23, e166_26, e166_29, e166_31, e166_32, e166_33, e166_34, e166_37, e166_38, e166_40, e166_41, e166_42, e166_45, e166_46, e166_47, e166_50, e166_51, e166_52, e166_55, e166_58, e166_59, e166_60, e166_63, e166_66, e166_67, e166_70, e166_71, e166_74, e166_75, e166_78, e166_79, kv_s, kh_s, kn_s, kc_v, kc_n, MO_isO, MO_f0, MO_f1, MO_f2, MO_f3, MO_f4, MO_f5, MO_f6, MO_f7, MO_f8, MO_f9, MO_f10, MO_f11, MO_f12, MO_f13, MO_f14, MO_i0, MO_i1, MO_i2, MO_i3, MO_i4, MO_i5, MO_j0, MO_j1, MO_j2, MO_j3, MO_wi0, MO_wi1, MO_wi2, MO_wi3, MO_wi4, MO_wi5, MO_wj0, MO_wj1, MO_wj2, MO_wj3, MO_k0, MO_k1, MO_k2, MO_k3, MO_k4, Nat.reduceEqDiff, Nat.one_ne_zero, Nat.reduceLT, Nat.reduceLeDiff, Nat.reduceAdd, Nat.reduceSub, Nat.reduceMul, nI_add, nI_leI, nI_ltI, nI_eq, z_eq, z_lt, z_le, z_gt, z_ge, ↓reduceIte, not_true_eq_false, not_false_eq_true, if_true, if_false, kk_0, kk_1, kk_2, kk_3, kk_w2, kk_w3, e67, a1, a2, m117i, pk_mul, pk_sub, Nat.mul_zero, Nat.zero_add, Nat.add_assoc]
        · have q : F = 1 := by omega
          subst q
          simp (disch := first | omega | assumption | exact MO_isO _ _ _ _ | (refine b30 ?_; omega) | (refine nI_inR ?_ ?_ ?_ <;> omega)) only [x166, e166_0, e166_1, e166_3, e166_6, e166_7, e166_8, e166_9, e166_10, e166_11, e166_12, e166_15, e166_16, e166_19, e166_21, e166_23, e166_26, e166_29, e166_31, e166_32, e166_33, e166_34, e166_37, e166_38, e166_40, e166_41, e166_42, e166_45, e166_46, e166_47, e166_50, e166_51, e166_52, e166_55, e166_58, e166_59, e166_60, e166_63, e166_66, e166_67, e166_70, e166_71, e166_74, e166_75, e166_78, e166_79, kv_s, kh_s, kn_s, kc_v, kc_n, MO_isO, MO_f0, MO_f1, MO_f2, MO_f3, MO_f4, MO_f5, MO_f6, MO_f7, MO_f8, MO_f9, MO_f10, MO_f11, MO_f12, MO_f13, MO_f14, MO_i0, MO_i1, MO_i2, MO_i3, MO_i4, MO_i5, MO_j0, MO_j1, MO_j2, MO_j3, MO_wi0, MO_wi1, MO_wi2, MO_wi3, MO_wi4, MO_wi5, MO_wj0, MO_wj1, MO_wj2, MO_wj3, MO_k0, MO_k1, MO_k2, MO_k3, MO_k4, Nat.reduceEqDiff, Nat.one_ne_zero, Nat.reduceLT, Nat.reduceLeDiff, Nat.reduceAdd, Nat.reduceSub, Nat.reduceMul, nI_add, nI_leI, nI_ltI, nI_eq, z_eq, z_lt, z_le, z_gt, z_ge, ↓reduceIte, not_true_eq_false, not_false_eq_true, if_true, if_false, kk_0, kk_1, kk_2, kk_3, kk_w2, kk_w3, e67, a1, a2, m117i, pk_mul, pk_sub, Nat.mul_zero, Nat.zero_add, Nat.add_assoc]
      · intro h1 x y hxy
        by_cases hA : p < κ 1 ∧ ι 3 p = 32
        · rw [en hA] at hxy
          cases hxy
          rw [if_pos ⟨h1, hA⟩] at hF
          omega
        · unfold n1 at hxy
          rw [if_neg hA] at hxy
          cases hxy
      · rintro (h | h)
        · rw [if_neg (by omega)] at hF
          exact hF.symm
        · by_cases hA : p < κ 1 ∧ ι 3 p = 32
          · rw [en hA] at h
            cases h
          · rw [if_neg (fun e => hA e.2)] at hF
            exact hF.symm
    · have j2 : ¬ inR (hr (ι 3) (κ 1) (p + 2)) (nI 48) (nI 57) := fun e => d2 (i2.mp e)
      have en : p < κ 1 ∧ ι 3 p = 32 → n1 (ι 3) (κ 1) p = some (ι 3 (p + 1) - 48, p + 2) := by
        intro h
        unfold n1 nm
        rw [if_pos h, if_pos ⟨b1, b2, b3⟩, if_neg (show ¬ (p + 1 + 1 < κ 1 ∧ 48 ≤ ι 3 (p + 1 + 1) ∧ ι 3 (p + 1 + 1) ≤ 57) from d2)]
      refine ⟨ι 3 (p + 1) - 48, p + 2, F, ?_, by omega, by omega, by omega, hF1, ?_, ?_⟩
      · by_cases q : F = 0
        · subst q
          simp (disch := first | omega | assumption | exact MO_isO _ _ _ _ | (refine b30 ?_; omega) | (refine nI_inR ?_ ?_ ?_ <;> omega)) only [x166, e166_0, e166_1, e166_3, e166_6, e166_7, e166_8, e166_9, e166_10, e166_11, e166_12, e166_15, e166_16, e166_19, e166_21, e166_23, e166_26, e166_29, e166_31, e166_32, e166_33, e166_34, e166_37, e166_38, e166_40, e166_41, e166_42, e166_45, e166_46, e166_47, e166_50, e166_51, e166_52, e166_55, e166_58, e166_59, e166_60, e166_63, e166_66, e166_67, e166_70, e166_71, e166_74, e166_75, e166_78, e166_79, kv_s, kh_s, kn_s, kc_v, kc_n, MO_isO, MO_f0, MO_f1, MO_f2, MO_f3, MO_f4, MO_f5, MO_f6, MO_f7, MO_f8, MO_f9, MO_f10, MO_f11, MO_f12, MO_f13, MO_f14, MO_i0, MO_i1, MO_i2, MO_i3, MO_i4, MO_i5, MO_j0, MO_j1, MO_j2, MO_j3, MO_wi0, MO_wi1, MO_wi2, MO_wi3, MO_wi4, MO_wi5, MO_wj0, MO_wj1, MO_wj2, MO_wj3, MO_k0, MO_k1, MO_k2, MO_k3, MO_k4, Nat.reduceEqDiff, Nat.one_ne_zero, Nat.reduceLT, Nat.reduceLeDiff, Nat.reduceAdd, Nat.reduceSub, Nat.reduceMul, nI_add, nI_leI, nI_ltI, nI_eq, z_eq, z_lt, z_le, z_gt, z_ge, ↓reduceIte, not_true_eq_false, not_false_eq_true, if_true, if_false, kk_0, kk_1, kk_2, kk_3, kk_w2, kk_w3, e67, a1, a2, m117i, m117o, pk_mul, pk_sub, Nat.mul_zero, Nat.zero_add, Nat.add_assoc]
        · have q : F = 1 := by omega
          subst q
          simp (disch := first | omega | assumption | exact MO_isO _ _ _ _ | (refine b30 ?_; omega) | (refine nI_inR ?_ ?_ ?_ <;> omega)) only [x166, e166_0, e166_1, e166_3, e166_6, e166_7, e166_8, e166_9, e166_10, e166_11, e166_12, e166_15, e166_16, e166_19, e166_21, e166_23, e166_26, e166_29, e166_31, e166_32, e166_33, e166_34, e166_37, e166_38, e166_40, e166_41, e166_42, e166_45, e166_46, e166_47, e166_50, e166_51, e166_52, e166_55, e166_58, e166_59, e166_60, e166_63, e166_66, e166_67, e166_70, e166_71, e166_74, e166_75, e166_78, e166_79, kv_s, kh_s, kn_s, kc_v, kc_n, MO_isO, MO_f0, MO_f1, MO_f2, MO_f3, MO_f4, MO_f5, MO_f6, MO_f7, MO_f8, MO_f9, MO_f10, MO_f11, MO_f12, MO_f13, MO_f14, MO_i0, MO_i1, MO_i2, MO_i3, MO_i4, MO_i5, MO_j0, MO_j1, MO_j2, MO_j3, MO_wi0, MO_wi1, MO_wi2, MO_wi3, MO_wi4, MO_wi5, MO_wj0, MO_wj1, MO_wj2, MO_wj3, MO_k0, MO_k1, MO_k2, MO_k3, MO_k4, Nat.reduceEqDiff, Nat.one_ne_zero, Nat.reduceLT, Nat.reduceLeDiff, Nat.reduceAdd, Nat.reduceSub, Nat.reduceMul, nI_add, nI_leI, nI_ltI, nI_eq, z_eq, z_lt, z_le, z_gt, z_ge, ↓reduceIte, not_true_eq_false, not_false_eq_true, if_true, if_false, kk_0, kk_1, kk_2, kk_3, kk_w2, kk_w3, e67, a1, a2, m117i, m117o, pk_mul, pk_sub, Nat.mul_zero, Nat.zero_add, Nat.add_assoc]
      · intro h1 x y hxy
        by_cases hA : p < κ 1 ∧ ι 3 p = 32
        · rw [en hA] at hxy
          cases hxy
          rw [if_pos ⟨h1, hA⟩] at hF
          exact ⟨rfl, rfl, hF.symm⟩
        · unfold n1 at hxy
          rw [if_neg hA] at hxy
          cases hxy
      · rintro (h | h)
        · rw [if_neg (by omega)] at hF
          exact hF.symm
        · by_cases hA : p < κ 1 ∧ ι 3 p = 32
          · rw [en hA] at h
            cases h
          · rw [if_neg (fun e => hA e.2)] at hF
            exact hF.symm
  · have j1 : ¬ inR (hr (ι 3) (κ 1) (p + 1)) (nI 48) (nI 57) := fun e => d1 (i1.mp e)
    refine ⟨0, p + 1, 0, ?_, by omega, by omega, by omega, by omega, ?_, fun _ => rfl⟩
    · by_cases q : F = 0
      · subst q
        simp (disch := first | omega | assumption | exact MO_isO _ _ _ _ | (refine b30 ?_; omega) | (refine nI_inR ?_ ?_ ?_ <;> omega)) only [x166, e166_0, e166_1, e166_3, e166_6, e166_7, e166_8, e166_9, e166_10, e166_11, e166_12, e166_15, e166_16, e166_19, e166_21, e166_23, e166_26, e166_29, e166_31, e166_32, e166_33, e166_34, e166_37, e166_38, e166_40, e166_41, e166_42, e166_45, e166_46, e166_47, e166_50, e166_51, e166_52, e166_55, e166_58, e166_59, e166_60, e166_63, e166_66, e166_67, e166_70, e166_71, e166_74, e166_75, e166_78, e166_79, kv_s, kh_s, kn_s, kc_v, kc_n, MO_isO, MO_f0, MO_f1, MO_f2, MO_f3, MO_f4, MO_f5, MO_f6, MO_f7, MO_f8, MO_f9, MO_f10, MO_f11, MO_f12, MO_f13, MO_f14, MO_i0, MO_i1, MO_i2, MO_i3, MO_i4, MO_i5, MO_j0, MO_j1, MO_j2, MO_j3, MO_wi0, MO_wi1, MO_wi2, MO_wi3, MO_wi4, MO_wi5, MO_wj0, MO_wj1, MO_wj2, MO_wj3, MO_k0, MO_k1, MO_k2, MO_k3, MO_k4, Nat.reduceEqDiff, Nat.one_ne_zero, Nat.reduceLT, Nat.reduceLeDiff, Nat.reduceAdd, Nat.reduceSub, Nat.reduceMul, nI_add, nI_leI, nI_ltI, nI_eq, z_eq, z_lt, z_le, z_gt, z_ge, ↓reduceIte, not_true_eq_false, not_false_eq_true, if_true, if_false, kk_0, kk_1, kk_2, kk_3, kk_w2, kk_w3, e67, a1, m117o]
      · have q : F = 1 := by omega
        subst q
        simp (disch := first | omega | assumption | exact MO_isO _ _ _ _ | (refine b30 ?_; omega) | (refine nI_inR ?_ ?_ ?_ <;> omega)) only [x166, e166_0, e166_1, e166_3, e166_6, e166_7, e166_8, e166_9, e166_10, e166_11, e166_12, e166_15, e166_16, e166_19, e166_21, e166_23, e166_26, e166_29, e166_31, e166_32, e166_33, e166_34, e166_37, e166_38, e166_40, e166_41, e166_42, e166_45, e166_46, e166_47, e166_50, e166_51, e166_52, e166_55, e166_58, e166_59, e166_60, e166_63, e166_66, e166_67, e166_70, e166_71, e166_74, e166_75, e166_78, e166_79, kv_s, kh_s, kn_s, kc_v, kc_n, MO_isO, MO_f0, MO_f1, MO_f2, MO_f3, MO_f4, MO_f5, MO_f6, MO_f7, MO_f8, MO_f9, MO_f10, MO_f11, MO_f12, MO_f13, MO_f14, MO_i0, MO_i1, MO_i2, MO_i3, MO_i4, MO_i5, MO_j0, MO_j1, MO_j2, MO_j3, MO_wi0, MO_wi1, MO_wi2, MO_wi3, MO_wi4, MO_wi5, MO_wj0, MO_wj1, MO_wj2, MO_wj3, MO_k0, MO_k1, MO_k2, MO_k3, MO_k4, Nat.reduceEqDiff, Nat.one_ne_zero, Nat.reduceLT, Nat.reduceLeDiff, Nat.reduceAdd, Nat.reduceSub, Nat.reduceMul, nI_add, nI_leI, nI_ltI, nI_eq, z_eq, z_lt, z_le, z_gt, z_ge, ↓reduceIte, not_true_eq_false, not_false_eq_true, if_true, if_false, kk_0, kk_1, kk_2, kk_3, kk_w2, kk_w3, e67, a1, m117o]
    · intro h1 x y hxy
      exfalso
      unfold n1 nm at hxy
      rw [if_neg (show ¬ (p + 1 < κ 1 ∧ 48 ≤ ι 3 (p + 1) ∧ ι 3 (p + 1) ≤ 57) from d1)] at hxy
      split at hxy <;> cases hxy
theorem lN_or (a b : Nat) (hb : b < 256) (ha : a < 2 ^ 48) : lN a <<< (lN 8 &&& 63) ||| lN b = lN (a * 256 + b) := by
  have h1 : (lN a <<< (lN 8 &&& 63)).toBitVec = BitVec.ofNat 64 (a * 256) := by
    rw [Int64.toBitVec_shiftLeft]
    have h2 : (lN 8 &&& 63).toBitVec.smod 64 = BitVec.ofNat 64 8 := by decide
    rw [h2]
    apply BitVec.eq_of_toNat_eq
    show (BitVec.ofNat 64 a <<< BitVec.ofNat 64 8).toNat = _
    rw [BitVec.shiftLeft_eq', BitVec.toNat_shiftLeft, BitVec.toNat_ofNat, BitVec.toNat_ofNat, BitVec.toNat_ofNat, Nat.shiftLeft_eq, Nat.mod_eq_of_lt (show a < 2 ^ 64 by omega)]
  apply Int64.toBitVec_inj.mp
  rw [Int64.toBitVec_or, h1]
  show BitVec.ofNat 64 (a * 256) ||| BitVec.ofNat 64 b = BitVec.ofNat 64 (a * 256 + b)
  apply BitVec.eq_of_toNat_eq
  rw [BitVec.toNat_or, BitVec.toNat_ofNat, BitVec.toNat_ofNat, BitVec.toNat_ofNat, Nat.mod_eq_of_lt (by omega), Nat.mod_eq_of_lt (by omega), Nat.mod_eq_of_lt (by omega)]
  have h3 := Nat.shiftLeft_add_eq_or_of_lt (i := 8) (b := b) hb a
  rw [Nat.shiftLeft_eq] at h3
  exact h3.symm
theorem m165 (k : Nat) (hk : k < 7) (H : pi_H) : ex 165 [.int (nI k)] H = some (some (.long (lN (WV k))), H) := by
  have h : k = 0 ∨ k = 1 ∨ k = 2 ∨ k = 3 ∨ k = 4 ∨ k = 5 ∨ k = 6 := by omega
  rcases h with rfl | rfl | rfl | rfl | rfl | rfl | rfl <;> simp (disch := first | omega | assumption | exact MO_isO _ _ _ _ | (refine b30 ?_; omega) | (refine nI_inR ?_ ?_ ?_ <;> omega)) only [x165, e165_0, e165_1, e165_40, e165_43, e165_44, e165_47, e165_48, e165_51, e165_52, e165_55, e165_56, e165_59, e165_60, e165_63, e165_64, e165_67, kv_s, kh_s, kn_s, kc_v, kc_n, Nat.reduceEqDiff, Nat.one_ne_zero, Nat.reduceLT, Nat.reduceLeDiff, Nat.reduceAdd, Nat.reduceSub, Nat.reduceMul, nI_add, nI_leI, nI_ltI, nI_eq, z_eq, z_lt, z_le, z_gt, z_ge, ↓reduceIte, not_true_eq_false, not_false_eq_true, if_true, if_false] <;> rfl
theorem l163 (w : Nat) (hw : w < 2 ^ 60) (c : Int32) (H : pi_H) : ∀ m k, k + m = 7 → ev 163 54 [some (.ref 77), some (.long (lN w)), none, some (.int c), some (.int (nI k))] [] H = some (some (.int (whF w k m)), H) := by
  intro m
  induction m with
  | zero =>
    intro k hk
    rw [e163_54]
    simp (disch := first | omega | assumption | exact MO_isO _ _ _ _ | (refine b30 ?_; omega) | (refine nI_inR ?_ ?_ ?_ <;> omega)) only [x163, e163_0, e163_1, e163_2, e163_3, e163_5, e163_7, e163_10, e163_11, e163_14, e163_16, e163_18, e163_21, e163_24, e163_25, e163_27, e163_28, e163_29, e163_32, e163_33, e163_34, e163_35, e163_38, e163_39, e163_40, e163_43, e163_44, e163_45, e163_48, e163_51, e163_52, e163_56, e163_58, e163_61, e163_63, e163_66, e163_67, e163_68, e163_71, e163_73, e163_74, e163_77, e163_80, e163_81, kv_s, kh_s, kn_s, kc_v, kc_n, Nat.reduceEqDiff, Nat.one_ne_zero, Nat.reduceLT, Nat.reduceLeDiff, Nat.reduceAdd, Nat.reduceSub, Nat.reduceMul, nI_add, nI_leI, nI_ltI, nI_eq, z_eq, z_lt, z_le, z_gt, z_ge, ↓reduceIte, not_true_eq_false, not_false_eq_true, if_true, if_false, show 7 ≤ k by omega]
    rfl
  | succ m ih =>
    intro k hk
    have e65 := m165 k (by omega) H
    have hl := WV_lt k (by omega)
    have hE : (lN (WV k) = lN w) = (WV k = w) := propext (pk_lEQ (by omega) (by omega))
    have e : whF w k (m + 1) = if WV k = w then nI k else whF w (k + 1) m := rfl
    rw [e163_54, e]
    by_cases h : WV k = w
    · simp (disch := first | omega | assumption | exact MO_isO _ _ _ _ | (refine b30 ?_; omega) | (refine nI_inR ?_ ?_ ?_ <;> omega)) only [x163, e163_0, e163_1, e163_2, e163_3, e163_5, e163_7, e163_10, e163_11, e163_14, e163_16, e163_18, e163_21, e163_24, e163_25, e163_27, e163_28, e163_29, e163_32, e163_33, e163_34, e163_35, e163_38, e163_39, e163_40, e163_43, e163_44, e163_45, e163_48, e163_51, e163_52, e163_56, e163_58, e163_61, e163_63, e163_66, e163_67, e163_68, e163_71, e163_73, e163_74, e163_77, e163_80, e163_81, kv_s, kh_s, kn_s, kc_v, kc_n, Nat.reduceEqDiff, Nat.one_ne_zero, Nat.reduceLT, Nat.reduceLeDiff, Nat.reduceAdd, Nat.reduceSub, Nat.reduceMul, nI_add, nI_leI, nI_ltI, nI_eq, z_eq, z_lt, z_le, z_gt, z_ge, ↓reduceIte, not_true_eq_false, not_false_eq_true, if_true, if_false, e65, cmp_eq, hE, h, show ¬ 7 ≤ k by omega]
    · simp (disch := first | omega | assumption | exact MO_isO _ _ _ _ | (refine b30 ?_; omega) | (refine nI_inR ?_ ?_ ?_ <;> omega)) only [x163, e163_0, e163_1, e163_2, e163_3, e163_5, e163_7, e163_10, e163_11, e163_14, e163_16, e163_18, e163_21, e163_24, e163_25, e163_27, e163_28, e163_29, e163_32, e163_33, e163_34, e163_35, e163_38, e163_39, e163_40, e163_43, e163_44, e163_45, e163_48, e163_51, e163_52, e163_56, e163_58, e163_61, e163_63, e163_66, e163_67, e163_68, e163_71, e163_73, e163_74, e163_77, e163_80, e163_81, kv_s, kh_s, kn_s, kc_v, kc_n, Nat.reduceEqDiff, Nat.one_ne_zero, Nat.reduceLT, Nat.reduceLeDiff, Nat.reduceAdd, Nat.reduceSub, Nat.reduceMul, nI_add, nI_leI, nI_ltI, nI_eq, z_eq, z_lt, z_le, z_gt, z_ge, ↓reduceIte, not_true_eq_false, not_false_eq_true, if_true, if_false, e65, cmp_eq, hE, h, show ¬ 7 ≤ k by omega]
      exact ih (k + 1) (by omega)
theorem m163 (h126 : ∀ i, ι 3 i ≤ 126) (hn : κ 1 ≤ 80) (f p : Nat) (hp : p < 900) : ∃ c, c ≤ 6 ∧ (∀ i, i < c → bt (ι 3) (κ 1) (p + i) 97 122) ∧ (c < 6 → ¬ bt (ι 3) (κ 1) (p + c) 97 122) ∧ ex 163 [.ref 77] (MO H ι z (kk κ f p)) = some (some (.int (whR (wd (ι 3) p c))), MO H ι z (kk κ f (p + c))) := by
  have l1 : ∀ m c, c + m = 6 → (∀ i, i < c → bt (ι 3) (κ 1) (p + i) 97 122) → ∃ c', c' ≤ 6 ∧ (∀ i, i < c' → bt (ι 3) (κ 1) (p + i) 97 122) ∧ (c' < 6 → ¬ bt (ι 3) (κ 1) (p + c') 97 122) ∧ ev 163 4 [some (.ref 77), some (.long (lN (wd (ι 3) p c))), none, some (.int (nI c)), none] [] (MO H ι z (kk κ f (p + c))) = some (some (.int (whR (wd (ι 3) p c'))), MO H ι z (kk κ f (p + c'))) := by
    have hlt : ∀ c, c ≤ 6 → wd (ι 3) p c < 256 ^ c ∧ 256 ^ c ≤ 256 ^ 6 := fun c hc => ⟨wd_lt _ _ _ (fun i _ => by have := h126 (p + i); omega), Nat.pow_le_pow_right (by omega) hc⟩
    intro m
    induction m with
    | zero =>
      intro c hc hl
      obtain rfl : c = 6 := by omega
      have hw := hlt 6 (by omega)
      refine ⟨6, by omega, hl, fun h => absurd h (by omega), ?_⟩
      have e := l163 (wd (ι 3) p 6) (by omega) (nI 6) (MO H ι z (kk κ f (p + 6))) 7 0 (by omega)
      rw [e163_4]
      simp (disch := first | omega | assumption | exact MO_isO _ _ _ _ | (refine b30 ?_; omega) | (refine nI_inR ?_ ?_ ?_ <;> omega)) only [x163, e163_0, e163_1, e163_2, e163_3, e163_5, e163_7, e163_10, e163_11, e163_14, e163_16, e163_18, e163_21, e163_24, e163_25, e163_27, e163_28, e163_29, e163_32, e163_33, e163_34, e163_35, e163_38, e163_39, e163_40, e163_43, e163_44, e163_45, e163_48, e163_51, e163_52, e163_56, e163_58, e163_61, e163_63, e163_66, e163_67, e163_68, e163_71, e163_73, e163_74, e163_77, e163_80, e163_81, kv_s, kh_s, kn_s, kc_v, kc_n, Nat.reduceEqDiff, Nat.one_ne_zero, Nat.reduceLT, Nat.reduceLeDiff, Nat.reduceAdd, Nat.reduceSub, Nat.reduceMul, nI_add, nI_leI, nI_ltI, nI_eq, z_eq, z_lt, z_le, z_gt, z_ge, ↓reduceIte, not_true_eq_false, not_false_eq_true, if_true, if_false]
      exact e
    | succ m ih =>
      intro c hc hl
      have hw := hlt c (by omega)
      have a1 := m164 H ι z κ h126 hn f (p + c) (by omega)
      have i1 := hr_in (ι 3) (κ 1) (p + c) 97 122 h126 (by omega) (by omega)
      have t1 := h126 (p + c)
      by_cases d : bt (ι 3) (κ 1) (p + c) 97 122
      · obtain ⟨c', q1, q2, q3, q4⟩ := ih (c + 1) (by omega) (fun i hi => by
          by_cases e : i = c
          · subst e; exact d
          · exact hl i (by omega))
        refine ⟨c', q1, q2, q3, ?_⟩
        have j1 := i1.mpr d
        rw [hr_lt _ _ _ d.1] at a1 j1
        have hp6 : 256 ^ c ≤ 256 ^ 5 := Nat.pow_le_pow_right (by omega) (by omega)
        have hor := lN_or (wd (ι 3) p c) (ι 3 (p + c)) (by omega) (by omega)
        rw [e163_4]
        simp (disch := first | omega | assumption | exact MO_isO _ _ _ _ | (refine b30 ?_; omega) | (refine nI_inR ?_ ?_ ?_ <;> omega)) only [x163, e163_0, e163_1, e163_2, e163_3, e163_5, e163_7, e163_10, e163_11, e163_14, e163_16, e163_18, e163_21, e163_24, e163_25, e163_27, e163_28, e163_29, e163_32, e163_33, e163_34, e163_35, e163_38, e163_39, e163_40, e163_43, e163_44, e163_45, e163_48, e163_51, e163_52, e163_56, e163_58, e163_61, e163_63, e163_66, e163_67, e163_68, e163_71, e163_73, e163_74, e163_77, e163_80, e163_81, kv_s, kh_s, kn_s, kc_v, kc_n, MO_isO, MO_f0, MO_f1, MO_f2, MO_f3, MO_f4, MO_f5, MO_f6, MO_f7, MO_f8, MO_f9, MO_f10, MO_f11, MO_f12, MO_f13, MO_f14, MO_i0, MO_i1, MO_i2, MO_i3, MO_i4, MO_i5, MO_j0, MO_j1, MO_j2, MO_j3, MO_wi0, MO_wi1, MO_wi2, MO_wi3, MO_wi4, MO_wi5, MO_wj0, MO_wj1, MO_wj2, MO_wj3, MO_k0, MO_k1, MO_k2, MO_k3, MO_k4, Nat.reduceEqDiff, Nat.one_ne_zero, Nat.reduceLT, Nat.reduceLeDiff, Nat.reduceAdd, Nat.reduceSub, Nat.reduceMul, nI_add, nI_leI, nI_ltI, nI_eq, z_eq, z_lt, z_le, z_gt, z_ge, ↓reduceIte, not_true_eq_false, not_false_eq_true, if_true, if_false, kk_0, kk_1, kk_2, kk_3, kk_w2, kk_w3, a1, m117i, nI_l, hor, show ¬ 6 ≤ c by omega, Nat.add_assoc]
        exact q4
      · refine ⟨c, by omega, hl, fun _ => d, ?_⟩
        have j1 : ¬ inR (hr (ι 3) (κ 1) (p + c)) (nI 97) (nI 122) := fun e => d (i1.mp e)
        have e := l163 (wd (ι 3) p c) (by omega) (nI c) (MO H ι z (kk κ f (p + c))) 7 0 (by omega)
        rw [e163_4]
        simp (disch := first | omega | assumption | exact MO_isO _ _ _ _ | (refine b30 ?_; omega) | (refine nI_inR ?_ ?_ ?_ <;> omega)) only [x163, e163_0, e163_1, e163_2, e163_3, e163_5, e163_7, e163_10, e163_11, e163_14, e163_16, e163_18, e163_21, e163_24, e163_25, e163_27, e163_28, e163_29, e163_32, e163_33, e163_34, e163_35, e163_38, e163_39, e163_40, e163_43, e163_44, e163_45, e163_48, e163_51, e163_52, e163_56, e163_58, e163_61, e163_63, e163_66, e163_67, e163_68, e163_71, e163_73, e163_74, e163_77, e163_80, e163_81, kv_s, kh_s, kn_s, kc_v, kc_n, Nat.reduceEqDiff, Nat.one_ne_zero, Nat.reduceLT, Nat.reduceLeDiff, Nat.reduceAdd, Nat.reduceSub, Nat.reduceMul, nI_add, nI_leI, nI_ltI, nI_eq, z_eq, z_lt, z_le, z_gt, z_ge, ↓reduceIte, not_true_eq_false, not_false_eq_true, if_true, if_false, a1, m117o, show ¬ 6 ≤ c by omega]
        exact e
  obtain ⟨c', q1, q2, q3, q4⟩ := l1 6 0 (by omega) (fun i hi => absurd hi (by omega))
  refine ⟨c', q1, q2, q3, ?_⟩
  simp (disch := first | omega | assumption | exact MO_isO _ _ _ _ | (refine b30 ?_; omega) | (refine nI_inR ?_ ?_ ?_ <;> omega)) only [x163, e163_0, e163_1, e163_2, e163_3, e163_5, e163_7, e163_10, e163_11, e163_14, e163_16, e163_18, e163_21, e163_24, e163_25, e163_27, e163_28, e163_29, e163_32, e163_33, e163_34, e163_35, e163_38, e163_39, e163_40, e163_43, e163_44, e163_45, e163_48, e163_51, e163_52, e163_56, e163_58, e163_61, e163_63, e163_66, e163_67, e163_68, e163_71, e163_73, e163_74, e163_77, e163_80, e163_81, kv_s, kh_s, kn_s, kc_v, kc_n, Nat.reduceEqDiff, Nat.one_ne_zero, Nat.reduceLT, Nat.reduceLeDiff, Nat.reduceAdd, Nat.reduceSub, Nat.reduceMul, nI_add, nI_leI, nI_ltI, nI_eq, z_eq, z_lt, z_le, z_gt, z_ge, ↓reduceIte, not_true_eq_false, not_false_eq_true, if_true, if_false]
  exact q4
end
