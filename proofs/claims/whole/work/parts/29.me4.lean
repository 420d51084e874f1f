-- PART 29: the means' methods, fourth: plans
def pl (a : sT) (n : Nat) (f : Nat → Int64) (lo hi k : Nat) : Int64 := if k < lvl k lo hi then lN (oprice a k (lvl k lo hi)) * pw a (n + 1) + cb a f n (lvl k lo hi) else cb a f n k
def plT (a : sT) (lo hi : Nat → Nat) : Nat → (Nat → Int64)
  | 0 => fun k => lN (a 1 4 * k)
  | n + 1 => fun k => pl a n (plT a lo hi n) (lo (n + 1)) (hi (n + 1)) k
theorem oprice_le (a : sT) (hc : okC a) (k y : Nat) (hy : y < 21) : oprice a k y < 2 ^ 31 := by
  unfold oprice
  have := Nat.mul_le_mul hc.2.1 (show y - k ≤ 20 by omega)
  have := hc.1
  split <;> omega
theorem pl_congr (a : sT) (n : Nat) (f g : Nat → Int64) (lo hi k t : Nat) (hk : k ≤ t) (hh : hi ≤ t) (h : ∀ q, q ≤ t → f q = g q) : pl a n f lo hi k = pl a n g lo hi k := by
  have h2 : lvl k lo hi ≤ t := by unfold lvl; split <;> omega
  unfold pl
  rw [cb_congr a f g n k (fun q hq => h q (by omega)), cb_congr a f g n (lvl k lo hi) (fun q hq => h q (by omega))]
section
variable (H : pi_H) (a : sT) (β : bT)
theorem s61 (fl fh : Int32) (fc : Int64) (ok : okA a) (μ : lT) (n lo hi fr tp : Nat) (hn : n < 6) (hlo : lo ≤ hi) (hhi : hi < 21) (hf : fr ≤ tp) (ht : tp < 21) (h0 : ∀ n, n < 7 → μ 0 0 n = pw a n) (h1 : ∀ y, y < 21 → μ 1 0 y = ppS a y 7) : ∃ μ' : lT, ex 61 [.ref 39, .ref 1, .int (nI (n + 1)), .int (nI lo), .int (nI hi), .int (nI fr), .int (nI tp)] (SH (ME H μ β fl fh fc) 1 a) = some (none, SH (ME H μ' β fl fh fc) 1 a) ∧ (∀ k, fr ≤ k → k ≤ tp → μ' 4 (n + 1) k = pl a n (μ 4 n) lo hi k) ∧ (∀ t r, ¬ (t = 4 ∧ r = n + 1) → μ' t r = μ t r) := by
  obtain ⟨hw, hc, hs⟩ := ok
  have e48 : ∀ (μ' : lT) (y : Nat), y < 21 → (∀ t r, ¬ (t = 4 ∧ r = n + 1) → μ' t r = μ t r) → ex 48 [.ref 39, .ref 1, .int (nI y), .int (nI (n + 1)), .ref (n + 67)] (SH (ME H μ' β fl fh fc) 1 a) = some (some (.long (cb a (μ 4 n) n y)), SH (ME H μ' β fl fh fc) 1 a) := by
    intro μ' y hy hq
    have g5 := ME_g5 H μ' β fl fh fc n (by omega)
    rw [hq 4 n (by omega)] at g5
    exact s48 H a μ' β fl fh fc hw y n (n + 67) hy hn (μ 4 n) (by omega) (by omega) g5 (by rw [hq _ _ (by omega), h0 _ (by omega)]) (by rw [hq _ _ (by omega), h1 _ hy])
  have l1 : ∀ q, fr + q ≤ tp + 1 → ∃ (μ' : lT) (v8 : Int64) (v11 : Option Value), ex 61 [.ref 39, .ref 1, .int (nI (n + 1)), .int (nI lo), .int (nI hi), .int (nI fr), .int (nI tp)] (SH (ME H μ β fl fh fc) 1 a) = ev 61 36 [some (.ref 39), some (.ref 1), some (.int (nI (n + 1))), some (.int (nI lo)), some (.int (nI hi)), some (.int (nI fr)), some (.int (nI tp)), some (.ref (n + 67)), some (.long v8), none, some (.int (nI (fr + q))), v11] [] (SH (ME H μ' β fl fh fc) 1 a) ∧ (fr < lo → v8 = cb a (μ 4 n) n hi) ∧ (∀ k, fr ≤ k → k < fr + q → μ' 4 (n + 1) k = pl a n (μ 4 n) lo hi k) ∧ (∀ t r, ¬ (t = 4 ∧ r = n + 1) → μ' t r = μ t r) := by
    intro q
    induction q with
    | zero =>
      intro _
      by_cases h : fr < lo
      · refine ⟨μ, cb a (μ 4 n) n hi, none, ?_, fun _ => rfl, fun k _ _ => absurd ‹k < fr + 0› (by omega), fun _ _ _ => rfl⟩
        have e := e48 μ hi hhi (fun _ _ _ => rfl)
        simp (disch := first | omega | assumption | (refine b30 ?_; omega) | exact SH_isO _ _ _ | exact ME_isO _ _ _ _ _ _ | (rw [SH_gn _ _ _ _ (by omega)]; exact ME_isO _ _ _ _ _ _) | (refine nI_inR ?_ ?_ ?_ <;> omega)) only [x61, e61_0, e61_1, e61_4, e61_5, e61_6, e61_7, e61_8, e61_10, e61_12, e61_13, e61_16, e61_17, e61_18, e61_20, e61_21, e61_23, e61_26, e61_29, e61_30, e61_32, e61_34, e61_38, e61_40, e61_43, e61_45, e61_46, e61_48, e61_51, e61_53, e61_55, e61_57, e61_60, e61_61, e61_64, e61_65, e61_66, e61_68, e61_69, e61_71, e61_73, e61_76, e61_77, e61_78, e61_81, e61_82, e61_83, e61_84, e61_86, e61_87, e61_88, e61_91, e61_92, e61_95, e61_96, e61_97, e61_99, e61_100, e61_101, e61_103, e61_104, e61_106, e61_109, e61_110, e61_113, e61_116, kv_s, kh_s, kn_s, kc_v, kc_n, ME_isO, ME_f0, ME_f1, ME_f2, ME_f3, ME_f4, ME_f5, ME_f6, ME_f7, ME_f8, ME_a0, ME_a1, ME_a2, ME_a3, ME_a4, ME_a5, ME_r2, ME_r3, ME_r4, ME_r5, SH_gn, SH_asn, SH_asi, SH_pfn, Option.map_some, Nat.reduceEqDiff, Nat.one_ne_zero, Nat.reduceLT, Nat.reduceLeDiff, Nat.reduceAdd, Nat.reduceSub, Nat.reduceMul, nI_add, nI_leI, nI_ltI, nI_eq, z_eq, z_lt, z_le, z_gt, z_ge, ↓reduceIte, not_true_eq_false, not_false_eq_true, if_true, if_false, pk_sub, Nat.add_sub_cancel, show ¬ lo ≤ fr by omega, e, Nat.add_zero]
      · refine ⟨μ, lN 0, none, ?_, fun e => absurd e h, fun k _ _ => absurd ‹k < fr + 0› (by omega), fun _ _ _ => rfl⟩
        simp (disch := first | omega | assumption | (refine b30 ?_; omega) | exact SH_isO _ _ _ | exact ME_isO _ _ _ _ _ _ | (rw [SH_gn _ _ _ _ (by omega)]; exact ME_isO _ _ _ _ _ _) | (refine nI_inR ?_ ?_ ?_ <;> omega)) only [x61, e61_0, e61_1, e61_4, e61_5, e61_6, e61_7, e61_8, e61_10, e61_12, e61_13, e61_16, e61_17, e61_18, e61_20, e61_21, e61_23, e61_26, e61_29, e61_30, e61_32, e61_34, e61_38, e61_40, e61_43, e61_45, e61_46, e61_48, e61_51, e61_53, e61_55, e61_57, e61_60, e61_61, e61_64, e61_65, e61_66, e61_68, e61_69, e61_71, e61_73, e61_76, e61_77, e61_78, e61_81, e61_82, e61_83, e61_84, e61_86, e61_87, e61_88, e61_91, e61_92, e61_95, e61_96, e61_97, e61_99, e61_100, e61_101, e61_103, e61_104, e61_106, e61_109, e61_110, e61_113, e61_116, kv_s, kh_s, kn_s, kc_v, kc_n, ME_isO, ME_f0, ME_f1, ME_f2, ME_f3, ME_f4, ME_f5, ME_f6, ME_f7, ME_f8, ME_a0, ME_a1, ME_a2, ME_a3, ME_a4, ME_a5, ME_r2, ME_r3, ME_r4, ME_r5, SH_gn, SH_asn, SH_asi, SH_pfn, Option.map_some, Nat.reduceEqDiff, Nat.one_ne_zero, Nat.reduceLT, Nat.reduceLeDiff, Nat.reduceAdd, Nat.reduceSub, Nat.reduceMul, nI_add, nI_leI, nI_ltI, nI_eq, z_eq, z_lt, z_le, z_gt, z_ge, ↓reduceIte, not_true_eq_false, not_false_eq_true, if_true, if_false, pk_sub, Nat.add_sub_cancel, show lo ≤ fr by omega, Nat.add_zero]
    | succ q ih =>
      intro hq
      obtain ⟨μ', v8, v11, e, i0, i1, i2⟩ := ih (by omega)
      have g0 : μ' 0 0 (n + 1) = pw a (n + 1) := by rw [i2 _ _ (by omega), h0 _ (by omega)]
      have hl : lvl (fr + q) lo hi < 21 := by unfold lvl; split <;> omega
      have hop := oprice_le a hc (fr + q) (lvl (fr + q) lo hi) hl
      refine ⟨u3 μ' 4 (n + 1) (fr + q) (pl a n (μ 4 n) lo hi (fr + q)), v8, some (.int (nI (lvl (fr + q) lo hi))), ?_, i0, ?_, ?_⟩
      · rw [e, e61_36]
        by_cases h : fr + q < lvl (fr + q) lo hi
        · have h2 : fr < lo := by unfold lvl at h; split at h <;> omega
          have h3 : lvl (fr + q) lo hi = hi := by unfold lvl at h ⊢; split at h <;> first | omega | (split <;> omega)
          simp (disch := first | omega | assumption | (refine b30 ?_; omega) | exact SH_isO _ _ _ | exact ME_isO _ _ _ _ _ _ | (rw [SH_gn _ _ _ _ (by omega)]; exact ME_isO _ _ _ _ _ _) | (refine nI_inR ?_ ?_ ?_ <;> omega)) only [x61, e61_0, e61_1, e61_4, e61_5, e61_6, e61_7, e61_8, e61_10, e61_12, e61_13, e61_16, e61_17, e61_18, e61_20, e61_21, e61_23, e61_26, e61_29, e61_30, e61_32, e61_34, e61_38, e61_40, e61_43, e61_45, e61_46, e61_48, e61_51, e61_53, e61_55, e61_57, e61_60, e61_61, e61_64, e61_65, e61_66, e61_68, e61_69, e61_71, e61_73, e61_76, e61_77, e61_78, e61_81, e61_82, e61_83, e61_84, e61_86, e61_87, e61_88, e61_91, e61_92, e61_95, e61_96, e61_97, e61_99, e61_100, e61_101, e61_103, e61_104, e61_106, e61_109, e61_110, e61_113, e61_116, kv_s, kh_s, kn_s, kc_v, kc_n, ME_isO, ME_f0, ME_f1, ME_f2, ME_f3, ME_f4, ME_f5, ME_f6, ME_f7, ME_f8, ME_a0, ME_a1, ME_a2, ME_a3, ME_a4, ME_a5, ME_r2, ME_r3, ME_r4, ME_r5, ME_w0, ME_w1, ME_w2, ME_w3, ME_w4, ME_w5, ME_p6, ME_p7, ME_p8, SH_gn, SH_asn, SH_asi, SH_pfn, Option.map_some, Nat.reduceEqDiff, Nat.one_ne_zero, Nat.reduceLT, Nat.reduceLeDiff, Nat.reduceAdd, Nat.reduceSub, Nat.reduceMul, nI_add, nI_leI, nI_ltI, nI_eq, z_eq, z_lt, z_le, z_gt, z_ge, ↓reduceIte, not_true_eq_false, not_false_eq_true, if_true, if_false, s28, s23, nI_l, show ¬ tp < fr + q by omega, show ¬ lvl (fr + q) lo hi ≤ fr + q by omega, g0, i0 h2, Nat.add_assoc]
          unfold pl
          rw [if_pos h, h3]
        · have h3 : lvl (fr + q) lo hi = fr + q := by unfold lvl at h ⊢; split at h <;> first | omega | (split <;> omega)
          have e2 := e48 μ' (fr + q) (by omega) i2
          simp (disch := first | omega | assumption | (refine b30 ?_; omega) | exact SH_isO _ _ _ | exact ME_isO _ _ _ _ _ _ | (rw [SH_gn _ _ _ _ (by omega)]; exact ME_isO _ _ _ _ _ _) | (refine nI_inR ?_ ?_ ?_ <;> omega)) only [x61, e61_0, e61_1, e61_4, e61_5, e61_6, e61_7, e61_8, e61_10, e61_12, e61_13, e61_16, e61_17, e61_18, e61_20, e61_21, e61_23, e61_26, e61_29, e61_30, e61_32, e61_34, e61_38, e61_40, e61_43, e61_45, e61_46, e61_48, e61_51, e61_53, e61_55, e61_57, e61_60, e61_61, e61_64, e61_65, e61_66, e61_68, e61_69, e61_71, e61_73, e61_76, e61_77, e61_78, e61_81, e61_82, e61_83, e61_84, e61_86, e61_87, e61_88, e61_91, e61_92, e61_95, e61_96, e61_97, e61_99, e61_100, e61_101, e61_103, e61_104, e61_106, e61_109, e61_110, e61_113, e61_116, kv_s, kh_s, kn_s, kc_v, kc_n, ME_isO, ME_f0, ME_f1, ME_f2, ME_f3, ME_f4, ME_f5, ME_f6, ME_f7, ME_f8, ME_a0, ME_a1, ME_a2, ME_a3, ME_a4, ME_a5, ME_r2, ME_r3, ME_r4, ME_r5, ME_w0, ME_w1, ME_w2, ME_w3, ME_w4, ME_w5, ME_p6, ME_p7, ME_p8, SH_gn, SH_asn, SH_asi, SH_pfn, Option.map_some, Nat.reduceEqDiff, Nat.one_ne_zero, Nat.reduceLT, Nat.reduceLeDiff, Nat.reduceAdd, Nat.reduceSub, Nat.reduceMul, nI_add, nI_leI, nI_ltI, nI_eq, z_eq, z_lt, z_le, z_gt, z_ge, ↓reduceIte, not_true_eq_false, not_false_eq_true, if_true, if_false, s28, nI_l, show ¬ tp < fr + q by omega, show lvl (fr + q) lo hi ≤ fr + q by omega, e2, Nat.add_assoc]
          unfold pl
          rw [if_neg h]
      · intro k h1 h2
        rw [u3_app]
        by_cases h : k = fr + q
        · rw [if_pos ⟨rfl, rfl, h⟩, h]
        · rw [if_neg (by omega), i1 k h1 (by omega)]
      · intro t r hr
        rw [u3_ne _ _ _ _ _ _ _ hr, i2 t r hr]
  obtain ⟨μ', v8, v11, e, i0, i1, i2⟩ := l1 (tp + 1 - fr) (by omega)
  refine ⟨μ', ?_, fun k h1 h2 => i1 k h1 (by omega), i2⟩
  rw [e, e61_36]
  simp (disch := first | omega | assumption | (refine b30 ?_; omega) | exact SH_isO _ _ _ | exact ME_isO _ _ _ _ _ _ | (rw [SH_gn _ _ _ _ (by omega)]; exact ME_isO _ _ _ _ _ _) | (refine nI_inR ?_ ?_ ?_ <;> omega)) only [x61, e61_0, e61_1, e61_4, e61_5, e61_6, e61_7, e61_8, e61_10, e61_12, e61_13, e61_16, e61_17, e61_18, e61_20, e61_21, e61_23, e61_26, e61_29, e61_30, e61_32, e61_34, e61_38, e61_40, e61_43, e61_45, e61_46, e61_48, e61_51, e61_53, e61_55, e61_57, e61_60, e61_61, e61_64, e61_65, e61_66, e61_68, e61_69, e61_71, e61_73, e61_76, e61_77, e61_78, e61_81, e61_82, e61_83, e61_84, e61_86, e61_87, e61_88, e61_91, e61_92, e61_95, e61_96, e61_97, e61_99, e61_100, e61_101, e61_103, e61_104, e61_106, e61_109, e61_110, e61_113, e61_116, kv_s, kh_s, kn_s, kc_v, kc_n, Nat.reduceEqDiff, Nat.one_ne_zero, Nat.reduceLT, Nat.reduceLeDiff, Nat.reduceAdd, Nat.reduceSub, Nat.reduceMul, nI_add, nI_leI, nI_ltI, nI_eq, z_eq, z_lt, z_le, z_gt, z_ge, ↓reduceIte, not_true_eq_false, not_false_eq_true, if_true, if_false, show tp < fr + (tp + 1 - fr) by omega]
def okPl (a : sT) (lo hi : Nat → Nat) (p t : Nat) (μ : lT) : Prop := (∀ n, n < 7 → μ 0 0 n = pw a n) ∧ (∀ y, y < 21 → μ 1 0 y = ppS a y 7) ∧ (∀ n, n ≤ p → ∀ k, k ≤ t → μ 4 n k = plT a lo hi n k)
theorem s60 (fl fh : Int32) (fc : Int64) (ok : okA a) (hp : ∀ p, p < 7 → a 2 p ≤ a 3 p ∧ a 3 p ≤ 20) (μ : lT) (p : Nat) (hp7 : p < 7) : ∃ μ' : lT, ex 60 [.ref 39, .ref 1, .int (nI p)] (SH (ME H μ β fl fh fc) 1 a) = some (none, SH (ME H μ' β fl fh fc) 1 a) ∧ okPl a (a 2) (a 3) p 20 μ' ∧ μ' 2 = μ 2 ∧ μ' 3 = μ 3 := by
  have l1 : ∀ q, q ≤ p → ∃ μ' : lT, ex 60 [.ref 39, .ref 1, .int (nI p)] (SH (ME H μ β fl fh fc) 1 a) = ev 60 17 [some (.ref 39), some (.ref 1), some (.int (nI p)), some (.int (nI (q + 1)))] [] (SH (ME H μ' β fl fh fc) 1 a) ∧ okPl a (a 2) (a 3) q 20 μ' ∧ μ' 2 = μ 2 ∧ μ' 3 = μ 3 := by
    intro q
    induction q with
    | zero =>
      intro _
      obtain ⟨μ1, e1, j1, j2, j3⟩ := s43 H a β fl fh fc ok μ
      obtain ⟨μ2, e2, j4, j5⟩ := s45b H a β fl fh fc ok μ1
      refine ⟨μ2, ?_, ⟨fun n hn => by rw [j5 _ _ (by omega), j1 n hn], fun y hy => by rw [j5 _ _ (by omega), j2 y hy], ?_⟩, ?_, ?_⟩
      · simp (disch := first | omega | assumption | (refine b30 ?_; omega) | exact SH_isO _ _ _ | exact ME_isO _ _ _ _ _ _ | (rw [SH_gn _ _ _ _ (by omega)]; exact ME_isO _ _ _ _ _ _) | (refine nI_inR ?_ ?_ ?_ <;> omega)) only [x60, e60_0, e60_1, e60_2, e60_5, e60_6, e60_7, e60_10, e60_11, e60_12, e60_15, e60_16, e60_18, e60_19, e60_22, e60_23, e60_24, e60_25, e60_26, e60_27, e60_30, e60_31, e60_32, e60_35, e60_36, e60_38, e60_41, e60_44, e60_47, kv_s, kh_s, kn_s, kc_v, kc_n, ME_isO, ME_f0, ME_f1, ME_f2, ME_f3, ME_f4, ME_f5, ME_f6, ME_f7, ME_f8, ME_a0, ME_a1, ME_a2, ME_a3, ME_a4, ME_a5, ME_r2, ME_r3, ME_r4, ME_r5, SH_gn, SH_asn, SH_asi, SH_pfn, Option.map_some, Nat.reduceEqDiff, Nat.one_ne_zero, Nat.reduceLT, Nat.reduceLeDiff, Nat.reduceAdd, Nat.reduceSub, Nat.reduceMul, nI_add, nI_leI, nI_ltI, nI_eq, z_eq, z_lt, z_le, z_gt, z_ge, ↓reduceIte, not_true_eq_false, not_false_eq_true, if_true, if_false, e1, e2, Nat.zero_add]
      · intro n hn k hk
        rw [show n = 0 by omega, j4 k (by omega)]
        rfl
      · funext r
        rw [j5 _ _ (by omega), j3 _ _ (by omega)]
      · funext r
        rw [j5 _ _ (by omega), j3 _ _ (by omega)]
    | succ q ih =>
      intro hq
      obtain ⟨μ', e, ⟨k1, k2, k3⟩, k4, k5⟩ := ih (by omega)
      have hh := hp (q + 1) (by omega)
      obtain ⟨μ1, e1, j1, j2⟩ := s61 H a β fl fh fc ok μ' q (a 2 (q + 1)) (a 3 (q + 1)) 0 20 (by omega) hh.1 (by omega) (by omega) (by omega) k1 k2
      refine ⟨μ1, ?_, ⟨fun n hn => by rw [j2 _ _ (by omega), k1 n hn], fun y hy => by rw [j2 _ _ (by omega), k2 y hy], ?_⟩, ?_, ?_⟩
      · rw [e, e60_17]
        simp (disch := first | omega | assumption | (refine b30 ?_; omega) | exact SH_isO _ _ _ | exact ME_isO _ _ _ _ _ _ | (rw [SH_gn _ _ _ _ (by omega)]; exact ME_isO _ _ _ _ _ _) | (refine nI_inR ?_ ?_ ?_ <;> omega)) only [x60, e60_0, e60_1, e60_2, e60_5, e60_6, e60_7, e60_10, e60_11, e60_12, e60_15, e60_16, e60_18, e60_19, e60_22, e60_23, e60_24, e60_25, e60_26, e60_27, e60_30, e60_31, e60_32, e60_35, e60_36, e60_38, e60_41, e60_44, e60_47, kv_s, kh_s, kn_s, kc_v, kc_n, Nat.reduceEqDiff, Nat.one_ne_zero, Nat.reduceLT, Nat.reduceLeDiff, Nat.reduceAdd, Nat.reduceSub, Nat.reduceMul, nI_add, nI_leI, nI_ltI, nI_eq, z_eq, z_lt, z_le, z_gt, z_ge, ↓reduceIte, not_true_eq_false, not_false_eq_true, if_true, if_false, s26, s27, e1, show ¬ p < q + 1 by omega]
      · intro n hn k hk
        by_cases h : n = q + 1
        · subst h
          rw [j1 k (by omega) hk, pl_congr a q (μ' 4 q) (plT a (a 2) (a 3) q) _ _ k 20 hk (by omega) (fun y hy => k3 q (by omega) y hy)]
          rfl
        · rw [j2 _ _ (by omega), k3 n (by omega) k hk]
      · funext r
        rw [j2 _ _ (by omega), k4]
      · funext r
        rw [j2 _ _ (by omega), k5]
  obtain ⟨μ', e, i1, i2⟩ := l1 p (by omega)
  refine ⟨μ', ?_, i1, i2⟩
  rw [e, e60_17]
  simp (disch := first | omega | assumption | (refine b30 ?_; omega) | exact SH_isO _ _ _ | exact ME_isO _ _ _ _ _ _ | (rw [SH_gn _ _ _ _ (by omega)]; exact ME_isO _ _ _ _ _ _) | (refine nI_inR ?_ ?_ ?_ <;> omega)) only [x60, e60_0, e60_1, e60_2, e60_5, e60_6, e60_7, e60_10, e60_11, e60_12, e60_15, e60_16, e60_18, e60_19, e60_22, e60_23, e60_24, e60_25, e60_26, e60_27, e60_30, e60_31, e60_32, e60_35, e60_36, e60_38, e60_41, e60_44, e60_47, kv_s, kh_s, kn_s, kc_v, kc_n, Nat.reduceEqDiff, Nat.one_ne_zero, Nat.reduceLT, Nat.reduceLeDiff, Nat.reduceAdd, Nat.reduceSub, Nat.reduceMul, nI_add, nI_leI, nI_ltI, nI_eq, z_eq, z_lt, z_le, z_gt, z_ge, ↓reduceIte, not_true_eq_false, not_false_eq_true, if_true, if_false, show p < p + 1 by omega]
end
