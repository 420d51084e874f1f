-- PART 62: the script, third: commands
theorem ps_n (τ : Nat → Nat) (n p : Nat) (h126 : ∀ i, τ i ≤ 126) (hp : p ≤ n) : ∀ i q, ps τ n p i = some q → q ≤ n
  | 0, q, h => by cases h; exact hp
  | i + 1, q, h => by
    rw [ps_s] at h
    cases hq : ps τ n p i with
    | none => rw [hq] at h; cases h
    | some r =>
      rw [hq] at h
      dsimp only at h
      cases hn : n1 τ n r with
      | none => rw [hn] at h; cases h
      | some v =>
        obtain ⟨x, r'⟩ := v
        rw [hn] at h
        cases h
        exact (n1_le τ n r h126 x q hn).2.2.2
theorem ps_none (τ : Nat → Nat) (n p i : Nat) (h : ps τ n p i = none) : ∀ j, ps τ n p (i + j) = none
  | 0 => h
  | j + 1 => by
    show ps τ n p (i + j + 1) = none
    rw [ps_s, ps_none τ n p i h j]
section
variable (H : pi_H) (τ : Nat → Nat) (σ : Nat → Nat)
theorem s104 (h126 : ∀ i, τ i ≤ 126) (n p m : Nat) (h0 : σ 0 = n) (hn : n ≤ 80) (hp : p ≤ n) (hm : m ≤ 3) (ν : Nat → Nat) : ∃ ν' : Nat → Nat, (∀ r, ps τ n p m = some r → ex 104 [.ref 74, .int (nI m)] (SC H τ ν (upN σ 1 p)) = some (some (.int (nI 1)), SC H τ ν' (upN σ 1 r)) ∧ ∀ j, j < m → ν' j = vs τ n p j) ∧ (ps τ n p m = none → ∃ q, q ≤ n ∧ ex 104 [.ref 74, .int (nI m)] (SC H τ ν (upN σ 1 p)) = some (some (.int (nI 0)), SC H τ ν' (upN σ 1 q))) := by
  have r0 := rt104_0
  have r1 := rt104_1
  have l1 : ∀ d i q (ν : Nat → Nat) (v3 : Option Value), i + d = m → ps τ n p i = some q → (∀ j, j < i → ν j = vs τ n p j) → ∃ ν' : Nat → Nat, (∀ r, ps τ n p m = some r → ev 104 2 [some (.ref 74), some (.int (nI m)), some (.int (nI i)), v3] [] (SC H τ ν (upN σ 1 q)) = some (some (.int (nI 1)), SC H τ ν' (upN σ 1 r)) ∧ ∀ j, j < m → ν' j = vs τ n p j) ∧ (ps τ n p m = none → ∃ q', q' ≤ n ∧ ev 104 2 [some (.ref 74), some (.int (nI m)), some (.int (nI i)), v3] [] (SC H τ ν (upN σ 1 q)) = some (some (.int (nI 0)), SC H τ ν' (upN σ 1 q'))) := by
    intro d
    induction d with
    | zero =>
      intro i q ν v3 hi hq hν
      obtain rfl : i = m := by omega
      refine ⟨ν, fun r hr => ?_, fun h => ?_⟩
      · rw [hq] at hr
        cases hr
        refine ⟨?_, hν⟩
        rw [e104_2]
        simp (disch := first | omega | assumption | exact SC_isO _ _ _ _ | (refine b30 ?_; omega) | (refine nI_inR ?_ ?_ ?_ <;> omega)) only [x104, e104_0, e104_1, e104_3, e104_4, e104_7, e104_8, e104_9, e104_12, e104_13, e104_15, e104_18, e104_21, e104_22, e104_23, e104_24, e104_27, e104_28, e104_29, e104_32, e104_33, e104_34, e104_35, e104_38, e104_39, e104_40, e104_41, e104_44, e104_47, e104_48, kv_s, kh_s, kn_s, kc_v, kc_n, Nat.reduceEqDiff, Nat.one_ne_zero, Nat.reduceLT, Nat.reduceLeDiff, Nat.reduceAdd, Nat.reduceSub, Nat.reduceMul, nI_add, nI_leI, nI_ltI, nI_eq, z_eq, z_lt, z_le, z_gt, z_ge, ↓reduceIte, not_true_eq_false, not_false_eq_true, if_true, if_false, show i ≤ i by omega]
      · rw [hq] at h
        cases h
    | succ d ih =>
      intro i q ν v3 hi hq hν
      have hqn := ps_n τ n p h126 hp i q hq
      have e105 := s105 H τ ν σ h126 n q 32 h0 hn hqn (by omega)
      by_cases hb : q < n ∧ τ q = 32
      · rw [if_pos hb] at e105
        have e106 := s106 H τ ν σ h126 n (q + 1) h0 hn (by omega)
        have en : n1 τ n q = nm τ n (q + 1) := if_pos hb
        cases hx : nm τ n (q + 1) with
        | none =>
          rw [hx] at e106
          have hz : ¬ (0 : Int32) ≤ -1 := neg1
          have hps : ps τ n p m = none := by
            have := ps_none τ n p (i + 1) (by rw [ps_s, hq]; dsimp only; rw [en, hx]) d
            rw [show i + 1 + d = m by omega] at this
            exact this
          refine ⟨ν, fun r hr => ?_, fun _ => ⟨q + 1, by omega, ?_⟩⟩
          · rw [hps] at hr
            cases hr
          · rw [e104_2]
            dsimp only [rdN, atN] at e106
            simp (disch := first | omega | assumption | exact SC_isO _ _ _ _ | (refine b30 ?_; omega) | (refine nI_inR ?_ ?_ ?_ <;> omega)) only [x104, e104_0, e104_1, e104_3, e104_4, e104_7, e104_8, e104_9, e104_12, e104_13, e104_15, e104_18, e104_21, e104_22, e104_23, e104_24, e104_27, e104_28, e104_29, e104_32, e104_33, e104_34, e104_35, e104_38, e104_39, e104_40, e104_41, e104_44, e104_47, e104_48, kv_s, kh_s, kn_s, kc_v, kc_n, Nat.reduceEqDiff, Nat.one_ne_zero, Nat.reduceLT, Nat.reduceLeDiff, Nat.reduceAdd, Nat.reduceSub, Nat.reduceMul, nI_add, nI_leI, nI_ltI, nI_eq, z_eq, z_lt, z_le, z_gt, z_ge, ↓reduceIte, not_true_eq_false, not_false_eq_true, if_true, if_false, e105, e106, hz, show ¬ m ≤ i by omega, show ¬ 3 ≤ i by omega]
        | some xr =>
          obtain ⟨x, r⟩ := xr
          rw [hx] at e106
          have hxr := nm_le τ n (q + 1) h126 x r hx
          have hps : ps τ n p (i + 1) = some r := by rw [ps_s, hq]; dsimp only; rw [en, hx]
          have hvs : vs τ n p i = x := by unfold vs; rw [hq]; dsimp only; rw [en, hx]
          obtain ⟨ν', i1, i2⟩ := ih (i + 1) r (upN ν i x) (some (.int (nI x))) (by omega) hps (fun j hj => by
            rw [upN_app]
            by_cases e : j = i
            · rw [if_pos e, e, hvs]
            · rw [if_neg e, hν j (by omega)])
          dsimp only [rdN, atN] at e106
          have es : ev 104 2 [some (.ref 74), some (.int (nI m)), some (.int (nI i)), v3] [] (SC H τ ν (upN σ 1 q)) = ev 104 2 [some (.ref 74), some (.int (nI m)), some (.int (nI (i + 1))), some (.int (nI x))] [] (SC H τ (upN ν i x) (upN σ 1 r)) := by
            rw [e104_2]
            simp (disch := first | omega | assumption | exact SC_isO _ _ _ _ | (refine b30 ?_; omega) | (refine nI_inR ?_ ?_ ?_ <;> omega)) only [x104, e104_0, e104_1, e104_3, e104_4, e104_7, e104_8, e104_9, e104_12, e104_13, e104_15, e104_18, e104_21, e104_22, e104_23, e104_24, e104_27, e104_28, e104_29, e104_32, e104_33, e104_34, e104_35, e104_38, e104_39, e104_40, e104_41, e104_44, e104_47, e104_48, kv_s, kh_s, kn_s, kc_v, kc_n, Nat.reduceEqDiff, Nat.one_ne_zero, Nat.reduceLT, Nat.reduceLeDiff, Nat.reduceAdd, Nat.reduceSub, Nat.reduceMul, nI_add, nI_leI, nI_ltI, nI_eq, z_eq, z_lt, z_le, z_gt, z_ge, ↓reduceIte, not_true_eq_false, not_false_eq_true, if_true, if_false, SC_isO, SC_f0, SC_f1, SC_f2, SC_f3, SC_f4, SC_f5, SC_f6, SC_a1, SC_a2, SC_w1, SC_w2, SC_p2, SC_p3, SC_p4, SC_p5, SC_p6, e105, e106, show ¬ m ≤ i by omega, show ¬ 3 ≤ i by omega]
          rw [es]
          exact ⟨ν', i1, i2⟩
      · rw [if_neg hb] at e105
        have en : n1 τ n q = none := if_neg hb
        have hps : ps τ n p m = none := by
          have := ps_none τ n p (i + 1) (by rw [ps_s, hq]; dsimp only; rw [en]) d
          rw [show i + 1 + d = m by omega] at this
          exact this
        refine ⟨ν, fun r hr => ?_, fun _ => ⟨q, hqn, ?_⟩⟩
        · rw [hps] at hr
          cases hr
        · rw [e104_2]
          simp (disch := first | omega | assumption | exact SC_isO _ _ _ _ | (refine b30 ?_; omega) | (refine nI_inR ?_ ?_ ?_ <;> omega)) only [x104, e104_0, e104_1, e104_3, e104_4, e104_7, e104_8, e104_9, e104_12, e104_13, e104_15, e104_18, e104_21, e104_22, e104_23, e104_24, e104_27, e104_28, e104_29, e104_32, e104_33, e104_34, e104_35, e104_38, e104_39, e104_40, e104_41, e104_44, e104_47, e104_48, kv_s, kh_s, kn_s, kc_v, kc_n, Nat.reduceEqDiff, Nat.one_ne_zero, Nat.reduceLT, Nat.reduceLeDiff, Nat.reduceAdd, Nat.reduceSub, Nat.reduceMul, nI_add, nI_leI, nI_ltI, nI_eq, z_eq, z_lt, z_le, z_gt, z_ge, ↓reduceIte, not_true_eq_false, not_false_eq_true, if_true, if_false, e105, show ¬ m ≤ i by omega, show ¬ 3 ≤ i by omega]
  obtain ⟨ν', i1, i2⟩ := l1 m 0 p ν none (by omega) rfl (fun j hj => absurd hj (by omega))
  have e0 : ex 104 [.ref 74, .int (nI m)] (SC H τ ν (upN σ 1 p)) = ev 104 2 [some (.ref 74), some (.int (nI m)), some (.int (nI 0)), none] [] (SC H τ ν (upN σ 1 p)) := by
    simp (disch := first | omega | assumption | exact SC_isO _ _ _ _ | (refine b30 ?_; omega) | (refine nI_inR ?_ ?_ ?_ <;> omega)) only [x104, e104_0, e104_1, e104_3, e104_4, e104_7, e104_8, e104_9, e104_12, e104_13, e104_15, e104_18, e104_21, e104_22, e104_23, e104_24, e104_27, e104_28, e104_29, e104_32, e104_33, e104_34, e104_35, e104_38, e104_39, e104_40, e104_41, e104_44, e104_47, e104_48, kv_s, kh_s, kn_s, kc_v, kc_n, Nat.reduceEqDiff, Nat.one_ne_zero, Nat.reduceLT, Nat.reduceLeDiff, Nat.reduceAdd, Nat.reduceSub, Nat.reduceMul, nI_add, nI_leI, nI_ltI, nI_eq, z_eq, z_lt, z_le, z_gt, z_ge, ↓reduceIte, not_true_eq_false, not_false_eq_true, if_true, if_false]
  rw [e0]
  exact ⟨ν', i1, i2⟩
end
theorem SC_SH (H : pi_H) (a : sT) (τ ν σ : Nat → Nat) : SC (SH H 7 a) τ ν σ = SH (SC H τ ν σ) 7 a := OV_comm _ _ _ _ _ _ _ (by omega)
def mcok (H : pi_H) : Prop := pi_get H 1000000 = some (.inl (10, 5, .inl pi_mcost))
section
variable (H : pi_H) (τ : Nat → Nat)
theorem s107 (hmc : mcok H) (t : Nat) (a : sT) (ok : okT t a) (ht : t < 2 ^ 30) (k : Nat) (hk : k < 7) (ν σ : Nat → Nat) (h5 : ∀ i, i < many k → ν i < 100) : ex 107 [.ref 74, .ref 7, .int (nI k)] (SC (SH H 7 a) τ ν σ) = some (some (.int (act a k (ν 0) (ν 1) (ν 2)).1), SC (SH H 7 (act a k (ν 0) (ν 1) (ν 2)).2) τ ν σ) := by
  rw [SC_SH, SC_SH]
  obtain ⟨o1, o4, o5, o6, o7, o8, o9⟩ := id ok
  have hmc' : pi_get (SC H τ ν σ) 1000000 = some (.inl (10, 5, .inl pi_mcost)) := (SC_gn H τ ν σ 1000000 (by omega)).trans hmc
  have hk7 : k = 0 ∨ k = 1 ∨ k = 2 ∨ k = 3 ∨ k = 4 ∨ k = 5 ∨ k = 6 := by omega
  rcases hk7 with rfl | rfl | rfl | rfl | rfl | rfl | rfl
  · have n0 := h5 0 (by decide)
    have n1 := h5 1 (by decide)
    by_cases q : ν 0 ≤ 6 ∧ ν 1 ≤ 9
    · have e : act a 0 (ν 0) (ν 1) (ν 2) = m_weigh a (ν 0) (ν 1) := by simp [act, q]
      have e2 := s7 7 (by omega) a o1.2.2 (ν 0) (ν 1) q.1 q.2 (SC H τ ν σ)
      rw [e]
      simp (disch := first | omega | assumption | exact SH_isO _ _ _ | (refine b30 ?_; omega) | (refine nI_inR ?_ ?_ ?_ <;> omega)) only [x107, e107_0, e107_1, e107_40, e107_41, e107_42, e107_45, e107_46, e107_47, e107_48, e107_51, e107_52, e107_53, e107_56, e107_57, e107_58, e107_59, e107_62, e107_63, e107_64, e107_65, e107_68, e107_69, e107_70, e107_73, e107_74, e107_75, e107_76, e107_79, e107_80, e107_81, e107_82, e107_85, e107_86, e107_87, e107_90, e107_91, e107_92, e107_93, e107_96, e107_97, e107_98, e107_99, e107_102, e107_103, e107_104, e107_105, e107_108, e107_109, e107_110, e107_113, e107_114, e107_115, e107_116, e107_119, e107_120, e107_121, e107_124, e107_125, e107_126, e107_129, e107_130, e107_131, e107_132, e107_135, e107_136, e107_137, e107_140, kv_s, kh_s, kn_s, kc_v, kc_n, SC_isO, SC_f0, SC_f1, SC_f2, SC_f3, SC_f4, SC_f5, SC_f6, SC_a1, SC_a2, Nat.reduceEqDiff, Nat.one_ne_zero, Nat.reduceLT, Nat.reduceLeDiff, Nat.reduceAdd, Nat.reduceSub, Nat.reduceMul, nI_add, nI_leI, nI_ltI, nI_eq, z_eq, z_lt, z_le, z_gt, z_ge, ↓reduceIte, not_true_eq_false, not_false_eq_true, if_true, if_false, SH_gn, e2]
    · have e : act a 0 (ν 0) (ν 1) (ν 2) = (-1000001, a) := by simp [act, q]
      have e2 := s7o 7 a (nI (ν 0)) (nI (ν 1)) (fun h => q ⟨((inR_N (by omega) (by omega) (by omega)).mp h.1).2, ((inR_N (by omega) (by omega) (by omega)).mp h.2).2⟩) (SH (SC H τ ν σ) 7 a)
      rw [e]
      simp (disch := first | omega | assumption | exact SH_isO _ _ _ | (refine b30 ?_; omega) | (refine nI_inR ?_ ?_ ?_ <;> omega)) only [x107, e107_0, e107_1, e107_40, e107_41, e107_42, e107_45, e107_46, e107_47, e107_48, e107_51, e107_52, e107_53, e107_56, e107_57, e107_58, e107_59, e107_62, e107_63, e107_64, e107_65, e107_68, e107_69, e107_70, e107_73, e107_74, e107_75, e107_76, e107_79, e107_80, e107_81, e107_82, e107_85, e107_86, e107_87, e107_90, e107_91, e107_92, e107_93, e107_96, e107_97, e107_98, e107_99, e107_102, e107_103, e107_104, e107_105, e107_108, e107_109, e107_110, e107_113, e107_114, e107_115, e107_116, e107_119, e107_120, e107_121, e107_124, e107_125, e107_126, e107_129, e107_130, e107_131, e107_132, e107_135, e107_136, e107_137, e107_140, kv_s, kh_s, kn_s, kc_v, kc_n, SC_isO, SC_f0, SC_f1, SC_f2, SC_f3, SC_f4, SC_f5, SC_f6, SC_a1, SC_a2, Nat.reduceEqDiff, Nat.one_ne_zero, Nat.reduceLT, Nat.reduceLeDiff, Nat.reduceAdd, Nat.reduceSub, Nat.reduceMul, nI_add, nI_leI, nI_ltI, nI_eq, z_eq, z_lt, z_le, z_gt, z_ge, ↓reduceIte, not_true_eq_false, not_false_eq_true, if_true, if_false, SH_gn, e2]
  · have n0 := h5 0 (by decide)
    have n1 := h5 1 (by decide)
    by_cases q : ν 0 ≤ 4 ∧ ν 1 ≤ mc (ν 0)
    · have e : act a 1 (ν 0) (ν 1) (ν 2) = m_cost a (ν 0) (ν 1) := by simp [act, q]
      have e2 := s14 7 (by omega) a (ν 0) (ν 1) q.1 q.2 (SC H τ ν σ) hmc'
      rw [e]
      simp (disch := first | omega | assumption | exact SH_isO _ _ _ | (refine b30 ?_; omega) | (refine nI_inR ?_ ?_ ?_ <;> omega)) only [x107, e107_0, e107_1, e107_40, e107_41, e107_42, e107_45, e107_46, e107_47, e107_48, e107_51, e107_52, e107_53, e107_56, e107_57, e107_58, e107_59, e107_62, e107_63, e107_64, e107_65, e107_68, e107_69, e107_70, e107_73, e107_74, e107_75, e107_76, e107_79, e107_80, e107_81, e107_82, e107_85, e107_86, e107_87, e107_90, e107_91, e107_92, e107_93, e107_96, e107_97, e107_98, e107_99, e107_102, e107_103, e107_104, e107_105, e107_108, e107_109, e107_110, e107_113, e107_114, e107_115, e107_116, e107_119, e107_120, e107_121, e107_124, e107_125, e107_126, e107_129, e107_130, e107_131, e107_132, e107_135, e107_136, e107_137, e107_140, kv_s, kh_s, kn_s, kc_v, kc_n, SC_isO, SC_f0, SC_f1, SC_f2, SC_f3, SC_f4, SC_f5, SC_f6, SC_a1, SC_a2, Nat.reduceEqDiff, Nat.one_ne_zero, Nat.reduceLT, Nat.reduceLeDiff, Nat.reduceAdd, Nat.reduceSub, Nat.reduceMul, nI_add, nI_leI, nI_ltI, nI_eq, z_eq, z_lt, z_le, z_gt, z_ge, ↓reduceIte, not_true_eq_false, not_false_eq_true, if_true, if_false, SH_gn, e2]
    · have e : act a 1 (ν 0) (ν 1) (ν 2) = (-1000001, a) := by simp [act, q]
      have e2 := s14o 7 (by omega) a (nI (ν 0)) (nI (ν 1)) (SC H τ ν σ) hmc' (fun h => by
        rw [nI_clamp (by omega)] at h
        have h99 : mc (ν 0) ≤ 99 := by unfold mc; (repeat' split) <;> omega
        exact q ⟨((inR_N (by omega) (by omega) (by omega)).mp h.1).2, ((inR_N (by omega) (by omega) (by omega)).mp h.2).2⟩)
      rw [e]
      simp (disch := first | omega | assumption | exact SH_isO _ _ _ | (refine b30 ?_; omega) | (refine nI_inR ?_ ?_ ?_ <;> omega)) only [x107, e107_0, e107_1, e107_40, e107_41, e107_42, e107_45, e107_46, e107_47, e107_48, e107_51, e107_52, e107_53, e107_56, e107_57, e107_58, e107_59, e107_62, e107_63, e107_64, e107_65, e107_68, e107_69, e107_70, e107_73, e107_74, e107_75, e107_76, e107_79, e107_80, e107_81, e107_82, e107_85, e107_86, e107_87, e107_90, e107_91, e107_92, e107_93, e107_96, e107_97, e107_98, e107_99, e107_102, e107_103, e107_104, e107_105, e107_108, e107_109, e107_110, e107_113, e107_114, e107_115, e107_116, e107_119, e107_120, e107_121, e107_124, e107_125, e107_126, e107_129, e107_130, e107_131, e107_132, e107_135, e107_136, e107_137, e107_140, kv_s, kh_s, kn_s, kc_v, kc_n, SC_isO, SC_f0, SC_f1, SC_f2, SC_f3, SC_f4, SC_f5, SC_f6, SC_a1, SC_a2, Nat.reduceEqDiff, Nat.one_ne_zero, Nat.reduceLT, Nat.reduceLeDiff, Nat.reduceAdd, Nat.reduceSub, Nat.reduceMul, nI_add, nI_leI, nI_ltI, nI_eq, z_eq, z_lt, z_le, z_gt, z_ge, ↓reduceIte, not_true_eq_false, not_false_eq_true, if_true, if_false, SH_gn, e2]
  · have n0 := h5 0 (by decide)
    have n1 := h5 1 (by decide)
    by_cases q : ν 0 ≤ 20 ∧ (1 ≤ ν 1 ∧ ν 1 ≤ 6)
    · have e : act a 2 (ν 0) (ν 1) (ν 2) = m_season a (ν 0) (ν 1) := by simp [act, q]
      have e2 := s20 7 (by omega) a (ν 0) (ν 1) q.2.1 q.2.2 q.1 (SC H τ ν σ)
      rw [e]
      simp (disch := first | omega | assumption | exact SH_isO _ _ _ | (refine b30 ?_; omega) | (refine nI_inR ?_ ?_ ?_ <;> omega)) only [x107, e107_0, e107_1, e107_40, e107_41, e107_42, e107_45, e107_46, e107_47, e107_48, e107_51, e107_52, e107_53, e107_56, e107_57, e107_58, e107_59, e107_62, e107_63, e107_64, e107_65, e107_68, e107_69, e107_70, e107_73, e107_74, e107_75, e107_76, e107_79, e107_80, e107_81, e107_82, e107_85, e107_86, e107_87, e107_90, e107_91, e107_92, e107_93, e107_96, e107_97, e107_98, e107_99, e107_102, e107_103, e107_104, e107_105, e107_108, e107_109, e107_110, e107_113, e107_114, e107_115, e107_116, e107_119, e107_120, e107_121, e107_124, e107_125, e107_126, e107_129, e107_130, e107_131, e107_132, e107_135, e107_136, e107_137, e107_140, kv_s, kh_s, kn_s, kc_v, kc_n, SC_isO, SC_f0, SC_f1, SC_f2, SC_f3, SC_f4, SC_f5, SC_f6, SC_a1, SC_a2, Nat.reduceEqDiff, Nat.one_ne_zero, Nat.reduceLT, Nat.reduceLeDiff, Nat.reduceAdd, Nat.reduceSub, Nat.reduceMul, nI_add, nI_leI, nI_ltI, nI_eq, z_eq, z_lt, z_le, z_gt, z_ge, ↓reduceIte, not_true_eq_false, not_false_eq_true, if_true, if_false, SH_gn, e2]
    · have e : act a 2 (ν 0) (ν 1) (ν 2) = (-1000001, a) := by
        unfold act
        rw [if_neg (by omega), if_neg (by omega), if_pos rfl, if_neg q]
      have e2 := s20o 7 a (nI (ν 0)) (nI (ν 1)) (fun h => q ⟨((inR_N (by omega) (by omega) (by omega)).mp h.1).2, (inR_N (by omega) (by omega) (by omega)).mp h.2⟩) (SH (SC H τ ν σ) 7 a)
      rw [e]
      simp (disch := first | omega | assumption | exact SH_isO _ _ _ | (refine b30 ?_; omega) | (refine nI_inR ?_ ?_ ?_ <;> omega)) only [x107, e107_0, e107_1, e107_40, e107_41, e107_42, e107_45, e107_46, e107_47, e107_48, e107_51, e107_52, e107_53, e107_56, e107_57, e107_58, e107_59, e107_62, e107_63, e107_64, e107_65, e107_68, e107_69, e107_70, e107_73, e107_74, e107_75, e107_76, e107_79, e107_80, e107_81, e107_82, e107_85, e107_86, e107_87, e107_90, e107_91, e107_92, e107_93, e107_96, e107_97, e107_98, e107_99, e107_102, e107_103, e107_104, e107_105, e107_108, e107_109, e107_110, e107_113, e107_114, e107_115, e107_116, e107_119, e107_120, e107_121, e107_124, e107_125, e107_126, e107_129, e107_130, e107_131, e107_132, e107_135, e107_136, e107_137, e107_140, kv_s, kh_s, kn_s, kc_v, kc_n, SC_isO, SC_f0, SC_f1, SC_f2, SC_f3, SC_f4, SC_f5, SC_f6, SC_a1, SC_a2, Nat.reduceEqDiff, Nat.one_ne_zero, Nat.reduceLT, Nat.reduceLeDiff, Nat.reduceAdd, Nat.reduceSub, Nat.reduceMul, nI_add, nI_leI, nI_ltI, nI_eq, z_eq, z_lt, z_le, z_gt, z_ge, ↓reduceIte, not_true_eq_false, not_false_eq_true, if_true, if_false, SH_gn, e2]
  · have n0 := h5 0 (by decide)
    have n1 := h5 1 (by decide)
    have n2 := h5 2 (by decide)
    by_cases q : (1 ≤ ν 0 ∧ ν 0 ≤ 6) ∧ ν 1 ≤ 20 ∧ (ν 1 ≤ ν 2 ∧ ν 2 ≤ 20)
    · have e : act a 3 (ν 0) (ν 1) (ν 2) = m_plan a (ν 0) (ν 1) (ν 2) := by
        unfold act
        rw [if_neg (by omega), if_neg (by omega), if_neg (by omega), if_pos rfl, if_pos q]
      have e2 := s16 7 (by omega) a (ν 0) (ν 1) (ν 2) q.1.1 q.1.2 q.2.2.1 q.2.2.2 (SC H τ ν σ)
      rw [e]
      simp (disch := first | omega | assumption | exact SH_isO _ _ _ | (refine b30 ?_; omega) | (refine nI_inR ?_ ?_ ?_ <;> omega)) only [x107, e107_0, e107_1, e107_40, e107_41, e107_42, e107_45, e107_46, e107_47, e107_48, e107_51, e107_52, e107_53, e107_56, e107_57, e107_58, e107_59, e107_62, e107_63, e107_64, e107_65, e107_68, e107_69, e107_70, e107_73, e107_74, e107_75, e107_76, e107_79, e107_80, e107_81, e107_82, e107_85, e107_86, e107_87, e107_90, e107_91, e107_92, e107_93, e107_96, e107_97, e107_98, e107_99, e107_102, e107_103, e107_104, e107_105, e107_108, e107_109, e107_110, e107_113, e107_114, e107_115, e107_116, e107_119, e107_120, e107_121, e107_124, e107_125, e107_126, e107_129, e107_130, e107_131, e107_132, e107_135, e107_136, e107_137, e107_140, kv_s, kh_s, kn_s, kc_v, kc_n, SC_isO, SC_f0, SC_f1, SC_f2, SC_f3, SC_f4, SC_f5, SC_f6, SC_a1, SC_a2, Nat.reduceEqDiff, Nat.one_ne_zero, Nat.reduceLT, Nat.reduceLeDiff, Nat.reduceAdd, Nat.reduceSub, Nat.reduceMul, nI_add, nI_leI, nI_ltI, nI_eq, z_eq, z_lt, z_le, z_gt, z_ge, ↓reduceIte, not_true_eq_false, not_false_eq_true, if_true, if_false, SH_gn, e2]
    · have e : act a 3 (ν 0) (ν 1) (ν 2) = (-1000001, a) := by
        unfold act
        rw [if_neg (by omega), if_neg (by omega), if_neg (by omega), if_pos rfl, if_neg q]
      have e2 := s16o 7 a (nI (ν 0)) (nI (ν 1)) (nI (ν 2)) (fun h => q ⟨(inR_N (by omega) (by omega) (by omega)).mp h.1, ((inR_N (by omega) (by omega) (by omega)).mp h.2.1).2, (inR_N (by omega) (by omega) (by omega)).mp h.2.2⟩) (SH (SC H τ ν σ) 7 a)
      rw [e]
      simp (disch := first | omega | assumption | exact SH_isO _ _ _ | (refine b30 ?_; omega) | (refine nI_inR ?_ ?_ ?_ <;> omega)) only [x107, e107_0, e107_1, e107_40, e107_41, e107_42, e107_45, e107_46, e107_47, e107_48, e107_51, e107_52, e107_53, e107_56, e107_57, e107_58, e107_59, e107_62, e107_63, e107_64, e107_65, e107_68, e107_69, e107_70, e107_73, e107_74, e107_75, e107_76, e107_79, e107_80, e107_81, e107_82, e107_85, e107_86, e107_87, e107_90, e107_91, e107_92, e107_93, e107_96, e107_97, e107_98, e107_99, e107_102, e107_103, e107_104, e107_105, e107_108, e107_109, e107_110, e107_113, e107_114, e107_115, e107_116, e107_119, e107_120, e107_121, e107_124, e107_125, e107_126, e107_129, e107_130, e107_131, e107_132, e107_135, e107_136, e107_137, e107_140, kv_s, kh_s, kn_s, kc_v, kc_n, SC_isO, SC_f0, SC_f1, SC_f2, SC_f3, SC_f4, SC_f5, SC_f6, SC_a1, SC_a2, Nat.reduceEqDiff, Nat.one_ne_zero, Nat.reduceLT, Nat.reduceLeDiff, Nat.reduceAdd, Nat.reduceSub, Nat.reduceMul, nI_add, nI_leI, nI_ltI, nI_eq, z_eq, z_lt, z_le, z_gt, z_ge, ↓reduceIte, not_true_eq_false, not_false_eq_true, if_true, if_false, SH_gn, e2]
  · have n0 := h5 0 (by decide)
    by_cases q : ν 0 ≤ 20
    · have e : act a 4 (ν 0) (ν 1) (ν 2) = m_order a (ν 0) := by simp [act, q]
      have e2 := s22 7 (by omega) a (ν 0) q o6 o7 o8 (SC H τ ν σ)
      rw [e]
      simp (disch := first | omega | assumption | exact SH_isO _ _ _ | (refine b30 ?_; omega) | (refine nI_inR ?_ ?_ ?_ <;> omega)) only [x107, e107_0, e107_1, e107_40, e107_41, e107_42, e107_45, e107_46, e107_47, e107_48, e107_51, e107_52, e107_53, e107_56, e107_57, e107_58, e107_59, e107_62, e107_63, e107_64, e107_65, e107_68, e107_69, e107_70, e107_73, e107_74, e107_75, e107_76, e107_79, e107_80, e107_81, e107_82, e107_85, e107_86, e107_87, e107_90, e107_91, e107_92, e107_93, e107_96, e107_97, e107_98, e107_99, e107_102, e107_103, e107_104, e107_105, e107_108, e107_109, e107_110, e107_113, e107_114, e107_115, e107_116, e107_119, e107_120, e107_121, e107_124, e107_125, e107_126, e107_129, e107_130, e107_131, e107_132, e107_135, e107_136, e107_137, e107_140, kv_s, kh_s, kn_s, kc_v, kc_n, SC_isO, SC_f0, SC_f1, SC_f2, SC_f3, SC_f4, SC_f5, SC_f6, SC_a1, SC_a2, Nat.reduceEqDiff, Nat.one_ne_zero, Nat.reduceLT, Nat.reduceLeDiff, Nat.reduceAdd, Nat.reduceSub, Nat.reduceMul, nI_add, nI_leI, nI_ltI, nI_eq, z_eq, z_lt, z_le, z_gt, z_ge, ↓reduceIte, not_true_eq_false, not_false_eq_true, if_true, if_false, SH_gn, e2]
    · have e : act a 4 (ν 0) (ν 1) (ν 2) = (-1000001, a) := by simp [act, q]
      have e2 := s22o 7 a (nI (ν 0)) (fun h => q ((inR_N (by omega) (by omega) (by omega)).mp h).2) (SH (SC H τ ν σ) 7 a)
      rw [e]
      simp (disch := first | omega | assumption | exact SH_isO _ _ _ | (refine b30 ?_; omega) | (refine nI_inR ?_ ?_ ?_ <;> omega)) only [x107, e107_0, e107_1, e107_40, e107_41, e107_42, e107_45, e107_46, e107_47, e107_48, e107_51, e107_52, e107_53, e107_56, e107_57, e107_58, e107_59, e107_62, e107_63, e107_64, e107_65, e107_68, e107_69, e107_70, e107_73, e107_74, e107_75, e107_76, e107_79, e107_80, e107_81, e107_82, e107_85, e107_86, e107_87, e107_90, e107_91, e107_92, e107_93, e107_96, e107_97, e107_98, e107_99, e107_102, e107_103, e107_104, e107_105, e107_108, e107_109, e107_110, e107_113, e107_114, e107_115, e107_116, e107_119, e107_120, e107_121, e107_124, e107_125, e107_126, e107_129, e107_130, e107_131, e107_132, e107_135, e107_136, e107_137, e107_140, kv_s, kh_s, kn_s, kc_v, kc_n, SC_isO, SC_f0, SC_f1, SC_f2, SC_f3, SC_f4, SC_f5, SC_f6, SC_a1, SC_a2, Nat.reduceEqDiff, Nat.one_ne_zero, Nat.reduceLT, Nat.reduceLeDiff, Nat.reduceAdd, Nat.reduceSub, Nat.reduceMul, nI_add, nI_leI, nI_ltI, nI_eq, z_eq, z_lt, z_le, z_gt, z_ge, ↓reduceIte, not_true_eq_false, not_false_eq_true, if_true, if_false, SH_gn, e2]
  · have e : act a 5 (ν 0) (ν 1) (ν 2) = m_follow a := by simp [act]
    have e2 := s25 7 (by omega) a o6 o7 o8 o5 (SC H τ ν σ)
    rw [e]
    simp (disch := first | omega | assumption | exact SH_isO _ _ _ | (refine b30 ?_; omega) | (refine nI_inR ?_ ?_ ?_ <;> omega)) only [x107, e107_0, e107_1, e107_40, e107_41, e107_42, e107_45, e107_46, e107_47, e107_48, e107_51, e107_52, e107_53, e107_56, e107_57, e107_58, e107_59, e107_62, e107_63, e107_64, e107_65, e107_68, e107_69, e107_70, e107_73, e107_74, e107_75, e107_76, e107_79, e107_80, e107_81, e107_82, e107_85, e107_86, e107_87, e107_90, e107_91, e107_92, e107_93, e107_96, e107_97, e107_98, e107_99, e107_102, e107_103, e107_104, e107_105, e107_108, e107_109, e107_110, e107_113, e107_114, e107_115, e107_116, e107_119, e107_120, e107_121, e107_124, e107_125, e107_126, e107_129, e107_130, e107_131, e107_132, e107_135, e107_136, e107_137, e107_140, kv_s, kh_s, kn_s, kc_v, kc_n, SC_isO, SC_f0, SC_f1, SC_f2, SC_f3, SC_f4, SC_f5, SC_f6, SC_a1, SC_a2, Nat.reduceEqDiff, Nat.one_ne_zero, Nat.reduceLT, Nat.reduceLeDiff, Nat.reduceAdd, Nat.reduceSub, Nat.reduceMul, nI_add, nI_leI, nI_ltI, nI_eq, z_eq, z_lt, z_le, z_gt, z_ge, ↓reduceIte, not_true_eq_false, not_false_eq_true, if_true, if_false, SH_gn, e2]
  · have n0 := h5 0 (by decide)
    by_cases q : ν 0 ≤ 6
    · have e : act a 6 (ν 0) (ν 1) (ν 2) = m_sell a (ν 0) := by simp [act, q]
      have e2 := s30 7 (by omega) a (ν 0) q o6 o7 (SC H τ ν σ)
      rw [e]
      simp (disch := first | omega | assumption | exact SH_isO _ _ _ | (refine b30 ?_; omega) | (refine nI_inR ?_ ?_ ?_ <;> omega)) only [x107, e107_0, e107_1, e107_40, e107_41, e107_42, e107_45, e107_46, e107_47, e107_48, e107_51, e107_52, e107_53, e107_56, e107_57, e107_58, e107_59, e107_62, e107_63, e107_64, e107_65, e107_68, e107_69, e107_70, e107_73, e107_74, e107_75, e107_76, e107_79, e107_80, e107_81, e107_82, e107_85, e107_86, e107_87, e107_90, e107_91, e107_92, e107_93, e107_96, e107_97, e107_98, e107_99, e107_102, e107_103, e107_104, e107_105, e107_108, e107_109, e107_110, e107_113, e107_114, e107_115, e107_116, e107_119, e107_120, e107_121, e107_124, e107_125, e107_126, e107_129, e107_130, e107_131, e107_132, e107_135, e107_136, e107_137, e107_140, kv_s, kh_s, kn_s, kc_v, kc_n, SC_isO, SC_f0, SC_f1, SC_f2, SC_f3, SC_f4, SC_f5, SC_f6, SC_a1, SC_a2, Nat.reduceEqDiff, Nat.one_ne_zero, Nat.reduceLT, Nat.reduceLeDiff, Nat.reduceAdd, Nat.reduceSub, Nat.reduceMul, nI_add, nI_leI, nI_ltI, nI_eq, z_eq, z_lt, z_le, z_gt, z_ge, ↓reduceIte, not_true_eq_false, not_false_eq_true, if_true, if_false, SH_gn, e2]
    · have e : act a 6 (ν 0) (ν 1) (ν 2) = (-1000001, a) := by simp [act, q]
      have e2 := s30o 7 (nI (ν 0)) (fun h => q ((inR_N (by omega) (by omega) (by omega)).mp h).2) (SH (SC H τ ν σ) 7 a)
      rw [e]
      simp (disch := first | omega | assumption | exact SH_isO _ _ _ | (refine b30 ?_; omega) | (refine nI_inR ?_ ?_ ?_ <;> omega)) only [x107, e107_0, e107_1, e107_40, e107_41, e107_42, e107_45, e107_46, e107_47, e107_48, e107_51, e107_52, e107_53, e107_56, e107_57, e107_58, e107_59, e107_62, e107_63, e107_64, e107_65, e107_68, e107_69, e107_70, e107_73, e107_74, e107_75, e107_76, e107_79, e107_80, e107_81, e107_82, e107_85, e107_86, e107_87, e107_90, e107_91, e107_92, e107_93, e107_96, e107_97, e107_98, e107_99, e107_102, e107_103, e107_104, e107_105, e107_108, e107_109, e107_110, e107_113, e107_114, e107_115, e107_116, e107_119, e107_120, e107_121, e107_124, e107_125, e107_126, e107_129, e107_130, e107_131, e107_132, e107_135, e107_136, e107_137, e107_140, kv_s, kh_s, kn_s, kc_v, kc_n, SC_isO, SC_f0, SC_f1, SC_f2, SC_f3, SC_f4, SC_f5, SC_f6, SC_a1, SC_a2, Nat.reduceEqDiff, Nat.one_ne_zero, Nat.reduceLT, Nat.reduceLeDiff, Nat.reduceAdd, Nat.reduceSub, Nat.reduceMul, nI_add, nI_leI, nI_ltI, nI_eq, z_eq, z_lt, z_le, z_gt, z_ge, ↓reduceIte, not_true_eq_false, not_false_eq_true, if_true, if_false, SH_gn, e2]
end
