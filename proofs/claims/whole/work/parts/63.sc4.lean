-- PART 63: the script, fourth: a run
/-- a command's reason -/
def rsn (v : Int32) : Nat := if v = -1000001 then 2 else if v < 0 then 3 else 0
section
variable (H : pi_H) (τ : Nat → Nat)
theorem s92a (hmc : mcok H) (hs : strs H) (h126 : ∀ i, τ i ≤ 126) (t : Nat) (a : sT) (ok : okT t a) (ht : t < 2 ^ 30) (ν σ : Nat → Nat) (n p : Nat) (h0 : σ 0 = n) (hn : n ≤ 80) (hp : p ≤ n) (k q : Nat) (hq : psr τ n p = some (k, q)) : ∃ ν' : Nat → Nat, ex 92 [.ref 74, .ref 7] (SC (SH H 7 a) τ ν (upN σ 1 p)) = some (some (.int (nI (rsn (act a k (vs τ n (p + wl k) 0) (vs τ n (p + wl k) 1) (vs τ n (p + wl k) 2)).1))), SC (SH H 7 (act a k (vs τ n (p + wl k) 0) (vs τ n (p + wl k) 1) (vs τ n (p + wl k) 2)).2) τ ν' (upN σ 1 q)) := by
  have hs7 := SH_strs H 7 (by omega) a hs
  have e93 := s93 (SH H 7 a) τ ν σ hs7 h126 n p h0 hn hp
  unfold psr at hq
  cases hk : kd τ n p with
  | none => rw [hk] at hq; cases hq
  | some k' =>
    rw [hk] at hq e93
    dsimp only [rdK, atK] at hq e93
    have hk1 := kdF_s τ n p 7 0 k' hk
    have b := wl_le k' (by omega)
    have hmt := ((mt_iff τ n p k').mp hk1.2.2).1
    have hm : many k' ≤ 3 := by unfold many; (repeat' split) <;> omega
    have e103 := s103 k' (by omega) (SC (SH H 7 a) τ ν (upN σ 1 (p + wl k')))
    obtain ⟨ν', i1, i2⟩ := s104 (SH H 7 a) τ σ h126 n (p + wl k') (many k') h0 hn hmt hm ν
    cases hps : ps τ n (p + wl k') (many k') with
    | none => rw [hps] at hq; cases hq
    | some r =>
      rw [hps] at hq
      dsimp only at hq
      obtain ⟨e104, hν⟩ := i1 r hps
      have hr := ps_n τ n (p + wl k') h126 hmt _ r hps
      have e105 := s105 (SH H 7 a) τ ν' σ h126 n r 59 h0 hn hr (by omega)
      by_cases hb : r < n ∧ τ r = 59
      · rw [if_pos hb] at hq e105
        cases hq
        have e107 := s107 H τ hmc t a ok ht k (by omega) ν' (upN σ 1 (r + 1)) (fun i hi => by rw [hν i hi]; exact vs_lt τ n _ h126 i)
        rw [act_cg a k (by omega) ν' (vs τ n (p + wl k)) hν] at e107
        refine ⟨ν', ?_⟩
        have hA := act_o t a ok k (vs τ n (p + wl k) 0) (vs τ n (p + wl k) 1) (vs τ n (p + wl k) 2)
        generalize act a k (vs τ n (p + wl k) 0) (vs τ n (p + wl k) 1) (vs τ n (p + wl k) 2) = R at hA e107
        obtain ⟨v, c⟩ := R
        dsimp only at hA e107 ⊢
        unfold rsn
        rcases hA with ⟨_, hv⟩ | ⟨⟨m, hm2, hv⟩, _⟩
        · dsimp only at hv
          rcases hv with rfl | rfl | rfl
          · have z1 : (-1000001 : Int32) < 0 := by decide
            simp (disch := first | omega | assumption | exact SC_isO _ _ _ _ | (refine b30 ?_; omega) | (refine nI_inR ?_ ?_ ?_ <;> omega)) only [x92, e92_0, e92_1, e92_4, e92_5, e92_6, e92_9, e92_10, e92_11, e92_14, e92_17, e92_20, e92_21, e92_23, e92_26, e92_29, e92_30, e92_31, e92_32, e92_33, e92_34, e92_37, e92_38, e92_39, e92_42, e92_43, e92_44, e92_45, e92_47, e92_50, e92_51, e92_54, e92_55, kv_s, kh_s, kn_s, kc_v, kc_n, Nat.reduceEqDiff, Nat.one_ne_zero, Nat.reduceLT, Nat.reduceLeDiff, Nat.reduceAdd, Nat.reduceSub, Nat.reduceMul, nI_add, nI_leI, nI_ltI, nI_eq, z_eq, z_lt, z_le, z_gt, z_ge, ↓reduceIte, not_true_eq_false, not_false_eq_true, if_true, if_false, e93, e103, e104, e105, e107, z1]
          · simp (disch := first | omega | assumption | exact SC_isO _ _ _ _ | (refine b30 ?_; omega) | (refine nI_inR ?_ ?_ ?_ <;> omega)) only [x92, e92_0, e92_1, e92_4, e92_5, e92_6, e92_9, e92_10, e92_11, e92_14, e92_17, e92_20, e92_21, e92_23, e92_26, e92_29, e92_30, e92_31, e92_32, e92_33, e92_34, e92_37, e92_38, e92_39, e92_42, e92_43, e92_44, e92_45, e92_47, e92_50, e92_51, e92_54, e92_55, kv_s, kh_s, kn_s, kc_v, kc_n, Nat.reduceEqDiff, Nat.one_ne_zero, Nat.reduceLT, Nat.reduceLeDiff, Nat.reduceAdd, Nat.reduceSub, Nat.reduceMul, nI_add, nI_leI, nI_ltI, nI_eq, z_eq, z_lt, z_le, z_gt, z_ge, ↓reduceIte, not_true_eq_false, not_false_eq_true, if_true, if_false, e93, e103, e104, e105, e107, n_4, n_6]
          · simp (disch := first | omega | assumption | exact SC_isO _ _ _ _ | (refine b30 ?_; omega) | (refine nI_inR ?_ ?_ ?_ <;> omega)) only [x92, e92_0, e92_1, e92_4, e92_5, e92_6, e92_9, e92_10, e92_11, e92_14, e92_17, e92_20, e92_21, e92_23, e92_26, e92_29, e92_30, e92_31, e92_32, e92_33, e92_34, e92_37, e92_38, e92_39, e92_42, e92_43, e92_44, e92_45, e92_47, e92_50, e92_51, e92_54, e92_55, kv_s, kh_s, kn_s, kc_v, kc_n, Nat.reduceEqDiff, Nat.one_ne_zero, Nat.reduceLT, Nat.reduceLeDiff, Nat.reduceAdd, Nat.reduceSub, Nat.reduceMul, nI_add, nI_leI, nI_ltI, nI_eq, z_eq, z_lt, z_le, z_gt, z_ge, ↓reduceIte, not_true_eq_false, not_false_eq_true, if_true, if_false, e93, e103, e104, e105, e107, n_5, n_7]
        · dsimp only at hv
          subst hv
          have z1 := nI_ne1 m hm2
          simp (disch := first | omega | assumption | exact SC_isO _ _ _ _ | (refine b30 ?_; omega) | (refine nI_inR ?_ ?_ ?_ <;> omega)) only [x92, e92_0, e92_1, e92_4, e92_5, e92_6, e92_9, e92_10, e92_11, e92_14, e92_17, e92_20, e92_21, e92_23, e92_26, e92_29, e92_30, e92_31, e92_32, e92_33, e92_34, e92_37, e92_38, e92_39, e92_42, e92_43, e92_44, e92_45, e92_47, e92_50, e92_51, e92_54, e92_55, kv_s, kh_s, kn_s, kc_v, kc_n, Nat.reduceEqDiff, Nat.one_ne_zero, Nat.reduceLT, Nat.reduceLeDiff, Nat.reduceAdd, Nat.reduceSub, Nat.reduceMul, nI_add, nI_leI, nI_ltI, nI_eq, z_eq, z_lt, z_le, z_gt, z_ge, ↓reduceIte, not_true_eq_false, not_false_eq_true, if_true, if_false, e93, e103, e104, e105, e107, z1]
      · rw [if_neg hb] at hq
        cases hq
theorem s92b (hs : strs H) (h126 : ∀ i, τ i ≤ 126) (a : sT) (ν σ : Nat → Nat) (n p : Nat) (h0 : σ 0 = n) (hn : n ≤ 80) (hp : p ≤ n) (hq : psr τ n p = none) : ∃ (ν' : Nat → Nat) (q : Nat), q ≤ n ∧ ex 92 [.ref 74, .ref 7] (SC (SH H 7 a) τ ν (upN σ 1 p)) = some (some (.int (nI 1)), SC (SH H 7 a) τ ν' (upN σ 1 q)) := by
  have hs7 := SH_strs H 7 (by omega) a hs
  have e93 := s93 (SH H 7 a) τ ν σ hs7 h126 n p h0 hn hp
  have hm1 : (-1 : Int32) < 0 := by decide
  unfold psr at hq
  cases hk : kd τ n p with
  | none =>
    rw [hk] at e93
    dsimp only [rdK, atK] at e93
    refine ⟨ν, p, hp, ?_⟩
    simp (disch := first | omega | assumption | exact SC_isO _ _ _ _ | (refine b30 ?_; omega) | (refine nI_inR ?_ ?_ ?_ <;> omega)) only [x92, e92_0, e92_1, e92_4, e92_5, e92_6, e92_9, e92_10, e92_11, e92_14, e92_17, e92_20, e92_21, e92_23, e92_26, e92_29, e92_30, e92_31, e92_32, e92_33, e92_34, e92_37, e92_38, e92_39, e92_42, e92_43, e92_44, e92_45, e92_47, e92_50, e92_51, e92_54, e92_55, kv_s, kh_s, kn_s, kc_v, kc_n, Nat.reduceEqDiff, Nat.one_ne_zero, Nat.reduceLT, Nat.reduceLeDiff, Nat.reduceAdd, Nat.reduceSub, Nat.reduceMul, nI_add, nI_leI, nI_ltI, nI_eq, z_eq, z_lt, z_le, z_gt, z_ge, ↓reduceIte, not_true_eq_false, not_false_eq_true, if_true, if_false, e93, hm1]
  | some k' =>
    rw [hk] at hq e93
    dsimp only [rdK, atK] at hq e93
    have hk1 := kdF_s τ n p 7 0 k' hk
    have b := wl_le k' (by omega)
    have hmt := ((mt_iff τ n p k').mp hk1.2.2).1
    have hm : many k' ≤ 3 := by unfold many; (repeat' split) <;> omega
    have e103 := s103 k' (by omega) (SC (SH H 7 a) τ ν (upN σ 1 (p + wl k')))
    obtain ⟨ν', i1, i2⟩ := s104 (SH H 7 a) τ σ h126 n (p + wl k') (many k') h0 hn hmt hm ν
    cases hps : ps τ n (p + wl k') (many k') with
    | none =>
      obtain ⟨q, q1, e104⟩ := i2 hps
      refine ⟨ν', q, q1, ?_⟩
      simp (disch := first | omega | assumption | exact SC_isO _ _ _ _ | (refine b30 ?_; omega) | (refine nI_inR ?_ ?_ ?_ <;> omega)) only [x92, e92_0, e92_1, e92_4, e92_5, e92_6, e92_9, e92_10, e92_11, e92_14, e92_17, e92_20, e92_21, e92_23, e92_26, e92_29, e92_30, e92_31, e92_32, e92_33, e92_34, e92_37, e92_38, e92_39, e92_42, e92_43, e92_44, e92_45, e92_47, e92_50, e92_51, e92_54, e92_55, kv_s, kh_s, kn_s, kc_v, kc_n, Nat.reduceEqDiff, Nat.one_ne_zero, Nat.reduceLT, Nat.reduceLeDiff, Nat.reduceAdd, Nat.reduceSub, Nat.reduceMul, nI_add, nI_leI, nI_ltI, nI_eq, z_eq, z_lt, z_le, z_gt, z_ge, ↓reduceIte, not_true_eq_false, not_false_eq_true, if_true, if_false, e93, e103, e104]
    | some r =>
      rw [hps] at hq
      dsimp only at hq
      obtain ⟨e104, hν⟩ := i1 r hps
      have hr := ps_n τ n (p + wl k') h126 hmt _ r hps
      have e105 := s105 (SH H 7 a) τ ν' σ h126 n r 59 h0 hn hr (by omega)
      by_cases hb : r < n ∧ τ r = 59
      · rw [if_pos hb] at hq
        cases hq
      · rw [if_neg hb] at e105
        refine ⟨ν', r, hr, ?_⟩
        simp (disch := first | omega | assumption | exact SC_isO _ _ _ _ | (refine b30 ?_; omega) | (refine nI_inR ?_ ?_ ?_ <;> omega)) only [x92, e92_0, e92_1, e92_4, e92_5, e92_6, e92_9, e92_10, e92_11, e92_14, e92_17, e92_20, e92_21, e92_23, e92_26, e92_29, e92_30, e92_31, e92_32, e92_33, e92_34, e92_37, e92_38, e92_39, e92_42, e92_43, e92_44, e92_45, e92_47, e92_50, e92_51, e92_54, e92_55, kv_s, kh_s, kn_s, kc_v, kc_n, Nat.reduceEqDiff, Nat.one_ne_zero, Nat.reduceLT, Nat.reduceLeDiff, Nat.reduceAdd, Nat.reduceSub, Nat.reduceMul, nI_add, nI_leI, nI_ltI, nI_eq, z_eq, z_lt, z_le, z_gt, z_ge, ↓reduceIte, not_true_eq_false, not_false_eq_true, if_true, if_false, e93, e103, e104, e105]
theorem l91e (a : sT) (ν σ : Nat → Nat) (T r : Nat) (hT : T < 1000) (h0 : σ 0 < 1000) (h1 : σ 1 < 1000) (h4 : σ 4 = r) (hr1 : 1 ≤ r) (hr3 : r ≤ 3) : ev 91 17 [some (.ref 74), some (.ref 7), some (.int (nI T))] [] (SC (SH H 7 a) τ ν σ) = some (none, SC (SH H 7 a) τ ν σ) := by
  rw [e91_17]
  by_cases q1 : 80 ≤ T
  · simp (disch := first | omega | assumption | exact SC_isO _ _ _ _ | (refine b30 ?_; omega) | (refine nI_inR ?_ ?_ ?_ <;> omega)) only [x91, e91_0, e91_1, e91_2, e91_5, e91_6, e91_7, e91_10, e91_11, e91_12, e91_15, e91_16, e91_18, e91_20, e91_23, e91_24, e91_27, e91_28, e91_31, e91_34, e91_35, e91_38, e91_41, e91_42, e91_43, e91_46, e91_49, e91_50, e91_51, e91_52, e91_55, e91_58, e91_59, e91_62, e91_65, e91_66, e91_67, e91_70, e91_71, e91_72, e91_75, e91_78, e91_81, kv_s, kh_s, kn_s, kc_v, kc_n, Nat.reduceEqDiff, Nat.one_ne_zero, Nat.reduceLT, Nat.reduceLeDiff, Nat.reduceAdd, Nat.reduceSub, Nat.reduceMul, nI_add, nI_leI, nI_ltI, nI_eq, z_eq, z_lt, z_le, z_gt, z_ge, ↓reduceIte, not_true_eq_false, not_false_eq_true, if_true, if_false, SC_isO, SC_f0, SC_f1, SC_f2, SC_f3, SC_f4, SC_f5, SC_f6, SC_a1, SC_a2, q1]
  · by_cases q2 : σ 0 ≤ σ 1
    · simp (disch := first | omega | assumption | exact SC_isO _ _ _ _ | (refine b30 ?_; omega) | (refine nI_inR ?_ ?_ ?_ <;> omega)) only [x91, e91_0, e91_1, e91_2, e91_5, e91_6, e91_7, e91_10, e91_11, e91_12, e91_15, e91_16, e91_18, e91_20, e91_23, e91_24, e91_27, e91_28, e91_31, e91_34, e91_35, e91_38, e91_41, e91_42, e91_43, e91_46, e91_49, e91_50, e91_51, e91_52, e91_55, e91_58, e91_59, e91_62, e91_65, e91_66, e91_67, e91_70, e91_71, e91_72, e91_75, e91_78, e91_81, kv_s, kh_s, kn_s, kc_v, kc_n, Nat.reduceEqDiff, Nat.one_ne_zero, Nat.reduceLT, Nat.reduceLeDiff, Nat.reduceAdd, Nat.reduceSub, Nat.reduceMul, nI_add, nI_leI, nI_ltI, nI_eq, z_eq, z_lt, z_le, z_gt, z_ge, ↓reduceIte, not_true_eq_false, not_false_eq_true, if_true, if_false, SC_isO, SC_f0, SC_f1, SC_f2, SC_f3, SC_f4, SC_f5, SC_f6, SC_a1, SC_a2, q1, q2]
    · simp (disch := first | omega | assumption | exact SC_isO _ _ _ _ | (refine b30 ?_; omega) | (refine nI_inR ?_ ?_ ?_ <;> omega)) only [x91, e91_0, e91_1, e91_2, e91_5, e91_6, e91_7, e91_10, e91_11, e91_12, e91_15, e91_16, e91_18, e91_20, e91_23, e91_24, e91_27, e91_28, e91_31, e91_34, e91_35, e91_38, e91_41, e91_42, e91_43, e91_46, e91_49, e91_50, e91_51, e91_52, e91_55, e91_58, e91_59, e91_62, e91_65, e91_66, e91_67, e91_70, e91_71, e91_72, e91_75, e91_78, e91_81, kv_s, kh_s, kn_s, kc_v, kc_n, Nat.reduceEqDiff, Nat.one_ne_zero, Nat.reduceLT, Nat.reduceLeDiff, Nat.reduceAdd, Nat.reduceSub, Nat.reduceMul, nI_add, nI_leI, nI_ltI, nI_eq, z_eq, z_lt, z_le, z_gt, z_ge, ↓reduceIte, not_true_eq_false, not_false_eq_true, if_true, if_false, SC_isO, SC_f0, SC_f1, SC_f2, SC_f3, SC_f4, SC_f5, SC_f6, SC_a1, SC_a2, q1, q2, h4, show ¬ r = 0 by omega]
/-- what the script holds behind a run -/
def okRun (o : Option (Nat × Nat)) (m : Nat) (σ : Nat → Nat) : Prop := match o with
  | none => σ 4 = 0 ∧ σ 2 = m
  | some (fp, r) => σ 4 = r ∧ σ 3 = fp
theorem l91 (hmc : mcok H) (hs : strs H) (h126 : ∀ i, τ i ≤ 126) (n : Nat) (hn : n ≤ 80) : ∀ (F T p : Nat) (a : sT) (c t : Nat) (ν σ : Nat → Nat), T + F = 80 → σ 0 = n → σ 1 = p → σ 2 = c → σ 4 = 0 → p ≤ n → c ≤ T → okT t a → t + F < 2 ^ 30 → ∃ ν' σ' : Nat → Nat, ev 91 17 [some (.ref 74), some (.ref 7), some (.int (nI T))] [] (SC (SH H 7 a) τ ν σ) = some (none, SC (SH H 7 (run1 τ n F p a c).2.1) τ ν' σ') ∧ σ' 0 = n ∧ okRun (run1 τ n F p a c).1 (run1 τ n F p a c).2.2 σ' := by
  intro F
  induction F with
  | zero =>
    intro T p a c t ν σ hT h0 h1 h2 h4 hp hc ok ht
    refine ⟨ν, σ, ?_, h0, ⟨h4, h2⟩⟩
    rw [e91_17]
    simp (disch := first | omega | assumption | exact SC_isO _ _ _ _ | (refine b30 ?_; omega) | (refine nI_inR ?_ ?_ ?_ <;> omega)) only [x91, e91_0, e91_1, e91_2, e91_5, e91_6, e91_7, e91_10, e91_11, e91_12, e91_15, e91_16, e91_18, e91_20, e91_23, e91_24, e91_27, e91_28, e91_31, e91_34, e91_35, e91_38, e91_41, e91_42, e91_43, e91_46, e91_49, e91_50, e91_51, e91_52, e91_55, e91_58, e91_59, e91_62, e91_65, e91_66, e91_67, e91_70, e91_71, e91_72, e91_75, e91_78, e91_81, kv_s, kh_s, kn_s, kc_v, kc_n, Nat.reduceEqDiff, Nat.one_ne_zero, Nat.reduceLT, Nat.reduceLeDiff, Nat.reduceAdd, Nat.reduceSub, Nat.reduceMul, nI_add, nI_leI, nI_ltI, nI_eq, z_eq, z_lt, z_le, z_gt, z_ge, ↓reduceIte, not_true_eq_false, not_false_eq_true, if_true, if_false, show 80 ≤ T by omega]
    rfl
  | succ F ih =>
    intro T p a c t ν σ hT h0 h1 h2 h4 hp hc ok ht
    by_cases hpn : p < n
    · have hid : upN (upN σ 3 p) 1 p = upN σ 3 p := by
        have := upN_id (upN σ 3 p) 1
        rw [show upN σ 3 p 1 = p from h1] at this
        exact this
      cases hq : psr τ n p with
      | none =>
        obtain ⟨ν', q, q1, e92⟩ := s92b H τ hs h126 a ν (upN σ 3 p) n p h0 hn hp hq
        rw [hid] at e92
        have er : run1 τ n (F + 1) p a c = (some (p, 1), a, c) := by
          unfold run1
          rw [if_pos hpn, hq]
        rw [er]
        have eE := l91e H τ a ν' (upN (upN (upN σ 3 p) 1 q) 4 1) (T + 1) 1 (by omega) (show σ 0 < 1000 by omega) (show q < 1000 by omega) rfl (by omega) (by omega)
        refine ⟨ν', upN (upN (upN σ 3 p) 1 q) 4 1, ?_, h0, ⟨rfl, rfl⟩⟩
        rw [e91_17]
        simp (disch := first | omega | assumption | exact SC_isO _ _ _ _ | (refine b30 ?_; omega) | (refine nI_inR ?_ ?_ ?_ <;> omega)) only [x91, e91_0, e91_1, e91_2, e91_5, e91_6, e91_7, e91_10, e91_11, e91_12, e91_15, e91_16, e91_18, e91_20, e91_23, e91_24, e91_27, e91_28, e91_31, e91_34, e91_35, e91_38, e91_41, e91_42, e91_43, e91_46, e91_49, e91_50, e91_51, e91_52, e91_55, e91_58, e91_59, e91_62, e91_65, e91_66, e91_67, e91_70, e91_71, e91_72, e91_75, e91_78, e91_81, kv_s, kh_s, kn_s, kc_v, kc_n, Nat.reduceEqDiff, Nat.one_ne_zero, Nat.reduceLT, Nat.reduceLeDiff, Nat.reduceAdd, Nat.reduceSub, Nat.reduceMul, nI_add, nI_leI, nI_ltI, nI_eq, z_eq, z_lt, z_le, z_gt, z_ge, ↓reduceIte, not_true_eq_false, not_false_eq_true, if_true, if_false, SC_isO, SC_f0, SC_f1, SC_f2, SC_f3, SC_f4, SC_f5, SC_f6, SC_a1, SC_a2, SC_w1, SC_w2, SC_p2, SC_p3, SC_p4, SC_p5, SC_p6, h0, h1, h4, e92, upN_app, upN_two, Nat.zero_ne_one, show ¬ 80 ≤ T by omega, show ¬ n ≤ p by omega]
        exact eE
      | some kq =>
        obtain ⟨k, q⟩ := kq
        obtain ⟨l1, l2, l3, l4⟩ := psr_le τ n p h126 k q hq
        obtain ⟨ν', e92⟩ := s92a H τ hmc hs h126 t a ok (by omega) ν (upN σ 3 p) n p h0 hn hp k q hq
        rw [hid] at e92
        have hA := act_o t a ok k (vs τ n (p + wl k) 0) (vs τ n (p + wl k) 1) (vs τ n (p + wl k) 2)
        have er : run1 τ n (F + 1) p a c = (if (act a k (vs τ n (p + wl k) 0) (vs τ n (p + wl k) 1) (vs τ n (p + wl k) 2)).1 = -1000001 then (some (p, 2), a, c)
        else if (act a k (vs τ n (p + wl k) 0) (vs τ n (p + wl k) 1) (vs τ n (p + wl k) 2)).1 < 0 then (some (p, 3), a, c)
        else run1 τ n F q (act a k (vs τ n (p + wl k) 0) (vs τ n (p + wl k) 1) (vs τ n (p + wl k) 2)).2 (c + 1)) := by
          show (if p < n then _ else _) = _
          rw [if_pos hpn, hq]
        generalize act a k (vs τ n (p + wl k) 0) (vs τ n (p + wl k) 1) (vs τ n (p + wl k) 2) = R at hA er e92
        obtain ⟨v, b⟩ := R
        rcases hA with ⟨hb, hv⟩ | ⟨⟨m, hm2, hv⟩, hg⟩
        · dsimp only at hb hv er e92
          subst hb
          have hfail : ∀ r, 1 ≤ r → r ≤ 3 → rsn v = r → run1 τ n (F + 1) p b c = (some (p, r), b, c) → ∃ ν' σ' : Nat → Nat, ev 91 17 [some (.ref 74), some (.ref 7), some (.int (nI T))] [] (SC (SH H 7 b) τ ν σ) = some (none, SC (SH H 7 (run1 τ n (F + 1) p b c).2.1) τ ν' σ') ∧ σ' 0 = n ∧ okRun (run1 τ n (F + 1) p b c).1 (run1 τ n (F + 1) p b c).2.2 σ' := by
            intro r hr1 hr3 hr her
            rw [hr] at e92
            rw [her]
            have eE := l91e H τ b ν' (upN (upN (upN σ 3 p) 1 q) 4 r) (T + 1) r (by omega) (show σ 0 < 1000 by omega) (show q < 1000 by omega) rfl hr1 hr3
            refine ⟨ν', upN (upN (upN σ 3 p) 1 q) 4 r, ?_, h0, ⟨rfl, rfl⟩⟩
            rw [e91_17]
            simp (disch := first | omega | assumption | exact SC_isO _ _ _ _ | (refine b30 ?_; omega) | (refine nI_inR ?_ ?_ ?_ <;> omega)) only [x91, e91_0, e91_1, e91_2, e91_5, e91_6, e91_7, e91_10, e91_11, e91_12, e91_15, e91_16, e91_18, e91_20, e91_23, e91_24, e91_27, e91_28, e91_31, e91_34, e91_35, e91_38, e91_41, e91_42, e91_43, e91_46, e91_49, e91_50, e91_51, e91_52, e91_55, e91_58, e91_59, e91_62, e91_65, e91_66, e91_67, e91_70, e91_71, e91_72, e91_75, e91_78, e91_81, kv_s, kh_s, kn_s, kc_v, kc_n, Nat.reduceEqDiff, Nat.one_ne_zero, Nat.reduceLT, Nat.reduceLeDiff, Nat.reduceAdd, Nat.reduceSub, Nat.reduceMul, nI_add, nI_leI, nI_ltI, nI_eq, z_eq, z_lt, z_le, z_gt, z_ge, ↓reduceIte, not_true_eq_false, not_false_eq_true, if_true, if_false, SC_isO, SC_f0, SC_f1, SC_f2, SC_f3, SC_f4, SC_f5, SC_f6, SC_a1, SC_a2, SC_w1, SC_w2, SC_p2, SC_p3, SC_p4, SC_p5, SC_p6, h0, h1, h4, e92, upN_app, upN_two, Nat.zero_ne_one, show ¬ 80 ≤ T by omega, show ¬ n ≤ p by omega, show ¬ r = 0 by omega]
            exact eE
          rcases hv with rfl | rfl | rfl
          · exact hfail 2 (by omega) (by omega) rfl (er.trans (if_pos rfl))
          · exact hfail 3 (by omega) (by omega) rfl (er.trans ((if_neg n_6).trans (if_pos n_4)))
          · exact hfail 3 (by omega) (by omega) rfl (er.trans ((if_neg n_7).trans (if_pos n_5)))
        · dsimp only at hv hg er e92
          subst hv
          have z1 := nI_ne1 m hm2
          have z2 := nI_pos hm2
          have hr0 : rsn (nI m) = 0 := by unfold rsn; rw [if_neg z1, if_neg z2]
          rw [hr0] at e92
          rw [if_neg z1, if_neg z2] at er
          obtain ⟨ν2, σ2, e2, j1, j2⟩ := ih (T + 1) q b (c + 1) (t + 1) ν' (upN (upN (upN (upN σ 3 p) 1 q) 4 0) 2 (c + 1)) (by omega) h0 rfl rfl rfl l4 (by omega) hg (by omega)
          rw [er]
          refine ⟨ν2, σ2, ?_, j1, j2⟩
          rw [e91_17]
          simp (disch := first | omega | assumption | exact SC_isO _ _ _ _ | (refine b30 ?_; omega) | (refine nI_inR ?_ ?_ ?_ <;> omega)) only [x91, e91_0, e91_1, e91_2, e91_5, e91_6, e91_7, e91_10, e91_11, e91_12, e91_15, e91_16, e91_18, e91_20, e91_23, e91_24, e91_27, e91_28, e91_31, e91_34, e91_35, e91_38, e91_41, e91_42, e91_43, e91_46, e91_49, e91_50, e91_51, e91_52, e91_55, e91_58, e91_59, e91_62, e91_65, e91_66, e91_67, e91_70, e91_71, e91_72, e91_75, e91_78, e91_81, kv_s, kh_s, kn_s, kc_v, kc_n, Nat.reduceEqDiff, Nat.one_ne_zero, Nat.reduceLT, Nat.reduceLeDiff, Nat.reduceAdd, Nat.reduceSub, Nat.reduceMul, nI_add, nI_leI, nI_ltI, nI_eq, z_eq, z_lt, z_le, z_gt, z_ge, ↓reduceIte, not_true_eq_false, not_false_eq_true, if_true, if_false, SC_isO, SC_f0, SC_f1, SC_f2, SC_f3, SC_f4, SC_f5, SC_f6, SC_a1, SC_a2, SC_w1, SC_w2, SC_p2, SC_p3, SC_p4, SC_p5, SC_p6, h0, h1, h2, h4, e92, upN_app, upN_two, Nat.zero_ne_one, show ¬ 80 ≤ T by omega, show ¬ n ≤ p by omega]
          exact e2
    · have er : run1 τ n (F + 1) p a c = (none, a, c) := by
        show (if p < n then _ else _) = _
        rw [if_neg hpn]
      rw [er]
      refine ⟨ν, σ, ?_, h0, ⟨h4, h2⟩⟩
      rw [e91_17]
      simp (disch := first | omega | assumption | exact SC_isO _ _ _ _ | (refine b30 ?_; omega) | (refine nI_inR ?_ ?_ ?_ <;> omega)) only [x91, e91_0, e91_1, e91_2, e91_5, e91_6, e91_7, e91_10, e91_11, e91_12, e91_15, e91_16, e91_18, e91_20, e91_23, e91_24, e91_27, e91_28, e91_31, e91_34, e91_35, e91_38, e91_41, e91_42, e91_43, e91_46, e91_49, e91_50, e91_51, e91_52, e91_55, e91_58, e91_59, e91_62, e91_65, e91_66, e91_67, e91_70, e91_71, e91_72, e91_75, e91_78, e91_81, kv_s, kh_s, kn_s, kc_v, kc_n, Nat.reduceEqDiff, Nat.one_ne_zero, Nat.reduceLT, Nat.reduceLeDiff, Nat.reduceAdd, Nat.reduceSub, Nat.reduceMul, nI_add, nI_leI, nI_ltI, nI_eq, z_eq, z_lt, z_le, z_gt, z_ge, ↓reduceIte, not_true_eq_false, not_false_eq_true, if_true, if_false, SC_isO, SC_f0, SC_f1, SC_f2, SC_f3, SC_f4, SC_f5, SC_f6, SC_a1, SC_a2, h0, h1, show ¬ 80 ≤ T by omega, show n ≤ p by omega]
theorem s91 (hmc : mcok H) (hs : strs H) (h126 : ∀ i, τ i ≤ 126) (n : Nat) (hn : n ≤ 80) (a : sT) (t : Nat) (ok : okT t a) (ht : t + 80 < 2 ^ 30) (ν σ : Nat → Nat) (h0 : σ 0 = n) : ∃ ν' σ' : Nat → Nat, ex 91 [.ref 74, .ref 7] (SC (SH H 7 a) τ ν σ) = some (none, SC (SH H 7 (run1 τ n 80 0 a 0).2.1) τ ν' σ') ∧ σ' 0 = n ∧ okRun (run1 τ n 80 0 a 0).1 (run1 τ n 80 0 a 0).2.2 σ' := by
  obtain ⟨ν', σ', e, h1, h2⟩ := l91 H τ hmc hs h126 n hn 80 0 0 a 0 t ν (upN (upN (upN σ 1 0) 2 0) 4 0) (by omega) h0 rfl rfl rfl (by omega) (by omega) ok ht
  refine ⟨ν', σ', ?_, h1, h2⟩
  simp (disch := first | omega | assumption | exact SC_isO _ _ _ _ | (refine b30 ?_; omega) | (refine nI_inR ?_ ?_ ?_ <;> omega)) only [x91, e91_0, e91_1, e91_2, e91_5, e91_6, e91_7, e91_10, e91_11, e91_12, e91_15, e91_16, e91_18, e91_20, e91_23, e91_24, e91_27, e91_28, e91_31, e91_34, e91_35, e91_38, e91_41, e91_42, e91_43, e91_46, e91_49, e91_50, e91_51, e91_52, e91_55, e91_58, e91_59, e91_62, e91_65, e91_66, e91_67, e91_70, e91_71, e91_72, e91_75, e91_78, e91_81, kv_s, kh_s, kn_s, kc_v, kc_n, Nat.reduceEqDiff, Nat.one_ne_zero, Nat.reduceLT, Nat.reduceLeDiff, Nat.reduceAdd, Nat.reduceSub, Nat.reduceMul, nI_add, nI_leI, nI_ltI, nI_eq, z_eq, z_lt, z_le, z_gt, z_ge, ↓reduceIte, not_true_eq_false, not_false_eq_true, if_true, if_false, SC_w1, SC_w2, SC_p2, SC_p3, SC_p4, SC_p5, SC_p6]
  exact e
theorem s87o (x : Int32) (h : ¬ inR x (nI 32) (nI 126)) : ex 87 [.ref 74, .int x] H = some (some (.int (-1000001)), H) := by
  simp (disch := first | omega | assumption | exact SC_isO _ _ _ _ | (refine b30 ?_; omega) | (refine nI_inR ?_ ?_ ?_ <;> omega)) only [x87, e87_0, e87_1, e87_3, e87_5, e87_8, e87_11, e87_13, e87_14, e87_15, e87_18, e87_20, e87_23, e87_25, e87_26, e87_27, e87_30, e87_31, e87_34, e87_35, e87_36, e87_37, e87_38, e87_39, e87_42, e87_43, e87_44, e87_47, e87_48, e87_51, kv_s, kh_s, kn_s, kc_v, kc_n, Nat.reduceEqDiff, Nat.one_ne_zero, Nat.reduceLT, Nat.reduceLeDiff, Nat.reduceAdd, Nat.reduceSub, Nat.reduceMul, nI_add, nI_leI, nI_ltI, nI_eq, z_eq, z_lt, z_le, z_gt, z_ge, ↓reduceIte, not_true_eq_false, not_false_eq_true, if_true, if_false, s8o]
theorem s87l (ν σ : Nat → Nat) (x : Nat) (h1 : 32 ≤ x) (h2 : x ≤ 126) (h0 : σ 0 = 80) : ex 87 [.ref 74, .int (nI x)] (SC H τ ν σ) = some (some (.int (-1000003)), SC H τ ν σ) := by
  simp (disch := first | omega | assumption | exact SC_isO _ _ _ _ | (refine b30 ?_; omega) | (refine nI_inR ?_ ?_ ?_ <;> omega)) only [x87, e87_0, e87_1, e87_3, e87_5, e87_8, e87_11, e87_13, e87_14, e87_15, e87_18, e87_20, e87_23, e87_25, e87_26, e87_27, e87_30, e87_31, e87_34, e87_35, e87_36, e87_37, e87_38, e87_39, e87_42, e87_43, e87_44, e87_47, e87_48, e87_51, kv_s, kh_s, kn_s, kc_v, kc_n, Nat.reduceEqDiff, Nat.one_ne_zero, Nat.reduceLT, Nat.reduceLeDiff, Nat.reduceAdd, Nat.reduceSub, Nat.reduceMul, nI_add, nI_leI, nI_ltI, nI_eq, z_eq, z_lt, z_le, z_gt, z_ge, ↓reduceIte, not_true_eq_false, not_false_eq_true, if_true, if_false, SC_isO, SC_f0, SC_f1, SC_f2, SC_f3, SC_f4, SC_f5, SC_f6, SC_a1, SC_a2, s8i, h0]
theorem s87 (ν σ : Nat → Nat) (x n : Nat) (h1 : 32 ≤ x) (h2 : x ≤ 126) (h0 : σ 0 = n) (hn : n < 80) : ex 87 [.ref 74, .int (nI x)] (SC H τ ν σ) = some (some (.int (nI (n + 1))), SC H (upN τ n x) ν (upN σ 0 (n + 1))) := by
  have hch : ((nI x).toUInt32 % 65536).toInt32 = nI x := by
    rw [pk_char, pk_tn (by omega), Nat.mod_eq_of_lt (by omega)]
  simp (disch := first | omega | assumption | exact SC_isO _ _ _ _ | (refine b30 ?_; omega) | (refine nI_inR ?_ ?_ ?_ <;> omega)) only [x87, e87_0, e87_1, e87_3, e87_5, e87_8, e87_11, e87_13, e87_14, e87_15, e87_18, e87_20, e87_23, e87_25, e87_26, e87_27, e87_30, e87_31, e87_34, e87_35, e87_36, e87_37, e87_38, e87_39, e87_42, e87_43, e87_44, e87_47, e87_48, e87_51, kv_s, kh_s, kn_s, kc_v, kc_n, Nat.reduceEqDiff, Nat.one_ne_zero, Nat.reduceLT, Nat.reduceLeDiff, Nat.reduceAdd, Nat.reduceSub, Nat.reduceMul, nI_add, nI_leI, nI_ltI, nI_eq, z_eq, z_lt, z_le, z_gt, z_ge, ↓reduceIte, not_true_eq_false, not_false_eq_true, if_true, if_false, SC_isO, SC_f0, SC_f1, SC_f2, SC_f3, SC_f4, SC_f5, SC_f6, SC_a1, SC_a2, SC_w1, SC_w2, SC_p2, SC_p3, SC_p4, SC_p5, SC_p6, upN_app, upN_two, Nat.zero_ne_one, s8i, h0, hch, hn, show ¬ 80 ≤ n by omega]
theorem s89 (ν σ : Nat → Nat) : ex 89 [.ref 74] (SC H τ ν σ) = some (some (.int (nI (σ 0))), SC H τ ν (upN σ 0 0)) := by
  simp (disch := first | omega | assumption | exact SC_isO _ _ _ _ | (refine b30 ?_; omega) | (refine nI_inR ?_ ?_ ?_ <;> omega)) only [x89, e89_0, e89_1, e89_4, e89_5, e89_6, e89_7, e89_10, e89_11, kv_s, kh_s, kn_s, kc_v, kc_n, Nat.reduceEqDiff, Nat.one_ne_zero, Nat.reduceLT, Nat.reduceLeDiff, Nat.reduceAdd, Nat.reduceSub, Nat.reduceMul, nI_add, nI_leI, nI_ltI, nI_eq, z_eq, z_lt, z_le, z_gt, z_ge, ↓reduceIte, not_true_eq_false, not_false_eq_true, if_true, if_false, SC_isO, SC_f0, SC_f1, SC_f2, SC_f3, SC_f4, SC_f5, SC_f6, SC_a1, SC_a2, SC_w1, SC_w2, SC_p2, SC_p3, SC_p4, SC_p5, SC_p6]
theorem s39 (ν σ : Nat → Nat) : ex 39 [.ref 74] (SC H τ ν σ) = some (some (.int (nI (σ 0))), SC H τ ν σ) := by
  simp (disch := first | omega | assumption | exact SC_isO _ _ _ _ | (refine b30 ?_; omega) | (refine nI_inR ?_ ?_ ?_ <;> omega)) only [x39, e39_0, e39_1, e39_4, kv_s, kh_s, kn_s, kc_v, kc_n, Nat.reduceEqDiff, Nat.one_ne_zero, Nat.reduceLT, Nat.reduceLeDiff, Nat.reduceAdd, Nat.reduceSub, Nat.reduceMul, nI_add, nI_leI, nI_ltI, nI_eq, z_eq, z_lt, z_le, z_gt, z_ge, ↓reduceIte, not_true_eq_false, not_false_eq_true, if_true, if_false, SC_isO, SC_f0, SC_f1, SC_f2, SC_f3, SC_f4, SC_f5, SC_f6, SC_a1, SC_a2]
theorem s109 (ν σ : Nat → Nat) : ex 109 [.ref 74] (SC H τ ν σ) = some (some (.int (nI (σ 3))), SC H τ ν σ) := by
  simp (disch := first | omega | assumption | exact SC_isO _ _ _ _ | (refine b30 ?_; omega) | (refine nI_inR ?_ ?_ ?_ <;> omega)) only [x109, e109_0, e109_1, e109_4, kv_s, kh_s, kn_s, kc_v, kc_n, Nat.reduceEqDiff, Nat.one_ne_zero, Nat.reduceLT, Nat.reduceLeDiff, Nat.reduceAdd, Nat.reduceSub, Nat.reduceMul, nI_add, nI_leI, nI_ltI, nI_eq, z_eq, z_lt, z_le, z_gt, z_ge, ↓reduceIte, not_true_eq_false, not_false_eq_true, if_true, if_false, SC_isO, SC_f0, SC_f1, SC_f2, SC_f3, SC_f4, SC_f5, SC_f6, SC_a1, SC_a2]
theorem s110 (ν σ : Nat → Nat) : ex 110 [.ref 74] (SC H τ ν σ) = some (some (.int (nI (σ 4))), SC H τ ν σ) := by
  simp (disch := first | omega | assumption | exact SC_isO _ _ _ _ | (refine b30 ?_; omega) | (refine nI_inR ?_ ?_ ?_ <;> omega)) only [x110, e110_0, e110_1, e110_4, kv_s, kh_s, kn_s, kc_v, kc_n, Nat.reduceEqDiff, Nat.one_ne_zero, Nat.reduceLT, Nat.reduceLeDiff, Nat.reduceAdd, Nat.reduceSub, Nat.reduceMul, nI_add, nI_leI, nI_ltI, nI_eq, z_eq, z_lt, z_le, z_gt, z_ge, ↓reduceIte, not_true_eq_false, not_false_eq_true, if_true, if_false, SC_isO, SC_f0, SC_f1, SC_f2, SC_f3, SC_f4, SC_f5, SC_f6, SC_a1, SC_a2]
theorem s112 (ν σ : Nat → Nat) : ex 112 [.ref 74] (SC H τ ν σ) = some (some (.int (nI (σ 2))), SC H τ ν σ) := by
  simp (disch := first | omega | assumption | exact SC_isO _ _ _ _ | (refine b30 ?_; omega) | (refine nI_inR ?_ ?_ ?_ <;> omega)) only [x112, e112_0, e112_1, e112_4, kv_s, kh_s, kn_s, kc_v, kc_n, Nat.reduceEqDiff, Nat.one_ne_zero, Nat.reduceLT, Nat.reduceLeDiff, Nat.reduceAdd, Nat.reduceSub, Nat.reduceMul, nI_add, nI_leI, nI_ltI, nI_eq, z_eq, z_lt, z_le, z_gt, z_ge, ↓reduceIte, not_true_eq_false, not_false_eq_true, if_true, if_false, SC_isO, SC_f0, SC_f1, SC_f2, SC_f3, SC_f4, SC_f5, SC_f6, SC_a1, SC_a2]
theorem rt108_0 : pi_rt pm_Sc_hasFault (nI 0) = true := by decide +kernel
theorem rt108_1 : pi_rt pm_Sc_hasFault (nI 1) = true := by decide +kernel
theorem s108 (ν σ : Nat → Nat) (h : σ 4 < 1000) : ex 108 [.ref 74] (SC H τ ν σ) = some (some (.int (nI (if σ 4 = 0 then 0 else 1))), SC H τ ν σ) := by
  have r0 := rt108_0
  have r1 := rt108_1
  by_cases q : σ 4 = 0
  · simp (disch := first | omega | assumption | exact SC_isO _ _ _ _ | (refine b30 ?_; omega) | (refine nI_inR ?_ ?_ ?_ <;> omega)) only [x108, e108_0, e108_1, e108_4, e108_7, e108_8, e108_11, e108_12, kv_s, kh_s, kn_s, kc_v, kc_n, Nat.reduceEqDiff, Nat.one_ne_zero, Nat.reduceLT, Nat.reduceLeDiff, Nat.reduceAdd, Nat.reduceSub, Nat.reduceMul, nI_add, nI_leI, nI_ltI, nI_eq, z_eq, z_lt, z_le, z_gt, z_ge, ↓reduceIte, not_true_eq_false, not_false_eq_true, if_true, if_false, SC_isO, SC_f0, SC_f1, SC_f2, SC_f3, SC_f4, SC_f5, SC_f6, SC_a1, SC_a2, q]
  · simp (disch := first | omega | assumption | exact SC_isO _ _ _ _ | (refine b30 ?_; omega) | (refine nI_inR ?_ ?_ ?_ <;> omega)) only [x108, e108_0, e108_1, e108_4, e108_7, e108_8, e108_11, e108_12, kv_s, kh_s, kn_s, kc_v, kc_n, Nat.reduceEqDiff, Nat.one_ne_zero, Nat.reduceLT, Nat.reduceLeDiff, Nat.reduceAdd, Nat.reduceSub, Nat.reduceMul, nI_add, nI_leI, nI_ltI, nI_eq, z_eq, z_lt, z_le, z_gt, z_ge, ↓reduceIte, not_true_eq_false, not_false_eq_true, if_true, if_false, SC_isO, SC_f0, SC_f1, SC_f2, SC_f3, SC_f4, SC_f5, SC_f6, SC_a1, SC_a2, q]
end
