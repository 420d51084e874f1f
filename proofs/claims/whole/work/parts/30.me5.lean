-- PART 30: the means' methods, fifth: the best pair
abbrev pS : Type := Nat × Nat × Int64
def kp (lo hi : Nat) (c : Int64) (st : pS) : pS := if c < st.2.2 then (lo, hi, c) else st
def cst (a : sT) (s p lo hi : Nat) : Int64 := plT a (fun _ => lo) (fun _ => hi) p s
def prH (a : sT) (s p lo : Nat) (st : pS) : Nat → pS
  | 0 => st
  | j + 1 => kp lo (lo + j) (cst a s p lo (lo + j)) (prH a s p lo st j)
def prL (a : sT) (s p : Nat) : Nat → pS
  | 0 => (0, 0, cst a s p 0 0)
  | l + 1 => prH a s p l (prL a s p l) (21 - l)
def bestP (a : sT) (s p : Nat) : pS := prL a s p 21
theorem prH_le (a : sT) (s p lo : Nat) (st : pS) : ∀ j, st.1 ≤ 20 ∧ st.2.1 ≤ 20 → lo + j ≤ 21 → (prH a s p lo st j).1 ≤ 20 ∧ (prH a s p lo st j).2.1 ≤ 20
  | 0, h, _ => h
  | j + 1, h, hj => by
    have ih := prH_le a s p lo st j h (by omega)
    unfold prH kp
    split
    · dsimp only; omega
    · exact ih
theorem prL_le (a : sT) (s p : Nat) : ∀ l, l ≤ 21 → (prL a s p l).1 ≤ 20 ∧ (prL a s p l).2.1 ≤ 20
  | 0, _ => ⟨Nat.zero_le _, Nat.zero_le _⟩
  | l + 1, h => prH_le a s p l _ _ (prL_le a s p l (by omega)) (by omega)
/-- what was found stands in the means' fields; at first nothing -/
def okF (st : pS) (first : Bool) (fl fh : Int32) (fc : Int64) : Prop := (first = true ∧ fl = -1) ∨ (first = false ∧ fl = nI st.1 ∧ fh = nI st.2.1 ∧ fc = st.2.2)
section
variable (H : pi_H) (a : sT) (β : bT)
theorem s80 (fl fh : Int32) (fc : Int64) (μ : lT) (lo hi : Int32) (c : Int64) : ex 80 [.ref 39, .int lo, .int hi, .long c] (SH (ME H μ β fl fh fc) 1 a) = some (none, if fl < 0 ∨ c < fc then SH (ME H μ β lo hi c) 1 a else SH (ME H μ β fl fh fc) 1 a) := by
  by_cases h1 : fl < 0
  · simp (disch := first | omega | assumption | (refine b30 ?_; omega) | exact SH_isO _ _ _ | exact ME_isO _ _ _ _ _ _ | (rw [SH_gn _ _ _ _ (by omega)]; exact ME_isO _ _ _ _ _ _) | (refine nI_inR ?_ ?_ ?_ <;> omega)) only [x80, e80_0, e80_1, e80_4, e80_7, e80_8, e80_9, e80_12, e80_13, e80_16, e80_17, e80_18, e80_21, e80_22, e80_23, e80_26, e80_27, e80_28, e80_31, kv_s, kh_s, kn_s, kc_v, kc_n, ME_isO, ME_f0, ME_f1, ME_f2, ME_f3, ME_f4, ME_f5, ME_f6, ME_f7, ME_f8, ME_a0, ME_a1, ME_a2, ME_a3, ME_a4, ME_a5, ME_r2, ME_r3, ME_r4, ME_r5, ME_w0, ME_w1, ME_w2, ME_w3, ME_w4, ME_w5, ME_p6, ME_p7, ME_p8, SH_gn, SH_asn, SH_asi, SH_pfn, Option.map_some, h1, true_or, if_true]
  · by_cases h2 : c < fc
    · simp (disch := first | omega | assumption | (refine b30 ?_; omega) | exact SH_isO _ _ _ | exact ME_isO _ _ _ _ _ _ | (rw [SH_gn _ _ _ _ (by omega)]; exact ME_isO _ _ _ _ _ _) | (refine nI_inR ?_ ?_ ?_ <;> omega)) only [x80, e80_0, e80_1, e80_4, e80_7, e80_8, e80_9, e80_12, e80_13, e80_16, e80_17, e80_18, e80_21, e80_22, e80_23, e80_26, e80_27, e80_28, e80_31, kv_s, kh_s, kn_s, kc_v, kc_n, ME_isO, ME_f0, ME_f1, ME_f2, ME_f3, ME_f4, ME_f5, ME_f6, ME_f7, ME_f8, ME_a0, ME_a1, ME_a2, ME_a3, ME_a4, ME_a5, ME_r2, ME_r3, ME_r4, ME_r5, ME_w0, ME_w1, ME_w2, ME_w3, ME_w4, ME_w5, ME_p6, ME_p7, ME_p8, SH_gn, SH_asn, SH_asi, SH_pfn, Option.map_some, h1, h2, or_true, if_true, if_false, cmp_ge, not_true_eq_false]
    · simp (disch := first | omega | assumption | (refine b30 ?_; omega) | exact SH_isO _ _ _ | exact ME_isO _ _ _ _ _ _ | (rw [SH_gn _ _ _ _ (by omega)]; exact ME_isO _ _ _ _ _ _) | (refine nI_inR ?_ ?_ ?_ <;> omega)) only [x80, e80_0, e80_1, e80_4, e80_7, e80_8, e80_9, e80_12, e80_13, e80_16, e80_17, e80_18, e80_21, e80_22, e80_23, e80_26, e80_27, e80_28, e80_31, kv_s, kh_s, kn_s, kc_v, kc_n, ME_isO, ME_f0, ME_f1, ME_f2, ME_f3, ME_f4, ME_f5, ME_f6, ME_f7, ME_f8, ME_a0, ME_a1, ME_a2, ME_a3, ME_a4, ME_a5, ME_r2, ME_r3, ME_r4, ME_r5, ME_w0, ME_w1, ME_w2, ME_w3, ME_w4, ME_w5, ME_p6, ME_p7, ME_p8, SH_gn, SH_asn, SH_asi, SH_pfn, Option.map_some, h1, h2, or_self, if_true, if_false, cmp_ge, not_false_eq_true]
/-- a pair: its rows, and what is kept -/
theorem l79 (ok : okA a) (s p : Nat) (hs : s < 21) (hp : p < 7) (hp1 : 1 ≤ p) (lo hi : Nat) (hlo : lo ≤ hi) (hhi : hi < 21) (fl fh : Int32) (fc : Int64) (μ : lT) (h0 : ∀ n, n < 7 → μ 0 0 n = pw a n) (h1 : ∀ y, y < 21 → μ 1 0 y = ppS a y 7) (h2 : ∀ k, k < 21 → μ 4 0 k = lN (a 1 4 * k)) (v6 v7 : Option Value) : ∃ (μ' : lT) (v6' v7' : Option Value), ev 79 34 [some (.ref 39), some (.ref 1), some (.int (nI s)), some (.int (nI p)), some (.int (nI lo)), some (.int (nI hi)), v6, v7] [] (SH (ME H μ β fl fh fc) 1 a) = ev 79 34 [some (.ref 39), some (.ref 1), some (.int (nI s)), some (.int (nI p)), some (.int (nI lo)), some (.int (nI (hi + 1))), v6', v7'] [] (if fl < 0 ∨ cst a s p lo hi < fc then SH (ME H μ' β (nI lo) (nI hi) (cst a s p lo hi)) 1 a else SH (ME H μ' β fl fh fc) 1 a) ∧ (∀ n, n < 7 → μ' 0 0 n = pw a n) ∧ (∀ y, y < 21 → μ' 1 0 y = ppS a y 7) ∧ (∀ k, k < 21 → μ' 4 0 k = lN (a 1 4 * k)) := by
  have hmax : max s hi < 21 := by omega
  have l1 : ∀ q, q + 1 ≤ p → ∃ μ' : lT, ev 79 34 [some (.ref 39), some (.ref 1), some (.int (nI s)), some (.int (nI p)), some (.int (nI lo)), some (.int (nI hi)), v6, v7] [] (SH (ME H μ β fl fh fc) 1 a) = ev 79 52 [some (.ref 39), some (.ref 1), some (.int (nI s)), some (.int (nI p)), some (.int (nI lo)), some (.int (nI hi)), some (.int (nI (max s hi))), some (.int (nI (q + 1)))] [] (SH (ME H μ' β fl fh fc) 1 a) ∧ (∀ n, n ≤ q → ∀ k, k ≤ max s hi → μ' 4 n k = plT a (fun _ => lo) (fun _ => hi) n k) ∧ (∀ n, n < 7 → μ' 0 0 n = pw a n) ∧ (∀ y, y < 21 → μ' 1 0 y = ppS a y 7) ∧ (∀ k, k < 21 → μ' 4 0 k = lN (a 1 4 * k)) := by
    intro q
    induction q with
    | zero =>
      intro _
      refine ⟨μ, ?_, ?_, h0, h1, h2⟩
      · rw [e79_34]
        simp (disch := first | omega | assumption | (refine b30 ?_; omega) | exact SH_isO _ _ _ | exact ME_isO _ _ _ _ _ _ | (rw [SH_gn _ _ _ _ (by omega)]; exact ME_isO _ _ _ _ _ _) | (refine nI_inR ?_ ?_ ?_ <;> omega)) only [x79, e79_0, e79_1, e79_2, e79_5, e79_6, e79_7, e79_10, e79_11, e79_12, e79_15, e79_16, e79_17, e79_20, e79_21, e79_23, e79_25, e79_27, e79_30, e79_32, e79_36, e79_38, e79_41, e79_42, e79_44, e79_47, e79_49, e79_50, e79_54, e79_55, e79_58, e79_59, e79_60, e79_62, e79_64, e79_66, e79_67, e79_69, e79_72, e79_75, e79_78, e79_79, e79_80, e79_81, e79_83, e79_85, e79_86, e79_87, e79_90, e79_91, e79_93, e79_95, e79_96, e79_99, e79_100, e79_101, e79_102, e79_103, e79_106, e79_109, e79_112, e79_115, e79_118, kv_s, kh_s, kn_s, kc_v, kc_n, Nat.reduceEqDiff, Nat.one_ne_zero, Nat.reduceLT, Nat.reduceLeDiff, Nat.reduceAdd, Nat.reduceSub, Nat.reduceMul, nI_add, nI_leI, nI_ltI, nI_eq, z_eq, z_lt, z_le, z_gt, z_ge, ↓reduceIte, not_true_eq_false, not_false_eq_true, if_true, if_false, s33, show ¬ 20 < hi by omega, Nat.zero_add]
      · intro n hn k hk
        rw [show n = 0 by omega, h2 k (by omega)]
        rfl
    | succ q ih =>
      intro hq
      obtain ⟨μ', e, k3, k0, k1, k2⟩ := ih (by omega)
      obtain ⟨μ1, e1, j1, j2⟩ := s61 H a β fl fh fc ok μ' q lo hi 0 (max s hi) (by omega) hlo hhi (by omega) hmax k0 k1
      refine ⟨μ1, ?_, ?_, fun n hn => by rw [j2 _ _ (by omega), k0 n hn], fun y hy => by rw [j2 _ _ (by omega), k1 y hy], fun k hk => by rw [j2 _ _ (by omega), k2 k hk]⟩
      · rw [e, e79_52]
        simp (disch := first | omega | assumption | (refine b30 ?_; omega) | exact SH_isO _ _ _ | exact ME_isO _ _ _ _ _ _ | (rw [SH_gn _ _ _ _ (by omega)]; exact ME_isO _ _ _ _ _ _) | (refine nI_inR ?_ ?_ ?_ <;> omega)) only [x79, e79_0, e79_1, e79_2, e79_5, e79_6, e79_7, e79_10, e79_11, e79_12, e79_15, e79_16, e79_17, e79_20, e79_21, e79_23, e79_25, e79_27, e79_30, e79_32, e79_36, e79_38, e79_41, e79_42, e79_44, e79_47, e79_49, e79_50, e79_54, e79_55, e79_58, e79_59, e79_60, e79_62, e79_64, e79_66, e79_67, e79_69, e79_72, e79_75, e79_78, e79_79, e79_80, e79_81, e79_83, e79_85, e79_86, e79_87, e79_90, e79_91, e79_93, e79_95, e79_96, e79_99, e79_100, e79_101, e79_102, e79_103, e79_106, e79_109, e79_112, e79_115, e79_118, kv_s, kh_s, kn_s, kc_v, kc_n, Nat.reduceEqDiff, Nat.one_ne_zero, Nat.reduceLT, Nat.reduceLeDiff, Nat.reduceAdd, Nat.reduceSub, Nat.reduceMul, nI_add, nI_leI, nI_ltI, nI_eq, z_eq, z_lt, z_le, z_gt, z_ge, ↓reduceIte, not_true_eq_false, not_false_eq_true, if_true, if_false, e1, show ¬ p ≤ q + 1 by omega]
      · intro n hn k hk
        by_cases h : n = q + 1
        · subst h
          rw [j1 k (by omega) hk, pl_congr a q (μ' 4 q) (plT a (fun _ => lo) (fun _ => hi) q) _ _ k (max s hi) hk (by omega) (fun y hy => k3 q (by omega) y hy)]
          rfl
        · rw [j2 _ _ (by omega), k3 n (by omega) k hk]
  obtain ⟨q, rfl⟩ : ∃ q, p = q + 1 := ⟨p - 1, by omega⟩
  obtain ⟨μ', e, k3, k0, k1, k2⟩ := l1 q (by omega)
  obtain ⟨μ1, e1, j1, j2⟩ := s61 H a β fl fh fc ok μ' q lo hi s s (by omega) hlo hhi (by omega) hs k0 k1
  have hc : μ1 4 (q + 1) s = cst a s (q + 1) lo hi := by
    rw [j1 s (by omega) (by omega), pl_congr a q (μ' 4 q) (plT a (fun _ => lo) (fun _ => hi) q) _ _ s (max s hi) (by omega) (by omega) (fun y hy => k3 q (by omega) y hy)]
    rfl
  refine ⟨μ1, some (.int (nI (max s hi))), some (.int (nI (q + 1))), ?_, fun n hn => by rw [j2 _ _ (by omega), k0 n hn], fun y hy => by rw [j2 _ _ (by omega), k1 y hy], fun k hk => by rw [j2 _ _ (by omega), k2 k hk]⟩
  rw [e, e79_52]
  simp (disch := first | omega | assumption | (refine b30 ?_; omega) | exact SH_isO _ _ _ | exact ME_isO _ _ _ _ _ _ | (rw [SH_gn _ _ _ _ (by omega)]; exact ME_isO _ _ _ _ _ _) | (refine nI_inR ?_ ?_ ?_ <;> omega)) only [x79, e79_0, e79_1, e79_2, e79_5, e79_6, e79_7, e79_10, e79_11, e79_12, e79_15, e79_16, e79_17, e79_20, e79_21, e79_23, e79_25, e79_27, e79_30, e79_32, e79_36, e79_38, e79_41, e79_42, e79_44, e79_47, e79_49, e79_50, e79_54, e79_55, e79_58, e79_59, e79_60, e79_62, e79_64, e79_66, e79_67, e79_69, e79_72, e79_75, e79_78, e79_79, e79_80, e79_81, e79_83, e79_85, e79_86, e79_87, e79_90, e79_91, e79_93, e79_95, e79_96, e79_99, e79_100, e79_101, e79_102, e79_103, e79_106, e79_109, e79_112, e79_115, e79_118, kv_s, kh_s, kn_s, kc_v, kc_n, ME_isO, ME_f0, ME_f1, ME_f2, ME_f3, ME_f4, ME_f5, ME_f6, ME_f7, ME_f8, ME_a0, ME_a1, ME_a2, ME_a3, ME_a4, ME_a5, ME_r2, ME_r3, ME_r4, ME_r5, SH_gn, SH_asn, SH_asi, SH_pfn, Option.map_some, Nat.reduceEqDiff, Nat.one_ne_zero, Nat.reduceLT, Nat.reduceLeDiff, Nat.reduceAdd, Nat.reduceSub, Nat.reduceMul, nI_add, nI_leI, nI_ltI, nI_eq, z_eq, z_lt, z_le, z_gt, z_ge, ↓reduceIte, not_true_eq_false, not_false_eq_true, if_true, if_false, e1, s80, hc, show q + 1 ≤ q + 1 by omega]
theorem prL_st (s p l j : Nat) (hl : l < 21) (hj : j ≤ 21 - l) : (prH a s p l (prL a s p l) j).1 ≤ 20 ∧ (prH a s p l (prL a s p l) j).2.1 ≤ 20 := prH_le a s p l _ j (prL_le a s p l (by omega)) (by omega)
/-- the pairs of a low level -/
theorem l79b (ok : okA a) (s p : Nat) (hs : s < 21) (hp : p < 7) (hp1 : 1 ≤ p) (l : Nat) (hl : l < 21) : ∀ j, j ≤ 21 - l → ∀ (fl fh : Int32) (fc : Int64) (μ : lT) (v6 v7 : Option Value), (∀ n, n < 7 → μ 0 0 n = pw a n) → (∀ y, y < 21 → μ 1 0 y = ppS a y 7) → (∀ k, k < 21 → μ 4 0 k = lN (a 1 4 * k)) → okF (prL a s p l) (l == 0) fl fh fc → ∃ (μ' : lT) (v6' v7' : Option Value) (fl' fh' : Int32) (fc' : Int64), ev 79 34 [some (.ref 39), some (.ref 1), some (.int (nI s)), some (.int (nI p)), some (.int (nI l)), some (.int (nI l)), v6, v7] [] (SH (ME H μ β fl fh fc) 1 a) = ev 79 34 [some (.ref 39), some (.ref 1), some (.int (nI s)), some (.int (nI p)), some (.int (nI l)), some (.int (nI (l + j))), v6', v7'] [] (SH (ME H μ' β fl' fh' fc') 1 a) ∧ (∀ n, n < 7 → μ' 0 0 n = pw a n) ∧ (∀ y, y < 21 → μ' 1 0 y = ppS a y 7) ∧ (∀ k, k < 21 → μ' 4 0 k = lN (a 1 4 * k)) ∧ okF (prH a s p l (prL a s p l) j) (l == 0 && j == 0) fl' fh' fc' := by
  intro j
  induction j with
  | zero =>
    intro _ fl fh fc μ v6 v7 h0 h1 h2 hF
    exact ⟨μ, v6, v7, fl, fh, fc, rfl, h0, h1, h2, by rw [show (0 == 0) = true from rfl, Bool.and_true]; exact hF⟩
  | succ j ih =>
    intro hj fl fh fc μ v6 v7 h0 h1 h2 hF
    obtain ⟨μ', v6', v7', fl', fh', fc', e, k0, k1, k2, k3⟩ := ih (by omega) fl fh fc μ v6 v7 h0 h1 h2 hF
    obtain ⟨μ1, w6, w7, e1, j0, j1, j2⟩ := l79 H a β ok s p hs hp hp1 l (l + j) (by omega) (by omega) fl' fh' fc' μ' k0 k1 k2 v6' v7'
    have hle := prL_st a s p l j hl (by omega)
    rw [e, e1]
    by_cases h : fl' < 0 ∨ cst a s p l (l + j) < fc'
    · rw [if_pos h]
      refine ⟨μ1, w6, w7, nI l, nI (l + j), cst a s p l (l + j), by rw [Nat.add_assoc], j0, j1, j2, .inr ⟨by simp, ?_⟩⟩
      rcases k3 with ⟨q1, q2⟩ | ⟨q1, q2, q3, q4⟩
      · simp only [Bool.and_eq_true, beq_iff_eq] at q1
        obtain ⟨rfl, rfl⟩ := q1
        have : kp 0 0 (cst a s p 0 0) (0, 0, cst a s p 0 0) = (0, 0, cst a s p 0 0) := by unfold kp; split <;> rfl
        show nI 0 = nI (kp 0 (0 + 0) (cst a s p 0 (0 + 0)) (prL a s p 0)).1 ∧ _ = nI (kp 0 (0 + 0) (cst a s p 0 (0 + 0)) (prL a s p 0)).2.1 ∧ _ = (kp 0 (0 + 0) (cst a s p 0 (0 + 0)) (prL a s p 0)).2.2
        rw [show kp 0 (0 + 0) (cst a s p 0 (0 + 0)) (prL a s p 0) = (0, 0, cst a s p 0 0) from this]
        exact ⟨rfl, rfl, rfl⟩
      · have h' : cst a s p l (l + j) < (prH a s p l (prL a s p l) j).2.2 := by
          rcases h with h | h
          · rw [q2] at h
            exact absurd h (nI_pos (by omega))
          · rw [← q4]; exact h
        show nI l = nI (kp l (l + j) (cst a s p l (l + j)) (prH a s p l (prL a s p l) j)).1 ∧ _ = nI (kp l (l + j) (cst a s p l (l + j)) (prH a s p l (prL a s p l) j)).2.1 ∧ _ = (kp l (l + j) (cst a s p l (l + j)) (prH a s p l (prL a s p l) j)).2.2
        unfold kp
        rw [if_pos h']
        exact ⟨rfl, rfl, rfl⟩
    · rw [if_neg h]
      refine ⟨μ1, w6, w7, fl', fh', fc', by rw [Nat.add_assoc], j0, j1, j2, .inr ⟨by simp, ?_⟩⟩
      rcases k3 with ⟨q1, q2⟩ | ⟨q1, q2, q3, q4⟩
      · exact absurd (.inl (by rw [q2]; decide)) h
      · have h' : ¬ cst a s p l (l + j) < (prH a s p l (prL a s p l) j).2.2 := fun e => h (.inr (by rw [q4]; exact e))
        show fl' = nI (kp l (l + j) (cst a s p l (l + j)) (prH a s p l (prL a s p l) j)).1 ∧ fh' = nI (kp l (l + j) (cst a s p l (l + j)) (prH a s p l (prL a s p l) j)).2.1 ∧ fc' = (kp l (l + j) (cst a s p l (l + j)) (prH a s p l (prL a s p l) j)).2.2
        unfold kp
        rw [if_neg h']
        exact ⟨q2, q3, q4⟩
theorem s79 (ok : okA a) (s p : Nat) (hs : s < 21) (hp : p < 7) (hp1 : 1 ≤ p) (fl fh : Int32) (fc : Int64) (μ : lT) : ∃ μ' : lT, ex 79 [.ref 39, .ref 1, .int (nI s), .int (nI p)] (SH (ME H μ β fl fh fc) 1 a) = some (none, SH (ME H μ' β (nI (bestP a s p).1) (nI (bestP a s p).2.1) (bestP a s p).2.2) 1 a) ∧ (∀ n, n < 7 → μ' 0 0 n = pw a n) := by
  have l1 : ∀ l, l ≤ 21 → ∃ (μ' : lT) (v5 v6 v7 : Option Value) (fl' fh' : Int32) (fc' : Int64), ex 79 [.ref 39, .ref 1, .int (nI s), .int (nI p)] (SH (ME H μ β fl fh fc) 1 a) = ev 79 23 [some (.ref 39), some (.ref 1), some (.int (nI s)), some (.int (nI p)), some (.int (nI l)), v5, v6, v7] [] (SH (ME H μ' β fl' fh' fc') 1 a) ∧ (∀ n, n < 7 → μ' 0 0 n = pw a n) ∧ (∀ y, y < 21 → μ' 1 0 y = ppS a y 7) ∧ (∀ k, k < 21 → μ' 4 0 k = lN (a 1 4 * k)) ∧ okF (prL a s p l) (l == 0) fl' fh' fc' := by
    intro l
    induction l with
    | zero =>
      intro _
      obtain ⟨μ1, e1, j1, j2, j3⟩ := s43 H a β fl fh fc ok μ
      obtain ⟨μ2, e2, j4, j5⟩ := s45b H a β fl fh fc ok μ1
      refine ⟨μ2, none, none, none, -1, fh, fc, ?_, fun n hn => by rw [j5 _ _ (by omega), j1 n hn], fun y hy => by rw [j5 _ _ (by omega), j2 y hy], j4, .inl ⟨rfl, rfl⟩⟩
      simp (disch := first | omega | assumption | (refine b30 ?_; omega) | exact SH_isO _ _ _ | exact ME_isO _ _ _ _ _ _ | (rw [SH_gn _ _ _ _ (by omega)]; exact ME_isO _ _ _ _ _ _) | (refine nI_inR ?_ ?_ ?_ <;> omega)) only [x79, e79_0, e79_1, e79_2, e79_5, e79_6, e79_7, e79_10, e79_11, e79_12, e79_15, e79_16, e79_17, e79_20, e79_21, e79_25, e79_27, e79_30, e79_32, e79_34, e79_36, e79_38, e79_41, e79_42, e79_44, e79_47, e79_49, e79_50, e79_52, e79_54, e79_55, e79_58, e79_59, e79_60, e79_62, e79_64, e79_66, e79_67, e79_69, e79_72, e79_75, e79_78, e79_79, e79_80, e79_81, e79_83, e79_85, e79_86, e79_87, e79_90, e79_91, e79_93, e79_95, e79_96, e79_99, e79_100, e79_101, e79_102, e79_103, e79_106, e79_109, e79_112, e79_115, e79_118, kv_s, kh_s, kn_s, kc_v, kc_n, ME_isO, ME_f0, ME_f1, ME_f2, ME_f3, ME_f4, ME_f5, ME_f6, ME_f7, ME_f8, ME_a0, ME_a1, ME_a2, ME_a3, ME_a4, ME_a5, ME_r2, ME_r3, ME_r4, ME_r5, ME_w0, ME_w1, ME_w2, ME_w3, ME_w4, ME_w5, ME_p6, ME_p7, ME_p8, SH_gn, SH_asn, SH_asi, SH_pfn, Option.map_some, Nat.reduceEqDiff, Nat.one_ne_zero, Nat.reduceLT, Nat.reduceLeDiff, Nat.reduceAdd, Nat.reduceSub, Nat.reduceMul, nI_add, nI_leI, nI_ltI, nI_eq, z_eq, z_lt, z_le, z_gt, z_ge, ↓reduceIte, not_true_eq_false, not_false_eq_true, if_true, if_false, e1, e2, Nat.zero_add]
    | succ l ih =>
      intro hl
      obtain ⟨μ', v5, v6, v7, fl', fh', fc', e, k0, k1, k2, k3⟩ := ih (by omega)
      obtain ⟨μ1, w6, w7, gl, gh, gc, e1, j0, j1, j2, j3⟩ := l79b H a β ok s p hs hp hp1 l (by omega) (21 - l) (by omega) fl' fh' fc' μ' v6 v7 k0 k1 k2 k3
      refine ⟨μ1, some (.int (nI (l + (21 - l)))), w6, w7, gl, gh, gc, ?_, j0, j1, j2, ?_⟩
      · rw [e, e79_23]
        simp (disch := first | omega | assumption | (refine b30 ?_; omega) | exact SH_isO _ _ _ | exact ME_isO _ _ _ _ _ _ | (rw [SH_gn _ _ _ _ (by omega)]; exact ME_isO _ _ _ _ _ _) | (refine nI_inR ?_ ?_ ?_ <;> omega)) only [x79, e79_0, e79_1, e79_2, e79_5, e79_6, e79_7, e79_10, e79_11, e79_12, e79_15, e79_16, e79_17, e79_20, e79_21, e79_25, e79_27, e79_30, e79_32, e79_36, e79_38, e79_41, e79_42, e79_44, e79_47, e79_49, e79_50, e79_52, e79_54, e79_55, e79_58, e79_59, e79_60, e79_62, e79_64, e79_66, e79_67, e79_69, e79_72, e79_75, e79_78, e79_79, e79_80, e79_81, e79_83, e79_85, e79_86, e79_87, e79_90, e79_91, e79_93, e79_95, e79_96, e79_99, e79_100, e79_101, e79_102, e79_103, e79_106, e79_109, e79_112, e79_115, e79_118, kv_s, kh_s, kn_s, kc_v, kc_n, Nat.reduceEqDiff, Nat.one_ne_zero, Nat.reduceLT, Nat.reduceLeDiff, Nat.reduceAdd, Nat.reduceSub, Nat.reduceMul, nI_add, nI_leI, nI_ltI, nI_eq, z_eq, z_lt, z_le, z_gt, z_ge, ↓reduceIte, not_true_eq_false, not_false_eq_true, if_true, if_false, show ¬ 20 < l by omega]
        rw [e1, e79_34]
        simp (disch := first | omega | assumption | (refine b30 ?_; omega) | exact SH_isO _ _ _ | exact ME_isO _ _ _ _ _ _ | (rw [SH_gn _ _ _ _ (by omega)]; exact ME_isO _ _ _ _ _ _) | (refine nI_inR ?_ ?_ ?_ <;> omega)) only [x79, e79_0, e79_1, e79_2, e79_5, e79_6, e79_7, e79_10, e79_11, e79_12, e79_15, e79_16, e79_17, e79_20, e79_21, e79_25, e79_27, e79_30, e79_32, e79_36, e79_38, e79_41, e79_42, e79_44, e79_47, e79_49, e79_50, e79_52, e79_54, e79_55, e79_58, e79_59, e79_60, e79_62, e79_64, e79_66, e79_67, e79_69, e79_72, e79_75, e79_78, e79_79, e79_80, e79_81, e79_83, e79_85, e79_86, e79_87, e79_90, e79_91, e79_93, e79_95, e79_96, e79_99, e79_100, e79_101, e79_102, e79_103, e79_106, e79_109, e79_112, e79_115, e79_118, kv_s, kh_s, kn_s, kc_v, kc_n, Nat.reduceEqDiff, Nat.one_ne_zero, Nat.reduceLT, Nat.reduceLeDiff, Nat.reduceAdd, Nat.reduceSub, Nat.reduceMul, nI_add, nI_leI, nI_ltI, nI_eq, z_eq, z_lt, z_le, z_gt, z_ge, ↓reduceIte, not_true_eq_false, not_false_eq_true, if_true, if_false, show 20 < l + (21 - l) by omega]
      · have hz : (l == 0 && 21 - l == 0) = false := by
          rw [Bool.and_eq_false_iff]
          right
          simp
          omega
        rw [hz] at j3
        exact j3
  obtain ⟨μ', v5, v6, v7, fl', fh', fc', e, k0, k1, k2, k3⟩ := l1 21 (by omega)
  refine ⟨μ', ?_, k0⟩
  rcases k3 with ⟨q1, q2⟩ | ⟨q1, q2, q3, q4⟩
  · exact absurd q1 (by decide)
  · rw [e, e79_23]
    unfold bestP
    rw [← q2, ← q3, ← q4]
    simp (disch := first | omega | assumption | (refine b30 ?_; omega) | exact SH_isO _ _ _ | exact ME_isO _ _ _ _ _ _ | (rw [SH_gn _ _ _ _ (by omega)]; exact ME_isO _ _ _ _ _ _) | (refine nI_inR ?_ ?_ ?_ <;> omega)) only [x79, e79_0, e79_1, e79_2, e79_5, e79_6, e79_7, e79_10, e79_11, e79_12, e79_15, e79_16, e79_17, e79_20, e79_21, e79_25, e79_27, e79_30, e79_32, e79_36, e79_38, e79_41, e79_42, e79_44, e79_47, e79_49, e79_50, e79_52, e79_54, e79_55, e79_58, e79_59, e79_60, e79_62, e79_64, e79_66, e79_67, e79_69, e79_72, e79_75, e79_78, e79_79, e79_80, e79_81, e79_83, e79_85, e79_86, e79_87, e79_90, e79_91, e79_93, e79_95, e79_96, e79_99, e79_100, e79_101, e79_102, e79_103, e79_106, e79_109, e79_112, e79_115, e79_118, kv_s, kh_s, kn_s, kc_v, kc_n, Nat.reduceEqDiff, Nat.one_ne_zero, Nat.reduceLT, Nat.reduceLeDiff, Nat.reduceAdd, Nat.reduceSub, Nat.reduceMul, nI_add, nI_leI, nI_ltI, nI_eq, z_eq, z_lt, z_le, z_gt, z_ge, ↓reduceIte, not_true_eq_false, not_false_eq_true, if_true, if_false]
end
