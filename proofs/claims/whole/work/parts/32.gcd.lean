-- PART 32: fractions in lowest terms
theorem bm_id {z : Int} (h : z.natAbs < 2 ^ 63) : z.bmod (2 ^ 64) = z := Int.bmod_eq_of_le (by omega) (by omega)
theorem lN_tI {n : Nat} (h : n < 2 ^ 63) : (lN n).toInt = (n : Int) := Int64.toInt_ofNat_of_lt h
theorem i64_0 : (0 : Int64).toInt = 0 := by decide
theorem ne0_t {y : Int64} (h : ¬ y = 0) : y.toInt ≠ 0 := fun e => h (Int64.toInt_inj.mp (e.trans i64_0.symm))
theorem t_ne0 {y : Int64} (h : y.toInt ≠ 0) : ¬ y = 0 := fun e => h (by rw [e]; rfl)
theorem rem_t (x y : Int64) (hx : x.toInt.natAbs < 2 ^ 62) (hy : y.toInt ≠ 0) : (x - x / y * y).toInt = x.toInt.tmod y.toInt := by
  have h1 := Int.mul_tdiv_add_tmod x.toInt y.toInt
  have h2 : (x.toInt.tmod y.toInt).natAbs ≤ x.toInt.natAbs := by
    rw [Int.natAbs_tmod]
    exact Nat.mod_le _ _
  have h3 : (x.toInt.tdiv y.toInt).natAbs ≤ x.toInt.natAbs := by
    rw [Int.natAbs_tdiv]
    exact Nat.div_le_self _ _
  rw [Int64.toInt_sub, Int64.toInt_mul, Int64.toInt_div, bm_id (z := x.toInt.tdiv y.toInt) (by omega), Int.mul_comm, bm_id (z := y.toInt * _) (by omega), bm_id (by omega)]
  omega
theorem neg_t (x : Int64) (hx : x.toInt.natAbs < 2 ^ 62) : (-x).toInt = -x.toInt := by
  rw [Int64.toInt_neg, bm_id (by omega)]
theorem lt0_t (x : Int64) : x < 0 ↔ x.toInt < 0 := by
  rw [Int64.lt_iff_toInt_lt, i64_0]
theorem s56 (x : Int64) (hx : x.toInt.natAbs < 2 ^ 62) (H : pi_H) : ex 56 [.long x] H = some (some (.long (lN x.toInt.natAbs)), H) := by
  have ht : (lN x.toInt.natAbs).toInt = (x.toInt.natAbs : Int) := lN_tI (by omega)
  by_cases h : x < 0
  · have h2 := (lt0_t x).mp h
    have e : -x = lN x.toInt.natAbs := Int64.toInt_inj.mp (by rw [neg_t x hx, ht]; omega)
    simp (disch := first | omega | assumption | (refine b30 ?_; omega) | exact SH_isO _ _ _ | (refine nI_inR ?_ ?_ ?_ <;> omega)) only [x56, e56_0, e56_1, e56_2, e56_3, e56_6, e56_7, e56_8, e56_11, e56_12, Nat.reduceEqDiff, Nat.one_ne_zero, Nat.reduceLT, Nat.reduceLeDiff, Nat.reduceAdd, Nat.reduceSub, Nat.reduceMul, nI_add, nI_leI, nI_ltI, nI_eq, z_eq, z_lt, z_le, z_gt, z_ge, ↓reduceIte, not_true_eq_false, not_false_eq_true, if_true, if_false, kv_s, kh_s, kn_s, kc_v, kc_n, cmp_ge, lN_0, h, e]
  · have h2 : ¬ x.toInt < 0 := fun e => h ((lt0_t x).mpr e)
    have e : x = lN x.toInt.natAbs := Int64.toInt_inj.mp (by rw [ht]; omega)
    simp (disch := first | omega | assumption | (refine b30 ?_; omega) | exact SH_isO _ _ _ | (refine nI_inR ?_ ?_ ?_ <;> omega)) only [x56, e56_0, e56_1, e56_2, e56_3, e56_6, e56_7, e56_8, e56_11, e56_12, Nat.reduceEqDiff, Nat.one_ne_zero, Nat.reduceLT, Nat.reduceLeDiff, Nat.reduceAdd, Nat.reduceSub, Nat.reduceMul, nI_add, nI_leI, nI_ltI, nI_eq, z_eq, z_lt, z_le, z_gt, z_ge, ↓reduceIte, not_true_eq_false, not_false_eq_true, if_true, if_false, kv_s, kh_s, kn_s, kc_v, kc_n, cmp_ge, lN_0, h]
    rw [← e]
theorem l55e (f s d : Int64) (st : Nat) (v9 : Option Value) (H : pi_H) (hd : d.toInt.natAbs < 2 ^ 62) (hst : st ≤ 100) : ev 55 9 [some (.long f), none, some (.long s), none, some (.long d), none, some (.long 0), none, some (.int (nI st)), v9, none] [] H = some (some (.long (lN d.toInt.natAbs)), H) := by
  have e := s56 d hd H
  rw [e55_9]
  by_cases h : 100 ≤ st
  · simp (disch := first | omega | assumption | (refine b30 ?_; omega) | exact SH_isO _ _ _ | (refine nI_inR ?_ ?_ ?_ <;> omega)) only [x55, e55_0, e55_1, e55_3, e55_4, e55_6, e55_7, e55_11, e55_13, e55_16, e55_18, e55_19, e55_20, e55_23, e55_25, e55_27, e55_28, e55_30, e55_32, e55_34, e55_36, e55_38, e55_41, e55_44, e55_46, e55_49, Nat.reduceEqDiff, Nat.one_ne_zero, Nat.reduceLT, Nat.reduceLeDiff, Nat.reduceAdd, Nat.reduceSub, Nat.reduceMul, nI_add, nI_leI, nI_ltI, nI_eq, z_eq, z_lt, z_le, z_gt, z_ge, ↓reduceIte, not_true_eq_false, not_false_eq_true, if_true, if_false, kv_s, kh_s, kn_s, kc_v, kc_n, e, h]
  · simp (disch := first | omega | assumption | (refine b30 ?_; omega) | exact SH_isO _ _ _ | (refine nI_inR ?_ ?_ ?_ <;> omega)) only [x55, e55_0, e55_1, e55_3, e55_4, e55_6, e55_7, e55_11, e55_13, e55_16, e55_18, e55_19, e55_20, e55_23, e55_25, e55_27, e55_28, e55_30, e55_32, e55_34, e55_36, e55_38, e55_41, e55_44, e55_46, e55_49, Nat.reduceEqDiff, Nat.one_ne_zero, Nat.reduceLT, Nat.reduceLeDiff, Nat.reduceAdd, Nat.reduceSub, Nat.reduceMul, nI_add, nI_leI, nI_ltI, nI_eq, z_eq, z_lt, z_le, z_gt, z_ge, ↓reduceIte, not_true_eq_false, not_false_eq_true, if_true, if_false, kv_s, kh_s, kn_s, kc_v, kc_n, e, h, cmp_eq, lN_0]
theorem l55s (f s d r : Int64) (st : Nat) (v9 : Option Value) (H : pi_H) (hr : ¬ r = 0) (hst : st < 100) : ev 55 9 [some (.long f), none, some (.long s), none, some (.long d), none, some (.long r), none, some (.int (nI st)), v9, none] [] H = ev 55 9 [some (.long f), none, some (.long s), none, some (.long r), none, some (.long (d - d / r * r)), none, some (.int (nI (st + 1))), some (.long (d - d / r * r)), none] [] H := by
  rw [e55_9]
  simp (disch := first | omega | assumption | (refine b30 ?_; omega) | exact SH_isO _ _ _ | (refine nI_inR ?_ ?_ ?_ <;> omega)) only [x55, e55_0, e55_1, e55_3, e55_4, e55_6, e55_7, e55_11, e55_13, e55_16, e55_18, e55_19, e55_20, e55_23, e55_25, e55_27, e55_28, e55_30, e55_32, e55_34, e55_36, e55_38, e55_41, e55_44, e55_46, e55_49, Nat.reduceEqDiff, Nat.one_ne_zero, Nat.reduceLT, Nat.reduceLeDiff, Nat.reduceAdd, Nat.reduceSub, Nat.reduceMul, nI_add, nI_leI, nI_ltI, nI_eq, z_eq, z_lt, z_le, z_gt, z_ge, ↓reduceIte, not_true_eq_false, not_false_eq_true, if_true, if_false, kv_s, kh_s, kn_s, kc_v, kc_n, hr, show ¬ 100 ≤ st by omega, cmp_eq, lN_0]
theorem l55 : ∀ (k : Nat) (f s d r : Int64) (st : Nat) (v9 : Option Value) (H : pi_H), d.toInt.natAbs < 2 ^ 62 → r.toInt.natAbs < 2 ^ 62 → r.toInt.natAbs < 2 ^ k → st + 2 * k + 1 ≤ 100 → ev 55 9 [some (.long f), none, some (.long s), none, some (.long d), none, some (.long r), none, some (.int (nI st)), v9, none] [] H = some (some (.long (lN (Nat.gcd d.toInt.natAbs r.toInt.natAbs))), H) := by
  intro k
  induction k with
  | zero =>
    intro f s d r st v9 H hd hr hk hst
    have h0 : r = 0 := Int64.toInt_inj.mp (by rw [i64_0]; omega)
    subst h0
    rw [l55e f s d st v9 H hd (by omega)]
    rw [i64_0]
    simp
  | succ k ih =>
    intro f s d r st v9 H hd hr hk hst
    by_cases h0 : r = 0
    · subst h0
      rw [l55e f s d st v9 H hd (by omega), i64_0]
      simp
    · have t0 := ne0_t h0
      have e1 := rem_t d r hd t0
      have a1 : (d - d / r * r).toInt.natAbs = d.toInt.natAbs % r.toInt.natAbs := by rw [e1, Int.natAbs_tmod]
      have p1 : 0 < r.toInt.natAbs := by omega
      have l1 : (d - d / r * r).toInt.natAbs < r.toInt.natAbs := by rw [a1]; exact Nat.mod_lt _ p1
      have g1 : Nat.gcd d.toInt.natAbs r.toInt.natAbs = Nat.gcd r.toInt.natAbs (d - d / r * r).toInt.natAbs := by
        rw [a1, Nat.gcd_comm d.toInt.natAbs, Nat.gcd_rec, Nat.gcd_comm]
      rw [l55s f s d r st v9 H h0 (by omega), g1]
      generalize hq : d - d / r * r = r1 at l1
      by_cases h1 : r1 = 0
      · subst h1
        rw [l55e f s r (st + 1) _ H hr (by omega), i64_0]
        simp
      · have t1 := ne0_t h1
        have e2 := rem_t r r1 hr t1
        have a2 : (r - r / r1 * r1).toInt.natAbs = r.toInt.natAbs % r1.toInt.natAbs := by rw [e2, Int.natAbs_tmod]
        have p2 : 0 < r1.toInt.natAbs := by omega
        have l2 : (r - r / r1 * r1).toInt.natAbs < r1.toInt.natAbs := by rw [a2]; exact Nat.mod_lt _ p2
        have g2 : Nat.gcd r.toInt.natAbs r1.toInt.natAbs = Nat.gcd r1.toInt.natAbs (r - r / r1 * r1).toInt.natAbs := by
          rw [a2, Nat.gcd_comm r.toInt.natAbs, Nat.gcd_rec, Nat.gcd_comm]
        have h2k : (r - r / r1 * r1).toInt.natAbs < 2 ^ k := by
          have q1 := Nat.div_add_mod r.toInt.natAbs r1.toInt.natAbs
          have q2 : 1 ≤ r.toInt.natAbs / r1.toInt.natAbs := Nat.div_pos (by omega) p2
          have q3 := Nat.mul_le_mul_left r1.toInt.natAbs q2
          rw [Nat.pow_succ] at hk
          omega
        rw [l55s f s r r1 (st + 1) _ H h1 (by omega), g2]
        exact ih f s r1 _ (st + 1 + 1) _ H (by omega) (by omega) h2k (by omega)
def gI (x y : Int64) : Int64 := lN (Nat.gcd x.toInt.natAbs y.toInt.natAbs)
def frac (x y : Int64) (p : Nat) : Int64 := if p = 0 then x / gI x y else y / gI x y
/-- what stands below is small and above 0 -/
def okY (y : Int64) : Prop := 0 < y.toInt ∧ y.toInt < 2 ^ 24
theorem gI_ne (x y : Int64) (hy : okY y) : ¬ gI x y = 0 := by
  have h1 : Nat.gcd x.toInt.natAbs y.toInt.natAbs ≤ y.toInt.natAbs := Nat.gcd_le_right _ (by have := hy.1; omega)
  have h2 : 0 < Nat.gcd x.toInt.natAbs y.toInt.natAbs := Nat.gcd_pos_of_pos_right _ (by have := hy.1; omega)
  apply t_ne0
  unfold gI
  have h3 := hy.2
  have h4 := hy.1
  rw [lN_tI (by omega)]
  omega
theorem s54 (x y : Int64) (hx : x.toInt.natAbs < 2 ^ 62) (hy : okY y) (p : Nat) (hp : p ≤ 1) (H : pi_H) : ex 54 [.long x, .long y, .int (nI p)] H = some (some (.long (frac x y p)), H) := by
  have hy1 := hy.1
  have hy2 := hy.2
  have e : ex 55 [.long x, .long y] H = some (some (.long (gI x y)), H) := by
    have := l55 24 x y x y 0 none H hx (by omega) (by omega) (by omega)
    simp (disch := first | omega | assumption | (refine b30 ?_; omega) | exact SH_isO _ _ _ | (refine nI_inR ?_ ?_ ?_ <;> omega)) only [x55, e55_0, e55_1, e55_3, e55_4, e55_6, e55_7, e55_11, e55_13, e55_16, e55_18, e55_19, e55_20, e55_23, e55_25, e55_27, e55_28, e55_30, e55_32, e55_34, e55_36, e55_38, e55_41, e55_44, e55_46, e55_49, Nat.reduceEqDiff, Nat.one_ne_zero, Nat.reduceLT, Nat.reduceLeDiff, Nat.reduceAdd, Nat.reduceSub, Nat.reduceMul, nI_add, nI_leI, nI_ltI, nI_eq, z_eq, z_lt, z_le, z_gt, z_ge, ↓reduceIte, not_true_eq_false, not_false_eq_true, if_true, if_false, kv_s, kh_s, kn_s, kc_v, kc_n]
    exact this
  have hg := gI_ne x y hy
  unfold frac
  by_cases h : p = 0
  · simp (disch := first | omega | assumption | (refine b30 ?_; omega) | exact SH_isO _ _ _ | (refine nI_inR ?_ ?_ ?_ <;> omega)) only [x54, e54_0, e54_1, e54_2, e54_5, e54_7, e54_9, e54_10, e54_11, e54_14, e54_15, e54_16, e54_18, e54_21, e54_22, e54_24, e54_25, e54_28, e54_29, e54_31, e54_32, Nat.reduceEqDiff, Nat.one_ne_zero, Nat.reduceLT, Nat.reduceLeDiff, Nat.reduceAdd, Nat.reduceSub, Nat.reduceMul, nI_add, nI_leI, nI_ltI, nI_eq, z_eq, z_lt, z_le, z_gt, z_ge, ↓reduceIte, not_true_eq_false, not_false_eq_true, if_true, if_false, kv_s, kh_s, kn_s, kc_v, kc_n, e, h, cmp_eq, hg, lN_0]
  · simp (disch := first | omega | assumption | (refine b30 ?_; omega) | exact SH_isO _ _ _ | (refine nI_inR ?_ ?_ ?_ <;> omega)) only [x54, e54_0, e54_1, e54_2, e54_5, e54_7, e54_9, e54_10, e54_11, e54_14, e54_15, e54_16, e54_18, e54_21, e54_22, e54_24, e54_25, e54_28, e54_29, e54_31, e54_32, Nat.reduceEqDiff, Nat.one_ne_zero, Nat.reduceLT, Nat.reduceLeDiff, Nat.reduceAdd, Nat.reduceSub, Nat.reduceMul, nI_add, nI_leI, nI_ltI, nI_eq, z_eq, z_lt, z_le, z_gt, z_ge, ↓reduceIte, not_true_eq_false, not_false_eq_true, if_true, if_false, kv_s, kh_s, kn_s, kc_v, kc_n, e, h, cmp_eq, hg, lN_0]
/-- the reference's: what is left is 0 -/
theorem l141e (x y a b : Int64) (p : Nat) (hp : p ≤ 1) (v9 : Option Value) (H : pi_H) (ha : a = 0) (hb : ¬ b = 0) : ev 141 17 [some (.long x), none, some (.long y), none, some (.int (nI p)), some (.long a), none, some (.long b), none, v9, none] [] H = some (some (.long (if p = 0 then x / b else y / b)), H) := by
  rw [e141_17]
  by_cases h : p = 0
  · simp (disch := first | omega | assumption | (refine b30 ?_; omega) | exact SH_isO _ _ _ | (refine nI_inR ?_ ?_ ?_ <;> omega)) only [x141, e141_0, e141_1, e141_2, e141_3, e141_6, e141_7, e141_8, e141_11, e141_12, e141_14, e141_15, e141_19, e141_20, e141_21, e141_24, e141_26, e141_28, e141_29, e141_31, e141_33, e141_35, e141_37, e141_39, e141_42, e141_44, e141_47, e141_48, e141_50, e141_51, e141_54, e141_55, e141_57, e141_58, Nat.reduceEqDiff, Nat.one_ne_zero, Nat.reduceLT, Nat.reduceLeDiff, Nat.reduceAdd, Nat.reduceSub, Nat.reduceMul, nI_add, nI_leI, nI_ltI, nI_eq, z_eq, z_lt, z_le, z_gt, z_ge, ↓reduceIte, not_true_eq_false, not_false_eq_true, if_true, if_false, kv_s, kh_s, kn_s, kc_v, kc_n, ha, h, cmp_eq, lN_0]
  · simp (disch := first | omega | assumption | (refine b30 ?_; omega) | exact SH_isO _ _ _ | (refine nI_inR ?_ ?_ ?_ <;> omega)) only [x141, e141_0, e141_1, e141_2, e141_3, e141_6, e141_7, e141_8, e141_11, e141_12, e141_14, e141_15, e141_19, e141_20, e141_21, e141_24, e141_26, e141_28, e141_29, e141_31, e141_33, e141_35, e141_37, e141_39, e141_42, e141_44, e141_47, e141_48, e141_50, e141_51, e141_54, e141_55, e141_57, e141_58, Nat.reduceEqDiff, Nat.one_ne_zero, Nat.reduceLT, Nat.reduceLeDiff, Nat.reduceAdd, Nat.reduceSub, Nat.reduceMul, nI_add, nI_leI, nI_ltI, nI_eq, z_eq, z_lt, z_le, z_gt, z_ge, ↓reduceIte, not_true_eq_false, not_false_eq_true, if_true, if_false, kv_s, kh_s, kn_s, kc_v, kc_n, ha, h, cmp_eq, lN_0]
theorem l141s (x y a b : Int64) (p : Nat) (v9 : Option Value) (H : pi_H) (ha : ¬ a = 0) : ev 141 17 [some (.long x), none, some (.long y), none, some (.int (nI p)), some (.long a), none, some (.long b), none, v9, none] [] H = ev 141 17 [some (.long x), none, some (.long y), none, some (.int (nI p)), some (.long (b - b / a * a)), none, some (.long a), none, some (.long (b - b / a * a)), none] [] H := by
  rw [e141_17]
  simp (disch := first | omega | assumption | (refine b30 ?_; omega) | exact SH_isO _ _ _ | (refine nI_inR ?_ ?_ ?_ <;> omega)) only [x141, e141_0, e141_1, e141_2, e141_3, e141_6, e141_7, e141_8, e141_11, e141_12, e141_14, e141_15, e141_19, e141_20, e141_21, e141_24, e141_26, e141_28, e141_29, e141_31, e141_33, e141_35, e141_37, e141_39, e141_42, e141_44, e141_47, e141_48, e141_50, e141_51, e141_54, e141_55, e141_57, e141_58, Nat.reduceEqDiff, Nat.one_ne_zero, Nat.reduceLT, Nat.reduceLeDiff, Nat.reduceAdd, Nat.reduceSub, Nat.reduceMul, nI_add, nI_leI, nI_ltI, nI_eq, z_eq, z_lt, z_le, z_gt, z_ge, ↓reduceIte, not_true_eq_false, not_false_eq_true, if_true, if_false, kv_s, kh_s, kn_s, kc_v, kc_n, ha, cmp_eq, lN_0]
theorem l141 : ∀ (k : Nat) (x y a b : Int64) (p : Nat) (v9 : Option Value) (H : pi_H), p ≤ 1 → 0 ≤ a.toInt → 0 < b.toInt → a.toInt < 2 ^ 62 → b.toInt < 2 ^ 62 → a.toInt.natAbs ≤ k → ev 141 17 [some (.long x), none, some (.long y), none, some (.int (nI p)), some (.long a), none, some (.long b), none, v9, none] [] H = some (some (.long (if p = 0 then x / lN (Nat.gcd a.toInt.natAbs b.toInt.natAbs) else y / lN (Nat.gcd a.toInt.natAbs b.toInt.natAbs))), H) := by
  intro k
  induction k with
  | zero =>
    intro x y a b p v9 H hp h1 h2 h3 h4 hk
    have h0 : a = 0 := Int64.toInt_inj.mp (by rw [i64_0]; omega)
    have hb : b = lN (Nat.gcd a.toInt.natAbs b.toInt.natAbs) := Int64.toInt_inj.mp (by
      rw [h0, i64_0, Int.natAbs_zero, Nat.gcd_zero_left, lN_tI (by omega)]
      omega)
    rw [← hb]
    exact l141e x y a b p hp v9 H h0 (t_ne0 (by omega))
  | succ k ih =>
    intro x y a b p v9 H hp h1 h2 h3 h4 hk
    by_cases h0 : a = 0
    · have hb : b = lN (Nat.gcd a.toInt.natAbs b.toInt.natAbs) := Int64.toInt_inj.mp (by
        rw [h0, i64_0, Int.natAbs_zero, Nat.gcd_zero_left, lN_tI (by omega)]
        omega)
      rw [← hb]
      exact l141e x y a b p hp v9 H h0 (t_ne0 (by omega))
    · have t0 := ne0_t h0
      have e1 := rem_t b a (by omega) t0
      have a1 : (b - b / a * a).toInt.natAbs = b.toInt.natAbs % a.toInt.natAbs := by rw [e1, Int.natAbs_tmod]
      have n1 : 0 ≤ (b - b / a * a).toInt := by rw [e1]; exact Int.tmod_nonneg _ (by omega)
      have p1 : 0 < a.toInt.natAbs := by omega
      have l1 : (b - b / a * a).toInt.natAbs < a.toInt.natAbs := by rw [a1]; exact Nat.mod_lt _ p1
      have g1 : Nat.gcd a.toInt.natAbs b.toInt.natAbs = Nat.gcd (b - b / a * a).toInt.natAbs a.toInt.natAbs := by
        rw [a1, Nat.gcd_rec]
      rw [l141s x y a b p v9 H h0, g1]
      exact ih x y _ a p _ H hp n1 (by omega) (by omega) h3 (by omega)
theorem s141 (x y : Int64) (hx : x.toInt.natAbs < 2 ^ 62) (hy : okY y) (p : Nat) (hp : p ≤ 1) (H : pi_H) : ex 141 [.long x, .long y, .int (nI p)] H = some (some (.long (frac x y p)), H) := by
  have hy1 := hy.1
  have hy2 := hy.2
  unfold frac gI
  by_cases h : x < 0
  · have h2 := (lt0_t x).mp h
    have e := neg_t x hx
    have := l141 (-x).toInt.natAbs x y (-x) y p none H hp (by omega) hy1 (by omega) (by omega) (by omega)
    rw [show (-x).toInt.natAbs = x.toInt.natAbs by omega] at this
    simp (disch := first | omega | assumption | (refine b30 ?_; omega) | exact SH_isO _ _ _ | (refine nI_inR ?_ ?_ ?_ <;> omega)) only [x141, e141_0, e141_1, e141_2, e141_3, e141_6, e141_7, e141_8, e141_11, e141_12, e141_14, e141_15, e141_19, e141_20, e141_21, e141_24, e141_26, e141_28, e141_29, e141_31, e141_33, e141_35, e141_37, e141_39, e141_42, e141_44, e141_47, e141_48, e141_50, e141_51, e141_54, e141_55, e141_57, e141_58, Nat.reduceEqDiff, Nat.one_ne_zero, Nat.reduceLT, Nat.reduceLeDiff, Nat.reduceAdd, Nat.reduceSub, Nat.reduceMul, nI_add, nI_leI, nI_ltI, nI_eq, z_eq, z_lt, z_le, z_gt, z_ge, ↓reduceIte, not_true_eq_false, not_false_eq_true, if_true, if_false, kv_s, kh_s, kn_s, kc_v, kc_n, cmp_ge, lN_0, h]
    rw [this]
  · have h2 : ¬ x.toInt < 0 := fun e => h ((lt0_t x).mpr e)
    have := l141 x.toInt.natAbs x y x y p none H hp (by omega) hy1 (by omega) (by omega) (by omega)
    simp (disch := first | omega | assumption | (refine b30 ?_; omega) | exact SH_isO _ _ _ | (refine nI_inR ?_ ?_ ?_ <;> omega)) only [x141, e141_0, e141_1, e141_2, e141_3, e141_6, e141_7, e141_8, e141_11, e141_12, e141_14, e141_15, e141_19, e141_20, e141_21, e141_24, e141_26, e141_28, e141_29, e141_31, e141_33, e141_35, e141_37, e141_39, e141_42, e141_44, e141_47, e141_48, e141_50, e141_51, e141_54, e141_55, e141_57, e141_58, Nat.reduceEqDiff, Nat.one_ne_zero, Nat.reduceLT, Nat.reduceLeDiff, Nat.reduceAdd, Nat.reduceSub, Nat.reduceMul, nI_add, nI_leI, nI_ltI, nI_eq, z_eq, z_lt, z_le, z_gt, z_ge, ↓reduceIte, not_true_eq_false, not_false_eq_true, if_true, if_false, kv_s, kh_s, kn_s, kc_v, kc_n, cmp_ge, lN_0, h]
    rw [this]
