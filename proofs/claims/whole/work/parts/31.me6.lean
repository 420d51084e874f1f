-- PART 31: the means' methods, sixth: the shape
def bI (p : Prop) [Decidable p] : Int32 := if p then nI 1 else nI 0
theorem bI_z (p : Prop) [Decidable p] : (bI p = 0) = ¬ p := by
  unfold bI
  apply propext
  by_cases h : p
  · rw [if_pos h, z_eq (by omega)]; simp [h]
  · rw [if_neg h, z_eq (by omega)]; simp [h]
theorem cmp_le (x y : Int64) : (lg_cmp x y ≤ 0) = ¬ y < x := by
  unfold lg_cmp
  apply propext
  by_cases h1 : x < y
  · have h2 : ¬ y < x := by grind
    have h3 : ¬ x = y := by grind
    simp [h1, h2, h3]
  · by_cases h2 : y < x
    · simp [h1, h2]
      first | done | decide | grind
    · simp [h1, h2]
      first | done | decide | grind
theorem cmp_eq (x y : Int64) : (lg_cmp x y = 0) = (x = y) := by
  unfold lg_cmp
  apply propext
  by_cases h1 : x < y
  · have h2 : ¬ x = y := by grind
    have h3 : ¬ y < x := by grind
    simp [h1, h2, h3]
  · by_cases h2 : x = y
    · simp [h2]
      first | done | decide | grind
    · simp [h1, h2]
      first | done | decide | grind
def ll (f : Nat → Int64) : Nat → Nat
  | 0 => 0
  | y + 1 => if f (y + 1) < f (ll f y) then y + 1 else ll f y
theorem ll_le (f : Nat → Int64) : ∀ n, ll f n ≤ n
  | 0 => Nat.le_refl _
  | y + 1 => by
    have := ll_le f y
    unfold ll
    split <;> omega
def lastO (b : Nat → Nat) : Nat → Option Nat
  | 0 => none
  | n + 1 => if n < b n then some n else lastO b n
def oI (o : Option Nat) : Int32 := match o with
  | some n => nI n
  | none => -1000004
def cnt (P : Nat → Bool) : Nat → Nat
  | 0 => 0
  | n + 1 => cnt P n + (if P (n + 1) then 1 else 0)
theorem cnt_le (P : Nat → Bool) : ∀ n, cnt P n ≤ n
  | 0 => Nat.le_refl _
  | n + 1 => by
    have := cnt_le P n
    unfold cnt
    split <;> omega
def fst1 (P : Nat → Bool) : Nat → Option Nat
  | 0 => none
  | n + 1 => match fst1 P n with
    | some v => some v
    | none => if P (n + 1) then some (n + 1) else none
def gapC (f : Nat → Int64) (l : Nat) : Bool := decide (f (l - 1) + f (l + 1) < lN 2 * f l)
def gapO (b : Nat → Nat) (k : Nat) : Bool := decide (k < b k) && !decide (k - 1 < b (k - 1))
def newL (b : Nat → Nat) (k : Nat) : Nat → Bool
  | 0 => true
  | j + 1 => newL b k j && !(decide (j < b j) && decide (b j = b k))
def unl (b : Nat → Nat) : Nat → Nat
  | 0 => 0
  | k + 1 => unl b k + (if (decide (k < b k) && newL b k k) = true then 1 else 0)
theorem unl_le (b : Nat → Nat) : ∀ n, unl b n ≤ n
  | 0 => Nat.le_refl _
  | n + 1 => by
    have := unl_le b n
    unfold unl
    split <;> omega
theorem rt69_0 : pi_rt pm_Me_orders (nI 0) = true := by decide +kernel
theorem rt69_1 : pi_rt pm_Me_orders (nI 1) = true := by decide +kernel
theorem rt71_0 : pi_rt pm_Me_isConvexityGap (nI 0) = true := by decide +kernel
theorem rt71_1 : pi_rt pm_Me_isConvexityGap (nI 1) = true := by decide +kernel
theorem rt74_0 : pi_rt pm_Me_isOrderGap (nI 0) = true := by decide +kernel
theorem rt74_1 : pi_rt pm_Me_isOrderGap (nI 1) = true := by decide +kernel
theorem rt77_0 : pi_rt pm_Me_isNewLevel (nI 0) = true := by decide +kernel
theorem rt77_1 : pi_rt pm_Me_isNewLevel (nI 1) = true := by decide +kernel
section
variable (H : pi_H) (a : sT) (μ : lT) (β : bT) (fl fh : Int32) (fc : Int64)
theorem s67 (p : Nat) (hp : p < 7) : ex 67 [.ref 39, .int (nI p)] (SH (ME H μ β fl fh fc) 1 a) = some (some (.int (nI (ll (μ 3 p) 20))), SH (ME H μ β fl fh fc) 1 a) := by
  have h := ev_loop (fun n => ev 67 12 [some (.ref 39), some (.int (nI p)), some (.ref (p + 51)), some (.int (nI (ll (μ 3 p) n))), some (.int (nI (n + 1)))] [] (SH (ME H μ β fl fh fc) 1 a)) 20 (fun n hn => by
    have h1 := ll_le (μ 3 p) n
    rw [e67_12]
    have e : ll (μ 3 p) (n + 1) = if μ 3 p (n + 1) < μ 3 p (ll (μ 3 p) n) then n + 1 else ll (μ 3 p) n := rfl
    rw [e]
    by_cases h : μ 3 p (n + 1) < μ 3 p (ll (μ 3 p) n)
    · simp (disch := first | omega | assumption | (refine b30 ?_; omega) | exact SH_isO _ _ _ | exact ME_isO _ _ _ _ _ _ | (rw [SH_gn _ _ _ _ (by omega)]; exact ME_isO _ _ _ _ _ _) | (refine nI_inR ?_ ?_ ?_ <;> omega)) only [x67, e67_0, e67_1, e67_4, e67_5, e67_6, e67_7, e67_8, e67_9, e67_10, e67_14, e67_16, e67_19, e67_20, e67_22, e67_23, e67_24, e67_25, e67_26, e67_27, e67_30, e67_32, e67_33, e67_36, e67_39, e67_40, kv_s, kh_s, kn_s, kc_v, kc_n, ME_isO, ME_f0, ME_f1, ME_f2, ME_f3, ME_f4, ME_f5, ME_f6, ME_f7, ME_f8, ME_a0, ME_a1, ME_a2, ME_a3, ME_a4, ME_a5, ME_r2, ME_r3, ME_r4, ME_r5, SH_gn, SH_asn, SH_asi, SH_pfn, Option.map_some, Nat.reduceEqDiff, Nat.one_ne_zero, Nat.reduceLT, Nat.reduceLeDiff, Nat.reduceAdd, Nat.reduceSub, Nat.reduceMul, nI_add, nI_leI, nI_ltI, nI_eq, z_eq, z_lt, z_le, z_gt, z_ge, ↓reduceIte, not_true_eq_false, not_false_eq_true, if_true, if_false, cmp_ge, h, show ¬ 20 < n + 1 by omega]
    · simp (disch := first | omega | assumption | (refine b30 ?_; omega) | exact SH_isO _ _ _ | exact ME_isO _ _ _ _ _ _ | (rw [SH_gn _ _ _ _ (by omega)]; exact ME_isO _ _ _ _ _ _) | (refine nI_inR ?_ ?_ ?_ <;> omega)) only [x67, e67_0, e67_1, e67_4, e67_5, e67_6, e67_7, e67_8, e67_9, e67_10, e67_14, e67_16, e67_19, e67_20, e67_22, e67_23, e67_24, e67_25, e67_26, e67_27, e67_30, e67_32, e67_33, e67_36, e67_39, e67_40, kv_s, kh_s, kn_s, kc_v, kc_n, ME_isO, ME_f0, ME_f1, ME_f2, ME_f3, ME_f4, ME_f5, ME_f6, ME_f7, ME_f8, ME_a0, ME_a1, ME_a2, ME_a3, ME_a4, ME_a5, ME_r2, ME_r3, ME_r4, ME_r5, SH_gn, SH_asn, SH_asi, SH_pfn, Option.map_some, Nat.reduceEqDiff, Nat.one_ne_zero, Nat.reduceLT, Nat.reduceLeDiff, Nat.reduceAdd, Nat.reduceSub, Nat.reduceMul, nI_add, nI_leI, nI_ltI, nI_eq, z_eq, z_lt, z_le, z_gt, z_ge, ↓reduceIte, not_true_eq_false, not_false_eq_true, if_true, if_false, cmp_ge, h, show ¬ 20 < n + 1 by omega])
  have h0 : ex 67 [.ref 39, .int (nI p)] (SH (ME H μ β fl fh fc) 1 a) = ev 67 12 [some (.ref 39), some (.int (nI p)), some (.ref (p + 51)), some (.int (nI (ll (μ 3 p) 0))), some (.int (nI (0 + 1)))] [] (SH (ME H μ β fl fh fc) 1 a) := by
    simp (disch := first | omega | assumption | (refine b30 ?_; omega) | exact SH_isO _ _ _ | exact ME_isO _ _ _ _ _ _ | (rw [SH_gn _ _ _ _ (by omega)]; exact ME_isO _ _ _ _ _ _) | (refine nI_inR ?_ ?_ ?_ <;> omega)) only [x67, e67_0, e67_1, e67_4, e67_5, e67_6, e67_7, e67_8, e67_9, e67_10, e67_14, e67_16, e67_19, e67_20, e67_22, e67_23, e67_24, e67_25, e67_26, e67_27, e67_30, e67_32, e67_33, e67_36, e67_39, e67_40, kv_s, kh_s, kn_s, kc_v, kc_n, ME_isO, ME_f0, ME_f1, ME_f2, ME_f3, ME_f4, ME_f5, ME_f6, ME_f7, ME_f8, ME_a0, ME_a1, ME_a2, ME_a3, ME_a4, ME_a5, ME_r2, ME_r3, ME_r4, ME_r5, SH_gn, SH_asn, SH_asi, SH_pfn, Option.map_some, Nat.reduceEqDiff, Nat.one_ne_zero, Nat.reduceLT, Nat.reduceLeDiff, Nat.reduceAdd, Nat.reduceSub, Nat.reduceMul, nI_add, nI_leI, nI_ltI, nI_eq, z_eq, z_lt, z_le, z_gt, z_ge, ↓reduceIte, not_true_eq_false, not_false_eq_true, if_true, if_false, Nat.zero_add]
    rfl
  rw [h0, h, e67_12]
  simp (disch := first | omega | assumption | (refine b30 ?_; omega) | exact SH_isO _ _ _ | exact ME_isO _ _ _ _ _ _ | (rw [SH_gn _ _ _ _ (by omega)]; exact ME_isO _ _ _ _ _ _) | (refine nI_inR ?_ ?_ ?_ <;> omega)) only [x67, e67_0, e67_1, e67_4, e67_5, e67_6, e67_7, e67_8, e67_9, e67_10, e67_14, e67_16, e67_19, e67_20, e67_22, e67_23, e67_24, e67_25, e67_26, e67_27, e67_30, e67_32, e67_33, e67_36, e67_39, e67_40, kv_s, kh_s, kn_s, kc_v, kc_n, Nat.reduceEqDiff, Nat.one_ne_zero, Nat.reduceLT, Nat.reduceLeDiff, Nat.reduceAdd, Nat.reduceSub, Nat.reduceMul, nI_add, nI_leI, nI_ltI, nI_eq, z_eq, z_lt, z_le, z_gt, z_ge, ↓reduceIte, not_true_eq_false, not_false_eq_true, if_true, if_false]
theorem s69 (b : Nat → Nat) (k p : Nat) (hk : k < 21) (hp : p < 7) (hb : ∀ k, k < 21 → β p k = nI (b k) ∧ b k < 21) : ex 69 [.ref 39, .int (nI k), .int (nI p)] (SH (ME H μ β fl fh fc) 1 a) = some (some (.int (bI (k < b k))), SH (ME H μ β fl fh fc) 1 a) := by
  have h1 := hb k hk
  have := rt69_0
  have := rt69_1
  unfold bI
  by_cases h : k < b k
  · simp (disch := first | omega | assumption | (refine b30 ?_; omega) | exact SH_isO _ _ _ | exact ME_isO _ _ _ _ _ _ | (rw [SH_gn _ _ _ _ (by omega)]; exact ME_isO _ _ _ _ _ _) | (refine nI_inR ?_ ?_ ?_ <;> omega)) only [x69, e69_0, e69_1, e69_4, e69_5, e69_6, e69_7, e69_8, e69_9, e69_12, e69_13, e69_16, e69_17, kv_s, kh_s, kn_s, kc_v, kc_n, ME_isO, ME_f0, ME_f1, ME_f2, ME_f3, ME_f4, ME_f5, ME_f6, ME_f7, ME_f8, ME_a0, ME_a1, ME_a2, ME_a3, ME_a4, ME_a5, ME_r2, ME_r3, ME_r4, ME_r5, SH_gn, SH_asn, SH_asi, SH_pfn, Option.map_some, Nat.reduceEqDiff, Nat.one_ne_zero, Nat.reduceLT, Nat.reduceLeDiff, Nat.reduceAdd, Nat.reduceSub, Nat.reduceMul, nI_add, nI_leI, nI_ltI, nI_eq, z_eq, z_lt, z_le, z_gt, z_ge, ↓reduceIte, not_true_eq_false, not_false_eq_true, if_true, if_false, h1.1, h, show ¬ b k ≤ k by omega]
  · simp (disch := first | omega | assumption | (refine b30 ?_; omega) | exact SH_isO _ _ _ | exact ME_isO _ _ _ _ _ _ | (rw [SH_gn _ _ _ _ (by omega)]; exact ME_isO _ _ _ _ _ _) | (refine nI_inR ?_ ?_ ?_ <;> omega)) only [x69, e69_0, e69_1, e69_4, e69_5, e69_6, e69_7, e69_8, e69_9, e69_12, e69_13, e69_16, e69_17, kv_s, kh_s, kn_s, kc_v, kc_n, ME_isO, ME_f0, ME_f1, ME_f2, ME_f3, ME_f4, ME_f5, ME_f6, ME_f7, ME_f8, ME_a0, ME_a1, ME_a2, ME_a3, ME_a4, ME_a5, ME_r2, ME_r3, ME_r4, ME_r5, SH_gn, SH_asn, SH_asi, SH_pfn, Option.map_some, Nat.reduceEqDiff, Nat.one_ne_zero, Nat.reduceLT, Nat.reduceLeDiff, Nat.reduceAdd, Nat.reduceSub, Nat.reduceMul, nI_add, nI_leI, nI_ltI, nI_eq, z_eq, z_lt, z_le, z_gt, z_ge, ↓reduceIte, not_true_eq_false, not_false_eq_true, if_true, if_false, h1.1, h, show b k ≤ k by omega]
theorem s68 (b : Nat → Nat) (p : Nat) (hp : p < 7) (hb : ∀ k, k < 21 → β p k = nI (b k) ∧ b k < 21) : ex 68 [.ref 39, .int (nI p)] (SH (ME H μ β fl fh fc) 1 a) = some (some (.int (oI (lastO b 21))), SH (ME H μ β fl fh fc) 1 a) := by
  have l1 : ∀ n, n ≤ 21 → ev 68 3 [some (.ref 39), some (.int (nI p)), some (.int (nI n + -1))] [] (SH (ME H μ β fl fh fc) 1 a) = some (some (.int (oI (lastO b n))), SH (ME H μ β fl fh fc) 1 a) := by
    intro n
    induction n with
    | zero =>
      intro _
      have hz : (nI 0 + -1 : Int32) < 0 := by decide
      rw [e68_3]
      simp (disch := first | omega | assumption | (refine b30 ?_; omega) | exact SH_isO _ _ _ | exact ME_isO _ _ _ _ _ _ | (rw [SH_gn _ _ _ _ (by omega)]; exact ME_isO _ _ _ _ _ _) | (refine nI_inR ?_ ?_ ?_ <;> omega)) only [x68, e68_0, e68_2, e68_4, e68_7, e68_8, e68_9, e68_10, e68_13, e68_16, e68_17, e68_18, e68_21, e68_24, e68_26, kv_s, kh_s, kn_s, kc_v, kc_n, Nat.reduceEqDiff, Nat.one_ne_zero, Nat.reduceLT, Nat.reduceLeDiff, Nat.reduceAdd, Nat.reduceSub, Nat.reduceMul, nI_add, nI_leI, nI_ltI, nI_eq, z_eq, z_lt, z_le, z_gt, z_ge, ↓reduceIte, not_true_eq_false, not_false_eq_true, if_true, if_false, hz]
      rfl
    | succ n ih =>
      intro hn
      rw [pk_m1, e68_3]
      have e : lastO b (n + 1) = if n < b n then some n else lastO b n := rfl
      have e2 := s69 H a μ β fl fh fc b n p (by omega) hp hb
      rw [e]
      by_cases h : n < b n
      · simp (disch := first | omega | assumption | (refine b30 ?_; omega) | exact SH_isO _ _ _ | exact ME_isO _ _ _ _ _ _ | (rw [SH_gn _ _ _ _ (by omega)]; exact ME_isO _ _ _ _ _ _) | (refine nI_inR ?_ ?_ ?_ <;> omega)) only [x68, e68_0, e68_2, e68_4, e68_7, e68_8, e68_9, e68_10, e68_13, e68_16, e68_17, e68_18, e68_21, e68_24, e68_26, kv_s, kh_s, kn_s, kc_v, kc_n, Nat.reduceEqDiff, Nat.one_ne_zero, Nat.reduceLT, Nat.reduceLeDiff, Nat.reduceAdd, Nat.reduceSub, Nat.reduceMul, nI_add, nI_leI, nI_ltI, nI_eq, z_eq, z_lt, z_le, z_gt, z_ge, ↓reduceIte, not_true_eq_false, not_false_eq_true, if_true, if_false, e2, bI_z, h]
        rfl
      · simp (disch := first | omega | assumption | (refine b30 ?_; omega) | exact SH_isO _ _ _ | exact ME_isO _ _ _ _ _ _ | (rw [SH_gn _ _ _ _ (by omega)]; exact ME_isO _ _ _ _ _ _) | (refine nI_inR ?_ ?_ ?_ <;> omega)) only [x68, e68_0, e68_2, e68_4, e68_7, e68_8, e68_9, e68_10, e68_13, e68_16, e68_17, e68_18, e68_21, e68_24, e68_26, kv_s, kh_s, kn_s, kc_v, kc_n, Nat.reduceEqDiff, Nat.one_ne_zero, Nat.reduceLT, Nat.reduceLeDiff, Nat.reduceAdd, Nat.reduceSub, Nat.reduceMul, nI_add, nI_leI, nI_ltI, nI_eq, z_eq, z_lt, z_le, z_gt, z_ge, ↓reduceIte, not_true_eq_false, not_false_eq_true, if_true, if_false, e2, bI_z, h]
        exact ih (by omega)
  have := l1 21 (by omega)
  rw [show nI 21 + -1 = nI 20 from pk_m1 20] at this
  simp (disch := first | omega | assumption | (refine b30 ?_; omega) | exact SH_isO _ _ _ | exact ME_isO _ _ _ _ _ _ | (rw [SH_gn _ _ _ _ (by omega)]; exact ME_isO _ _ _ _ _ _) | (refine nI_inR ?_ ?_ ?_ <;> omega)) only [x68, e68_0, e68_2, e68_4, e68_7, e68_8, e68_9, e68_10, e68_13, e68_16, e68_17, e68_18, e68_21, e68_24, e68_26, kv_s, kh_s, kn_s, kc_v, kc_n, Nat.reduceEqDiff, Nat.one_ne_zero, Nat.reduceLT, Nat.reduceLeDiff, Nat.reduceAdd, Nat.reduceSub, Nat.reduceMul, nI_add, nI_leI, nI_ltI, nI_eq, z_eq, z_lt, z_le, z_gt, z_ge, ↓reduceIte, not_true_eq_false, not_false_eq_true, if_true, if_false]
  exact this
theorem s71 (l p : Nat) (h1 : 1 ≤ l) (h2 : l < 20) (hp : p < 7) : ex 71 [.ref 39, .int (nI l), .int (nI p)] (SH (ME H μ β fl fh fc) 1 a) = some (some (.int (bI (gapC (μ 3 p) l = true))), SH (ME H μ β fl fh fc) 1 a) := by
  have := rt71_0
  have := rt71_1
  unfold bI gapC
  by_cases h : μ 3 p (l - 1) + μ 3 p (l + 1) < lN 2 * μ 3 p l
  · simp (disch := first | omega | assumption | (refine b30 ?_; omega) | exact SH_isO _ _ _ | exact ME_isO _ _ _ _ _ _ | (rw [SH_gn _ _ _ _ (by omega)]; exact ME_isO _ _ _ _ _ _) | (refine nI_inR ?_ ?_ ?_ <;> omega)) only [x71, e71_0, e71_1, e71_4, e71_5, e71_6, e71_7, e71_10, e71_11, e71_12, e71_13, e71_14, e71_15, e71_16, e71_17, e71_18, e71_19, e71_20, e71_21, e71_22, e71_23, e71_24, e71_25, e71_26, e71_29, e71_30, e71_33, e71_34, kv_s, kh_s, kn_s, kc_v, kc_n, ME_isO, ME_f0, ME_f1, ME_f2, ME_f3, ME_f4, ME_f5, ME_f6, ME_f7, ME_f8, ME_a0, ME_a1, ME_a2, ME_a3, ME_a4, ME_a5, ME_r2, ME_r3, ME_r4, ME_r5, SH_gn, SH_asn, SH_asi, SH_pfn, Option.map_some, Nat.reduceEqDiff, Nat.one_ne_zero, Nat.reduceLT, Nat.reduceLeDiff, Nat.reduceAdd, Nat.reduceSub, Nat.reduceMul, nI_add, nI_leI, nI_ltI, nI_eq, z_eq, z_lt, z_le, z_gt, z_ge, ↓reduceIte, not_true_eq_false, not_false_eq_true, if_true, if_false, cmp_le, h, pk_sub, decide_true, decide_false]
  · simp (disch := first | omega | assumption | (refine b30 ?_; omega) | exact SH_isO _ _ _ | exact ME_isO _ _ _ _ _ _ | (rw [SH_gn _ _ _ _ (by omega)]; exact ME_isO _ _ _ _ _ _) | (refine nI_inR ?_ ?_ ?_ <;> omega)) only [x71, e71_0, e71_1, e71_4, e71_5, e71_6, e71_7, e71_10, e71_11, e71_12, e71_13, e71_14, e71_15, e71_16, e71_17, e71_18, e71_19, e71_20, e71_21, e71_22, e71_23, e71_24, e71_25, e71_26, e71_29, e71_30, e71_33, e71_34, kv_s, kh_s, kn_s, kc_v, kc_n, ME_isO, ME_f0, ME_f1, ME_f2, ME_f3, ME_f4, ME_f5, ME_f6, ME_f7, ME_f8, ME_a0, ME_a1, ME_a2, ME_a3, ME_a4, ME_a5, ME_r2, ME_r3, ME_r4, ME_r5, SH_gn, SH_asn, SH_asi, SH_pfn, Option.map_some, Nat.reduceEqDiff, Nat.one_ne_zero, Nat.reduceLT, Nat.reduceLeDiff, Nat.reduceAdd, Nat.reduceSub, Nat.reduceMul, nI_add, nI_leI, nI_ltI, nI_eq, z_eq, z_lt, z_le, z_gt, z_ge, ↓reduceIte, not_true_eq_false, not_false_eq_true, if_true, if_false, cmp_le, h, pk_sub, decide_true, decide_false, Bool.false_eq_true]
theorem s70 (p : Nat) (hp : p < 7) : ex 70 [.ref 39, .int (nI p)] (SH (ME H μ β fl fh fc) 1 a) = some (some (.int (nI (cnt (gapC (μ 3 p)) 19))), SH (ME H μ β fl fh fc) 1 a) := by
  have h := ev_loop (fun n => ev 70 4 [some (.ref 39), some (.int (nI p)), some (.int (nI (cnt (gapC (μ 3 p)) n))), some (.int (nI (n + 1)))] [] (SH (ME H μ β fl fh fc) 1 a)) 19 (fun n hn => by
    have h1 := s71 H a μ β fl fh fc (n + 1) p (by omega) (by omega) hp
    rw [e70_4]
    have e : cnt (gapC (μ 3 p)) (n + 1) = cnt (gapC (μ 3 p)) n + (if gapC (μ 3 p) (n + 1) then 1 else 0) := rfl
    rw [e]
    by_cases h : gapC (μ 3 p) (n + 1) = true
    · simp (disch := first | omega | assumption | (refine b30 ?_; omega) | exact SH_isO _ _ _ | exact ME_isO _ _ _ _ _ _ | (rw [SH_gn _ _ _ _ (by omega)]; exact ME_isO _ _ _ _ _ _) | (refine nI_inR ?_ ?_ ?_ <;> omega)) only [x70, e70_0, e70_1, e70_2, e70_3, e70_5, e70_7, e70_10, e70_11, e70_12, e70_13, e70_16, e70_19, e70_22, e70_25, e70_28, e70_29, kv_s, kh_s, kn_s, kc_v, kc_n, Nat.reduceEqDiff, Nat.one_ne_zero, Nat.reduceLT, Nat.reduceLeDiff, Nat.reduceAdd, Nat.reduceSub, Nat.reduceMul, nI_add, nI_leI, nI_ltI, nI_eq, z_eq, z_lt, z_le, z_gt, z_ge, ↓reduceIte, not_true_eq_false, not_false_eq_true, if_true, if_false, h1, bI_z, h, show ¬ 20 ≤ n + 1 by omega]
    · simp (disch := first | omega | assumption | (refine b30 ?_; omega) | exact SH_isO _ _ _ | exact ME_isO _ _ _ _ _ _ | (rw [SH_gn _ _ _ _ (by omega)]; exact ME_isO _ _ _ _ _ _) | (refine nI_inR ?_ ?_ ?_ <;> omega)) only [x70, e70_0, e70_1, e70_2, e70_3, e70_5, e70_7, e70_10, e70_11, e70_12, e70_13, e70_16, e70_19, e70_22, e70_25, e70_28, e70_29, kv_s, kh_s, kn_s, kc_v, kc_n, Nat.reduceEqDiff, Nat.one_ne_zero, Nat.reduceLT, Nat.reduceLeDiff, Nat.reduceAdd, Nat.reduceSub, Nat.reduceMul, nI_add, nI_leI, nI_ltI, nI_eq, z_eq, z_lt, z_le, z_gt, z_ge, ↓reduceIte, not_true_eq_false, not_false_eq_true, if_true, if_false, h1, bI_z, h, show ¬ 20 ≤ n + 1 by omega, Nat.add_zero, Bool.false_eq_true])
  have h0 : ex 70 [.ref 39, .int (nI p)] (SH (ME H μ β fl fh fc) 1 a) = ev 70 4 [some (.ref 39), some (.int (nI p)), some (.int (nI (cnt (gapC (μ 3 p)) 0))), some (.int (nI (0 + 1)))] [] (SH (ME H μ β fl fh fc) 1 a) := by
    simp (disch := first | omega | assumption | (refine b30 ?_; omega) | exact SH_isO _ _ _ | exact ME_isO _ _ _ _ _ _ | (rw [SH_gn _ _ _ _ (by omega)]; exact ME_isO _ _ _ _ _ _) | (refine nI_inR ?_ ?_ ?_ <;> omega)) only [x70, e70_0, e70_1, e70_2, e70_3, e70_5, e70_7, e70_10, e70_11, e70_12, e70_13, e70_16, e70_19, e70_22, e70_25, e70_28, e70_29, kv_s, kh_s, kn_s, kc_v, kc_n, Nat.reduceEqDiff, Nat.one_ne_zero, Nat.reduceLT, Nat.reduceLeDiff, Nat.reduceAdd, Nat.reduceSub, Nat.reduceMul, nI_add, nI_leI, nI_ltI, nI_eq, z_eq, z_lt, z_le, z_gt, z_ge, ↓reduceIte, not_true_eq_false, not_false_eq_true, if_true, if_false, Nat.zero_add]
    rfl
  rw [h0, h, e70_4]
  simp (disch := first | omega | assumption | (refine b30 ?_; omega) | exact SH_isO _ _ _ | exact ME_isO _ _ _ _ _ _ | (rw [SH_gn _ _ _ _ (by omega)]; exact ME_isO _ _ _ _ _ _) | (refine nI_inR ?_ ?_ ?_ <;> omega)) only [x70, e70_0, e70_1, e70_2, e70_3, e70_5, e70_7, e70_10, e70_11, e70_12, e70_13, e70_16, e70_19, e70_22, e70_25, e70_28, e70_29, kv_s, kh_s, kn_s, kc_v, kc_n, Nat.reduceEqDiff, Nat.one_ne_zero, Nat.reduceLT, Nat.reduceLeDiff, Nat.reduceAdd, Nat.reduceSub, Nat.reduceMul, nI_add, nI_leI, nI_ltI, nI_eq, z_eq, z_lt, z_le, z_gt, z_ge, ↓reduceIte, not_true_eq_false, not_false_eq_true, if_true, if_false]
theorem fst1_s (P : Nat → Bool) (n : Nat) (h : fst1 P n = none) : fst1 P (n + 1) = if P (n + 1) then some (n + 1) else none := by
  show (match fst1 P n with | some v => some v | none => if P (n + 1) then some (n + 1) else none) = _
  rw [h]
theorem fst1_k (P : Nat → Bool) (n v : Nat) (h : fst1 P n = some v) : ∀ j, fst1 P (n + j) = some v
  | 0 => h
  | j + 1 => by
    show (match fst1 P (n + j) with | some v => some v | none => if P (n + j + 1) then some (n + j + 1) else none) = _
    rw [fst1_k P n v h j]
theorem s72 (p : Nat) (hp : p < 7) : ex 72 [.ref 39, .int (nI p)] (SH (ME H μ β fl fh fc) 1 a) = some (some (.int (oI (fst1 (gapC (μ 3 p)) 19))), SH (ME H μ β fl fh fc) 1 a) := by
  have l1 : ∀ q n, n + q = 19 → fst1 (gapC (μ 3 p)) n = none → ev 72 2 [some (.ref 39), some (.int (nI p)), some (.int (nI (n + 1)))] [] (SH (ME H μ β fl fh fc) 1 a) = some (some (.int (oI (fst1 (gapC (μ 3 p)) 19))), SH (ME H μ β fl fh fc) 1 a) := by
    intro q
    induction q with
    | zero =>
      intro n hn hf
      rw [show n = 19 by omega] at hf ⊢
      rw [hf, e72_2]
      simp (disch := first | omega | assumption | (refine b30 ?_; omega) | exact SH_isO _ _ _ | exact ME_isO _ _ _ _ _ _ | (rw [SH_gn _ _ _ _ (by omega)]; exact ME_isO _ _ _ _ _ _) | (refine nI_inR ?_ ?_ ?_ <;> omega)) only [x72, e72_0, e72_1, e72_3, e72_5, e72_8, e72_9, e72_10, e72_11, e72_14, e72_17, e72_18, e72_19, e72_22, e72_25, e72_27, kv_s, kh_s, kn_s, kc_v, kc_n, Nat.reduceEqDiff, Nat.one_ne_zero, Nat.reduceLT, Nat.reduceLeDiff, Nat.reduceAdd, Nat.reduceSub, Nat.reduceMul, nI_add, nI_leI, nI_ltI, nI_eq, z_eq, z_lt, z_le, z_gt, z_ge, ↓reduceIte, not_true_eq_false, not_false_eq_true, if_true, if_false]
      rfl
    | succ q ih =>
      intro n hn hf
      have h1 := s71 H a μ β fl fh fc (n + 1) p (by omega) (by omega) hp
      have e := fst1_s _ n hf
      rw [e72_2]
      by_cases h : gapC (μ 3 p) (n + 1) = true
      · rw [if_pos h] at e
        have e2 := fst1_k _ (n + 1) (n + 1) e q
        rw [show n + 1 + q = 19 by omega] at e2
        rw [e2]
        simp (disch := first | omega | assumption | (refine b30 ?_; omega) | exact SH_isO _ _ _ | exact ME_isO _ _ _ _ _ _ | (rw [SH_gn _ _ _ _ (by omega)]; exact ME_isO _ _ _ _ _ _) | (refine nI_inR ?_ ?_ ?_ <;> omega)) only [x72, e72_0, e72_1, e72_3, e72_5, e72_8, e72_9, e72_10, e72_11, e72_14, e72_17, e72_18, e72_19, e72_22, e72_25, e72_27, kv_s, kh_s, kn_s, kc_v, kc_n, Nat.reduceEqDiff, Nat.one_ne_zero, Nat.reduceLT, Nat.reduceLeDiff, Nat.reduceAdd, Nat.reduceSub, Nat.reduceMul, nI_add, nI_leI, nI_ltI, nI_eq, z_eq, z_lt, z_le, z_gt, z_ge, ↓reduceIte, not_true_eq_false, not_false_eq_true, if_true, if_false, h1, bI_z, h, show ¬ 20 ≤ n + 1 by omega]
        rfl
      · rw [if_neg h] at e
        simp (disch := first | omega | assumption | (refine b30 ?_; omega) | exact SH_isO _ _ _ | exact ME_isO _ _ _ _ _ _ | (rw [SH_gn _ _ _ _ (by omega)]; exact ME_isO _ _ _ _ _ _) | (refine nI_inR ?_ ?_ ?_ <;> omega)) only [x72, e72_0, e72_1, e72_3, e72_5, e72_8, e72_9, e72_10, e72_11, e72_14, e72_17, e72_18, e72_19, e72_22, e72_25, e72_27, kv_s, kh_s, kn_s, kc_v, kc_n, Nat.reduceEqDiff, Nat.one_ne_zero, Nat.reduceLT, Nat.reduceLeDiff, Nat.reduceAdd, Nat.reduceSub, Nat.reduceMul, nI_add, nI_leI, nI_ltI, nI_eq, z_eq, z_lt, z_le, z_gt, z_ge, ↓reduceIte, not_true_eq_false, not_false_eq_true, if_true, if_false, h1, bI_z, h, show ¬ 20 ≤ n + 1 by omega]
        exact ih (n + 1) (by omega) e
  simp (disch := first | omega | assumption | (refine b30 ?_; omega) | exact SH_isO _ _ _ | exact ME_isO _ _ _ _ _ _ | (rw [SH_gn _ _ _ _ (by omega)]; exact ME_isO _ _ _ _ _ _) | (refine nI_inR ?_ ?_ ?_ <;> omega)) only [x72, e72_0, e72_1, e72_3, e72_5, e72_8, e72_9, e72_10, e72_11, e72_14, e72_17, e72_18, e72_19, e72_22, e72_25, e72_27, kv_s, kh_s, kn_s, kc_v, kc_n, Nat.reduceEqDiff, Nat.one_ne_zero, Nat.reduceLT, Nat.reduceLeDiff, Nat.reduceAdd, Nat.reduceSub, Nat.reduceMul, nI_add, nI_leI, nI_ltI, nI_eq, z_eq, z_lt, z_le, z_gt, z_ge, ↓reduceIte, not_true_eq_false, not_false_eq_true, if_true, if_false]
  exact l1 19 0 (by omega) rfl
theorem s74 (b : Nat → Nat) (k p : Nat) (h1 : 1 ≤ k) (hk : k < 21) (hp : p < 7) (hb : ∀ k, k < 21 → β p k = nI (b k) ∧ b k < 21) : ex 74 [.ref 39, .int (nI k), .int (nI p)] (SH (ME H μ β fl fh fc) 1 a) = some (some (.int (bI (gapO b k = true))), SH (ME H μ β fl fh fc) 1 a) := by
  have := rt74_0
  have := rt74_1
  have e1 := s69 H a μ β fl fh fc b k p hk hp hb
  have e2 := s69 H a μ β fl fh fc b (k - 1) p (by omega) hp hb
  unfold bI gapO
  by_cases q1 : k < b k
  · by_cases q2 : k - 1 < b (k - 1)
    · simp (disch := first | omega | assumption | (refine b30 ?_; omega) | exact SH_isO _ _ _ | exact ME_isO _ _ _ _ _ _ | (rw [SH_gn _ _ _ _ (by omega)]; exact ME_isO _ _ _ _ _ _) | (refine nI_inR ?_ ?_ ?_ <;> omega)) only [x74, e74_0, e74_1, e74_2, e74_3, e74_6, e74_9, e74_10, e74_11, e74_12, e74_13, e74_14, e74_17, e74_20, e74_21, e74_24, e74_25, kv_s, kh_s, kn_s, kc_v, kc_n, Nat.reduceEqDiff, Nat.one_ne_zero, Nat.reduceLT, Nat.reduceLeDiff, Nat.reduceAdd, Nat.reduceSub, Nat.reduceMul, nI_add, nI_leI, nI_ltI, nI_eq, z_eq, z_lt, z_le, z_gt, z_ge, ↓reduceIte, not_true_eq_false, not_false_eq_true, if_true, if_false, e1, e2, bI_z, pk_sub, q1, q2, decide_true, decide_false, Bool.not_true, Bool.and_false, Bool.false_eq_true]
    · simp (disch := first | omega | assumption | (refine b30 ?_; omega) | exact SH_isO _ _ _ | exact ME_isO _ _ _ _ _ _ | (rw [SH_gn _ _ _ _ (by omega)]; exact ME_isO _ _ _ _ _ _) | (refine nI_inR ?_ ?_ ?_ <;> omega)) only [x74, e74_0, e74_1, e74_2, e74_3, e74_6, e74_9, e74_10, e74_11, e74_12, e74_13, e74_14, e74_17, e74_20, e74_21, e74_24, e74_25, kv_s, kh_s, kn_s, kc_v, kc_n, Nat.reduceEqDiff, Nat.one_ne_zero, Nat.reduceLT, Nat.reduceLeDiff, Nat.reduceAdd, Nat.reduceSub, Nat.reduceMul, nI_add, nI_leI, nI_ltI, nI_eq, z_eq, z_lt, z_le, z_gt, z_ge, ↓reduceIte, not_true_eq_false, not_false_eq_true, if_true, if_false, e1, e2, bI_z, pk_sub, q1, q2, decide_true, decide_false, Bool.not_false, Bool.and_true]
  · simp (disch := first | omega | assumption | (refine b30 ?_; omega) | exact SH_isO _ _ _ | exact ME_isO _ _ _ _ _ _ | (rw [SH_gn _ _ _ _ (by omega)]; exact ME_isO _ _ _ _ _ _) | (refine nI_inR ?_ ?_ ?_ <;> omega)) only [x74, e74_0, e74_1, e74_2, e74_3, e74_6, e74_9, e74_10, e74_11, e74_12, e74_13, e74_14, e74_17, e74_20, e74_21, e74_24, e74_25, kv_s, kh_s, kn_s, kc_v, kc_n, Nat.reduceEqDiff, Nat.one_ne_zero, Nat.reduceLT, Nat.reduceLeDiff, Nat.reduceAdd, Nat.reduceSub, Nat.reduceMul, nI_add, nI_leI, nI_ltI, nI_eq, z_eq, z_lt, z_le, z_gt, z_ge, ↓reduceIte, not_true_eq_false, not_false_eq_true, if_true, if_false, e1, e2, bI_z, pk_sub, q1, decide_true, decide_false, Bool.false_and, Bool.false_eq_true]
theorem s73 (b : Nat → Nat) (p : Nat) (hp : p < 7) (hb : ∀ k, k < 21 → β p k = nI (b k) ∧ b k < 21) : ex 73 [.ref 39, .int (nI p)] (SH (ME H μ β fl fh fc) 1 a) = some (some (.int (nI (cnt (gapO b) 20))), SH (ME H μ β fl fh fc) 1 a) := by
  have h := ev_loop (fun n => ev 73 4 [some (.ref 39), some (.int (nI p)), some (.int (nI (cnt (gapO b) n))), some (.int (nI (n + 1)))] [] (SH (ME H μ β fl fh fc) 1 a)) 20 (fun n hn => by
    have h1 := s74 H a μ β fl fh fc b (n + 1) p (by omega) (by omega) hp hb
    rw [e73_4]
    have e : cnt (gapO b) (n + 1) = cnt (gapO b) n + (if gapO b (n + 1) then 1 else 0) := rfl
    rw [e]
    by_cases h : gapO b (n + 1) = true
    · simp (disch := first | omega | assumption | (refine b30 ?_; omega) | exact SH_isO _ _ _ | exact ME_isO _ _ _ _ _ _ | (rw [SH_gn _ _ _ _ (by omega)]; exact ME_isO _ _ _ _ _ _) | (refine nI_inR ?_ ?_ ?_ <;> omega)) only [x73, e73_0, e73_1, e73_2, e73_3, e73_5, e73_7, e73_10, e73_11, e73_12, e73_13, e73_16, e73_19, e73_22, e73_25, e73_28, e73_29, kv_s, kh_s, kn_s, kc_v, kc_n, Nat.reduceEqDiff, Nat.one_ne_zero, Nat.reduceLT, Nat.reduceLeDiff, Nat.reduceAdd, Nat.reduceSub, Nat.reduceMul, nI_add, nI_leI, nI_ltI, nI_eq, z_eq, z_lt, z_le, z_gt, z_ge, ↓reduceIte, not_true_eq_false, not_false_eq_true, if_true, if_false, h1, bI_z, h, show ¬ 20 < n + 1 by omega]
    · simp (disch := first | omega | assumption | (refine b30 ?_; omega) | exact SH_isO _ _ _ | exact ME_isO _ _ _ _ _ _ | (rw [SH_gn _ _ _ _ (by omega)]; exact ME_isO _ _ _ _ _ _) | (refine nI_inR ?_ ?_ ?_ <;> omega)) only [x73, e73_0, e73_1, e73_2, e73_3, e73_5, e73_7, e73_10, e73_11, e73_12, e73_13, e73_16, e73_19, e73_22, e73_25, e73_28, e73_29, kv_s, kh_s, kn_s, kc_v, kc_n, Nat.reduceEqDiff, Nat.one_ne_zero, Nat.reduceLT, Nat.reduceLeDiff, Nat.reduceAdd, Nat.reduceSub, Nat.reduceMul, nI_add, nI_leI, nI_ltI, nI_eq, z_eq, z_lt, z_le, z_gt, z_ge, ↓reduceIte, not_true_eq_false, not_false_eq_true, if_true, if_false, h1, bI_z, h, show ¬ 20 < n + 1 by omega, Nat.add_zero, Bool.false_eq_true])
  have h0 : ex 73 [.ref 39, .int (nI p)] (SH (ME H μ β fl fh fc) 1 a) = ev 73 4 [some (.ref 39), some (.int (nI p)), some (.int (nI (cnt (gapO b) 0))), some (.int (nI (0 + 1)))] [] (SH (ME H μ β fl fh fc) 1 a) := by
    simp (disch := first | omega | assumption | (refine b30 ?_; omega) | exact SH_isO _ _ _ | exact ME_isO _ _ _ _ _ _ | (rw [SH_gn _ _ _ _ (by omega)]; exact ME_isO _ _ _ _ _ _) | (refine nI_inR ?_ ?_ ?_ <;> omega)) only [x73, e73_0, e73_1, e73_2, e73_3, e73_5, e73_7, e73_10, e73_11, e73_12, e73_13, e73_16, e73_19, e73_22, e73_25, e73_28, e73_29, kv_s, kh_s, kn_s, kc_v, kc_n, Nat.reduceEqDiff, Nat.one_ne_zero, Nat.reduceLT, Nat.reduceLeDiff, Nat.reduceAdd, Nat.reduceSub, Nat.reduceMul, nI_add, nI_leI, nI_ltI, nI_eq, z_eq, z_lt, z_le, z_gt, z_ge, ↓reduceIte, not_true_eq_false, not_false_eq_true, if_true, if_false, Nat.zero_add]
    rfl
  rw [h0, h, e73_4]
  simp (disch := first | omega | assumption | (refine b30 ?_; omega) | exact SH_isO _ _ _ | exact ME_isO _ _ _ _ _ _ | (rw [SH_gn _ _ _ _ (by omega)]; exact ME_isO _ _ _ _ _ _) | (refine nI_inR ?_ ?_ ?_ <;> omega)) only [x73, e73_0, e73_1, e73_2, e73_3, e73_5, e73_7, e73_10, e73_11, e73_12, e73_13, e73_16, e73_19, e73_22, e73_25, e73_28, e73_29, kv_s, kh_s, kn_s, kc_v, kc_n, Nat.reduceEqDiff, Nat.one_ne_zero, Nat.reduceLT, Nat.reduceLeDiff, Nat.reduceAdd, Nat.reduceSub, Nat.reduceMul, nI_add, nI_leI, nI_ltI, nI_eq, z_eq, z_lt, z_le, z_gt, z_ge, ↓reduceIte, not_true_eq_false, not_false_eq_true, if_true, if_false]
theorem s75 (b : Nat → Nat) (p : Nat) (hp : p < 7) (hb : ∀ k, k < 21 → β p k = nI (b k) ∧ b k < 21) : ex 75 [.ref 39, .int (nI p)] (SH (ME H μ β fl fh fc) 1 a) = some (some (.int (oI (fst1 (gapO b) 20))), SH (ME H μ β fl fh fc) 1 a) := by
  have l1 : ∀ q n, n + q = 20 → fst1 (gapO b) n = none → ev 75 2 [some (.ref 39), some (.int (nI p)), some (.int (nI (n + 1)))] [] (SH (ME H μ β fl fh fc) 1 a) = some (some (.int (oI (fst1 (gapO b) 20))), SH (ME H μ β fl fh fc) 1 a) := by
    intro q
    induction q with
    | zero =>
      intro n hn hf
      rw [show n = 20 by omega] at hf ⊢
      rw [hf, e75_2]
      simp (disch := first | omega | assumption | (refine b30 ?_; omega) | exact SH_isO _ _ _ | exact ME_isO _ _ _ _ _ _ | (rw [SH_gn _ _ _ _ (by omega)]; exact ME_isO _ _ _ _ _ _) | (refine nI_inR ?_ ?_ ?_ <;> omega)) only [x75, e75_0, e75_1, e75_3, e75_5, e75_8, e75_9, e75_10, e75_11, e75_14, e75_17, e75_18, e75_19, e75_22, e75_25, e75_27, kv_s, kh_s, kn_s, kc_v, kc_n, Nat.reduceEqDiff, Nat.one_ne_zero, Nat.reduceLT, Nat.reduceLeDiff, Nat.reduceAdd, Nat.reduceSub, Nat.reduceMul, nI_add, nI_leI, nI_ltI, nI_eq, z_eq, z_lt, z_le, z_gt, z_ge, ↓reduceIte, not_true_eq_false, not_false_eq_true, if_true, if_false]
      rfl
    | succ q ih =>
      intro n hn hf
      have h1 := s74 H a μ β fl fh fc b (n + 1) p (by omega) (by omega) hp hb
      have e := fst1_s _ n hf
      rw [e75_2]
      by_cases h : gapO b (n + 1) = true
      · rw [if_pos h] at e
        have e2 := fst1_k _ (n + 1) (n + 1) e q
        rw [show n + 1 + q = 20 by omega] at e2
        rw [e2]
        simp (disch := first | omega | assumption | (refine b30 ?_; omega) | exact SH_isO _ _ _ | exact ME_isO _ _ _ _ _ _ | (rw [SH_gn _ _ _ _ (by omega)]; exact ME_isO _ _ _ _ _ _) | (refine nI_inR ?_ ?_ ?_ <;> omega)) only [x75, e75_0, e75_1, e75_3, e75_5, e75_8, e75_9, e75_10, e75_11, e75_14, e75_17, e75_18, e75_19, e75_22, e75_25, e75_27, kv_s, kh_s, kn_s, kc_v, kc_n, Nat.reduceEqDiff, Nat.one_ne_zero, Nat.reduceLT, Nat.reduceLeDiff, Nat.reduceAdd, Nat.reduceSub, Nat.reduceMul, nI_add, nI_leI, nI_ltI, nI_eq, z_eq, z_lt, z_le, z_gt, z_ge, ↓reduceIte, not_true_eq_false, not_false_eq_true, if_true, if_false, h1, bI_z, h, show ¬ 20 < n + 1 by omega]
        rfl
      · rw [if_neg h] at e
        simp (disch := first | omega | assumption | (refine b30 ?_; omega) | exact SH_isO _ _ _ | exact ME_isO _ _ _ _ _ _ | (rw [SH_gn _ _ _ _ (by omega)]; exact ME_isO _ _ _ _ _ _) | (refine nI_inR ?_ ?_ ?_ <;> omega)) only [x75, e75_0, e75_1, e75_3, e75_5, e75_8, e75_9, e75_10, e75_11, e75_14, e75_17, e75_18, e75_19, e75_22, e75_25, e75_27, kv_s, kh_s, kn_s, kc_v, kc_n, Nat.reduceEqDiff, Nat.one_ne_zero, Nat.reduceLT, Nat.reduceLeDiff, Nat.reduceAdd, Nat.reduceSub, Nat.reduceMul, nI_add, nI_leI, nI_ltI, nI_eq, z_eq, z_lt, z_le, z_gt, z_ge, ↓reduceIte, not_true_eq_false, not_false_eq_true, if_true, if_false, h1, bI_z, h, show ¬ 20 < n + 1 by omega]
        exact ih (n + 1) (by omega) e
  simp (disch := first | omega | assumption | (refine b30 ?_; omega) | exact SH_isO _ _ _ | exact ME_isO _ _ _ _ _ _ | (rw [SH_gn _ _ _ _ (by omega)]; exact ME_isO _ _ _ _ _ _) | (refine nI_inR ?_ ?_ ?_ <;> omega)) only [x75, e75_0, e75_1, e75_3, e75_5, e75_8, e75_9, e75_10, e75_11, e75_14, e75_17, e75_18, e75_19, e75_22, e75_25, e75_27, kv_s, kh_s, kn_s, kc_v, kc_n, Nat.reduceEqDiff, Nat.one_ne_zero, Nat.reduceLT, Nat.reduceLeDiff, Nat.reduceAdd, Nat.reduceSub, Nat.reduceMul, nI_add, nI_leI, nI_ltI, nI_eq, z_eq, z_lt, z_le, z_gt, z_ge, ↓reduceIte, not_true_eq_false, not_false_eq_true, if_true, if_false]
  exact l1 20 0 (by omega) rfl
theorem newL_f (b : Nat → Nat) (k n : Nat) (h : newL b k n = false) : ∀ j, newL b k (n + j) = false
  | 0 => h
  | j + 1 => by
    show (newL b k (n + j) && _) = false
    rw [newL_f b k n h j]
    rfl
theorem s77 (b : Nat → Nat) (k p : Nat) (hk : k < 21) (hp : p < 7) (hb : ∀ k, k < 21 → β p k = nI (b k) ∧ b k < 21) : ex 77 [.ref 39, .int (nI k), .int (nI p)] (SH (ME H μ β fl fh fc) 1 a) = some (some (.int (bI (newL b k k = true))), SH (ME H μ β fl fh fc) 1 a) := by
  have := rt77_0
  have := rt77_1
  have hbk := hb k hk
  have l1 : ∀ q n, n + q = k → newL b k n = true → ev 77 2 [some (.ref 39), some (.int (nI k)), some (.int (nI p)), some (.int (nI n))] [] (SH (ME H μ β fl fh fc) 1 a) = some (some (.int (bI (newL b k k = true))), SH (ME H μ β fl fh fc) 1 a) := by
    intro q
    induction q with
    | zero =>
      intro n hn hf
      rw [show n = k by omega] at hf ⊢
      unfold bI
      rw [if_pos hf, e77_2]
      simp (disch := first | omega | assumption | (refine b30 ?_; omega) | exact SH_isO _ _ _ | exact ME_isO _ _ _ _ _ _ | (rw [SH_gn _ _ _ _ (by omega)]; exact ME_isO _ _ _ _ _ _) | (refine nI_inR ?_ ?_ ?_ <;> omega)) only [x77, e77_0, e77_1, e77_3, e77_4, e77_7, e77_8, e77_9, e77_10, e77_13, e77_16, e77_17, e77_20, e77_21, e77_22, e77_23, e77_24, e77_25, e77_28, e77_29, e77_30, e77_31, e77_32, e77_35, e77_36, e77_37, e77_40, e77_43, e77_44, kv_s, kh_s, kn_s, kc_v, kc_n, Nat.reduceEqDiff, Nat.one_ne_zero, Nat.reduceLT, Nat.reduceLeDiff, Nat.reduceAdd, Nat.reduceSub, Nat.reduceMul, nI_add, nI_leI, nI_ltI, nI_eq, z_eq, z_lt, z_le, z_gt, z_ge, ↓reduceIte, not_true_eq_false, not_false_eq_true, if_true, if_false, show k ≤ k by omega]
    | succ q ih =>
      intro n hn hf
      have hbn := hb n (by omega)
      have e1 := s69 H a μ β fl fh fc b n p (by omega) hp hb
      have e : newL b k (n + 1) = (newL b k n && !(decide (n < b n) && decide (b n = b k))) := rfl
      rw [hf, Bool.true_and] at e
      rw [e77_2]
      by_cases q1 : n < b n
      · by_cases q2 : b n = b k
        · rw [decide_eq_true q1, decide_eq_true q2] at e
          have e2 := newL_f b k (n + 1) e q
          rw [show n + 1 + q = k by omega] at e2
          unfold bI
          rw [e2]
          simp (disch := first | omega | assumption | (refine b30 ?_; omega) | exact SH_isO _ _ _ | exact ME_isO _ _ _ _ _ _ | (rw [SH_gn _ _ _ _ (by omega)]; exact ME_isO _ _ _ _ _ _) | (refine nI_inR ?_ ?_ ?_ <;> omega)) only [x77, e77_0, e77_1, e77_3, e77_4, e77_7, e77_8, e77_9, e77_10, e77_13, e77_16, e77_17, e77_20, e77_21, e77_22, e77_23, e77_24, e77_25, e77_28, e77_29, e77_30, e77_31, e77_32, e77_35, e77_36, e77_37, e77_40, e77_43, e77_44, kv_s, kh_s, kn_s, kc_v, kc_n, ME_isO, ME_f0, ME_f1, ME_f2, ME_f3, ME_f4, ME_f5, ME_f6, ME_f7, ME_f8, ME_a0, ME_a1, ME_a2, ME_a3, ME_a4, ME_a5, ME_r2, ME_r3, ME_r4, ME_r5, SH_gn, SH_asn, SH_asi, SH_pfn, Option.map_some, Nat.reduceEqDiff, Nat.one_ne_zero, Nat.reduceLT, Nat.reduceLeDiff, Nat.reduceAdd, Nat.reduceSub, Nat.reduceMul, nI_add, nI_leI, nI_ltI, nI_eq, z_eq, z_lt, z_le, z_gt, z_ge, ↓reduceIte, not_true_eq_false, not_false_eq_true, if_true, if_false, e1, bI_z, q1, q2, hbn.1, hbk.1, show ¬ k ≤ n by omega, show n < b k by omega, Bool.false_eq_true]
        · rw [decide_eq_true q1, decide_eq_false q2] at e
          simp (disch := first | omega | assumption | (refine b30 ?_; omega) | exact SH_isO _ _ _ | exact ME_isO _ _ _ _ _ _ | (rw [SH_gn _ _ _ _ (by omega)]; exact ME_isO _ _ _ _ _ _) | (refine nI_inR ?_ ?_ ?_ <;> omega)) only [x77, e77_0, e77_1, e77_3, e77_4, e77_7, e77_8, e77_9, e77_10, e77_13, e77_16, e77_17, e77_20, e77_21, e77_22, e77_23, e77_24, e77_25, e77_28, e77_29, e77_30, e77_31, e77_32, e77_35, e77_36, e77_37, e77_40, e77_43, e77_44, kv_s, kh_s, kn_s, kc_v, kc_n, ME_isO, ME_f0, ME_f1, ME_f2, ME_f3, ME_f4, ME_f5, ME_f6, ME_f7, ME_f8, ME_a0, ME_a1, ME_a2, ME_a3, ME_a4, ME_a5, ME_r2, ME_r3, ME_r4, ME_r5, SH_gn, SH_asn, SH_asi, SH_pfn, Option.map_some, Nat.reduceEqDiff, Nat.one_ne_zero, Nat.reduceLT, Nat.reduceLeDiff, Nat.reduceAdd, Nat.reduceSub, Nat.reduceMul, nI_add, nI_leI, nI_ltI, nI_eq, z_eq, z_lt, z_le, z_gt, z_ge, ↓reduceIte, not_true_eq_false, not_false_eq_true, if_true, if_false, e1, bI_z, q1, q2, hbn.1, hbk.1, show ¬ k ≤ n by omega]
          exact ih (n + 1) (by omega) e
      · rw [decide_eq_false q1] at e
        simp (disch := first | omega | assumption | (refine b30 ?_; omega) | exact SH_isO _ _ _ | exact ME_isO _ _ _ _ _ _ | (rw [SH_gn _ _ _ _ (by omega)]; exact ME_isO _ _ _ _ _ _) | (refine nI_inR ?_ ?_ ?_ <;> omega)) only [x77, e77_0, e77_1, e77_3, e77_4, e77_7, e77_8, e77_9, e77_10, e77_13, e77_16, e77_17, e77_20, e77_21, e77_22, e77_23, e77_24, e77_25, e77_28, e77_29, e77_30, e77_31, e77_32, e77_35, e77_36, e77_37, e77_40, e77_43, e77_44, kv_s, kh_s, kn_s, kc_v, kc_n, ME_isO, ME_f0, ME_f1, ME_f2, ME_f3, ME_f4, ME_f5, ME_f6, ME_f7, ME_f8, ME_a0, ME_a1, ME_a2, ME_a3, ME_a4, ME_a5, ME_r2, ME_r3, ME_r4, ME_r5, SH_gn, SH_asn, SH_asi, SH_pfn, Option.map_some, Nat.reduceEqDiff, Nat.one_ne_zero, Nat.reduceLT, Nat.reduceLeDiff, Nat.reduceAdd, Nat.reduceSub, Nat.reduceMul, nI_add, nI_leI, nI_ltI, nI_eq, z_eq, z_lt, z_le, z_gt, z_ge, ↓reduceIte, not_true_eq_false, not_false_eq_true, if_true, if_false, e1, bI_z, q1, show ¬ k ≤ n by omega]
        exact ih (n + 1) (by omega) e
  simp (disch := first | omega | assumption | (refine b30 ?_; omega) | exact SH_isO _ _ _ | exact ME_isO _ _ _ _ _ _ | (rw [SH_gn _ _ _ _ (by omega)]; exact ME_isO _ _ _ _ _ _) | (refine nI_inR ?_ ?_ ?_ <;> omega)) only [x77, e77_0, e77_1, e77_3, e77_4, e77_7, e77_8, e77_9, e77_10, e77_13, e77_16, e77_17, e77_20, e77_21, e77_22, e77_23, e77_24, e77_25, e77_28, e77_29, e77_30, e77_31, e77_32, e77_35, e77_36, e77_37, e77_40, e77_43, e77_44, kv_s, kh_s, kn_s, kc_v, kc_n, Nat.reduceEqDiff, Nat.one_ne_zero, Nat.reduceLT, Nat.reduceLeDiff, Nat.reduceAdd, Nat.reduceSub, Nat.reduceMul, nI_add, nI_leI, nI_ltI, nI_eq, z_eq, z_lt, z_le, z_gt, z_ge, ↓reduceIte, not_true_eq_false, not_false_eq_true, if_true, if_false]
  exact l1 k 0 (by omega) rfl
theorem s76 (b : Nat → Nat) (p : Nat) (hp : p < 7) (hb : ∀ k, k < 21 → β p k = nI (b k) ∧ b k < 21) : ex 76 [.ref 39, .int (nI p)] (SH (ME H μ β fl fh fc) 1 a) = some (some (.int (nI (unl b 21))), SH (ME H μ β fl fh fc) 1 a) := by
  have h := ev_loop (fun n => ev 76 4 [some (.ref 39), some (.int (nI p)), some (.int (nI (unl b n))), some (.int (nI n))] [] (SH (ME H μ β fl fh fc) 1 a)) 21 (fun n hn => by
    have e1 := s69 H a μ β fl fh fc b n p (by omega) hp hb
    have e2 := s77 H a μ β fl fh fc b n p (by omega) hp hb
    rw [e76_4]
    have e : unl b (n + 1) = unl b n + (if (decide (n < b n) && newL b n n) = true then 1 else 0) := rfl
    rw [e]
    by_cases q1 : n < b n
    · by_cases q2 : newL b n n = true
      · simp (disch := first | omega | assumption | (refine b30 ?_; omega) | exact SH_isO _ _ _ | exact ME_isO _ _ _ _ _ _ | (rw [SH_gn _ _ _ _ (by omega)]; exact ME_isO _ _ _ _ _ _) | (refine nI_inR ?_ ?_ ?_ <;> omega)) only [x76, e76_0, e76_1, e76_2, e76_3, e76_5, e76_7, e76_10, e76_11, e76_12, e76_13, e76_16, e76_19, e76_20, e76_21, e76_22, e76_25, e76_28, e76_31, e76_34, e76_37, e76_38, kv_s, kh_s, kn_s, kc_v, kc_n, Nat.reduceEqDiff, Nat.one_ne_zero, Nat.reduceLT, Nat.reduceLeDiff, Nat.reduceAdd, Nat.reduceSub, Nat.reduceMul, nI_add, nI_leI, nI_ltI, nI_eq, z_eq, z_lt, z_le, z_gt, z_ge, ↓reduceIte, not_true_eq_false, not_false_eq_true, if_true, if_false, e1, e2, bI_z, q1, q2, show ¬ 20 < n by omega, decide_true, Bool.and_self]
      · simp (disch := first | omega | assumption | (refine b30 ?_; omega) | exact SH_isO _ _ _ | exact ME_isO _ _ _ _ _ _ | (rw [SH_gn _ _ _ _ (by omega)]; exact ME_isO _ _ _ _ _ _) | (refine nI_inR ?_ ?_ ?_ <;> omega)) only [x76, e76_0, e76_1, e76_2, e76_3, e76_5, e76_7, e76_10, e76_11, e76_12, e76_13, e76_16, e76_19, e76_20, e76_21, e76_22, e76_25, e76_28, e76_31, e76_34, e76_37, e76_38, kv_s, kh_s, kn_s, kc_v, kc_n, Nat.reduceEqDiff, Nat.one_ne_zero, Nat.reduceLT, Nat.reduceLeDiff, Nat.reduceAdd, Nat.reduceSub, Nat.reduceMul, nI_add, nI_leI, nI_ltI, nI_eq, z_eq, z_lt, z_le, z_gt, z_ge, ↓reduceIte, not_true_eq_false, not_false_eq_true, if_true, if_false, e1, e2, bI_z, q1, q2, show ¬ 20 < n by omega, decide_true, Bool.true_and, Nat.add_zero, Bool.false_eq_true]
    · simp (disch := first | omega | assumption | (refine b30 ?_; omega) | exact SH_isO _ _ _ | exact ME_isO _ _ _ _ _ _ | (rw [SH_gn _ _ _ _ (by omega)]; exact ME_isO _ _ _ _ _ _) | (refine nI_inR ?_ ?_ ?_ <;> omega)) only [x76, e76_0, e76_1, e76_2, e76_3, e76_5, e76_7, e76_10, e76_11, e76_12, e76_13, e76_16, e76_19, e76_20, e76_21, e76_22, e76_25, e76_28, e76_31, e76_34, e76_37, e76_38, kv_s, kh_s, kn_s, kc_v, kc_n, Nat.reduceEqDiff, Nat.one_ne_zero, Nat.reduceLT, Nat.reduceLeDiff, Nat.reduceAdd, Nat.reduceSub, Nat.reduceMul, nI_add, nI_leI, nI_ltI, nI_eq, z_eq, z_lt, z_le, z_gt, z_ge, ↓reduceIte, not_true_eq_false, not_false_eq_true, if_true, if_false, e1, e2, bI_z, q1, show ¬ 20 < n by omega, decide_false, Bool.false_and, Bool.false_eq_true, Nat.add_zero])
  have h0 : ex 76 [.ref 39, .int (nI p)] (SH (ME H μ β fl fh fc) 1 a) = ev 76 4 [some (.ref 39), some (.int (nI p)), some (.int (nI (unl b 0))), some (.int (nI 0))] [] (SH (ME H μ β fl fh fc) 1 a) := by
    simp (disch := first | omega | assumption | (refine b30 ?_; omega) | exact SH_isO _ _ _ | exact ME_isO _ _ _ _ _ _ | (rw [SH_gn _ _ _ _ (by omega)]; exact ME_isO _ _ _ _ _ _) | (refine nI_inR ?_ ?_ ?_ <;> omega)) only [x76, e76_0, e76_1, e76_2, e76_3, e76_5, e76_7, e76_10, e76_11, e76_12, e76_13, e76_16, e76_19, e76_20, e76_21, e76_22, e76_25, e76_28, e76_31, e76_34, e76_37, e76_38, kv_s, kh_s, kn_s, kc_v, kc_n, Nat.reduceEqDiff, Nat.one_ne_zero, Nat.reduceLT, Nat.reduceLeDiff, Nat.reduceAdd, Nat.reduceSub, Nat.reduceMul, nI_add, nI_leI, nI_ltI, nI_eq, z_eq, z_lt, z_le, z_gt, z_ge, ↓reduceIte, not_true_eq_false, not_false_eq_true, if_true, if_false]
    rfl
  rw [h0, h, e76_4]
  simp (disch := first | omega | assumption | (refine b30 ?_; omega) | exact SH_isO _ _ _ | exact ME_isO _ _ _ _ _ _ | (rw [SH_gn _ _ _ _ (by omega)]; exact ME_isO _ _ _ _ _ _) | (refine nI_inR ?_ ?_ ?_ <;> omega)) only [x76, e76_0, e76_1, e76_2, e76_3, e76_5, e76_7, e76_10, e76_11, e76_12, e76_13, e76_16, e76_19, e76_20, e76_21, e76_22, e76_25, e76_28, e76_31, e76_34, e76_37, e76_38, kv_s, kh_s, kn_s, kc_v, kc_n, Nat.reduceEqDiff, Nat.one_ne_zero, Nat.reduceLT, Nat.reduceLeDiff, Nat.reduceAdd, Nat.reduceSub, Nat.reduceMul, nI_add, nI_leI, nI_ltI, nI_eq, z_eq, z_lt, z_le, z_gt, z_ge, ↓reduceIte, not_true_eq_false, not_false_eq_true, if_true, if_false]
end
