-- PART 26: the means' methods, first
/-- writes behind a shop -/
theorem SH_setn (H : pi_H) (o : Nat) (a : sT) (k : Nat) (h : k < o ∨ o + 6 ≤ k) (e : pi_E) : pi_set (SH H o a) k e = SH (pi_set H k e) o a := OV_setn _ _ _ _ _ h _
theorem SH_asn (H : pi_H) (o : Nat) (a : sT) (k : Nat) (h : k < o ∨ o + 6 ≤ k) (i : Int32) (x : Int64) : pi_as (SH H o a) k i (.long x) 3 = (pi_as H k i (.long x) 3).map (fun h => SH h o a) := by
  unfold pi_as
  rw [SH_gn _ _ _ _ h]
  cases hg : pi_get H k with
  | none => rfl
  | some e =>
    rcases e with ⟨t, n, f⟩ | ⟨c, fs⟩
    · rcases f with f | f | f | f | f
      · rfl
      · dsimp only
        split
        · simp only [Option.map_some, SH_setn _ _ _ _ h]
        · rfl
      · rfl
      · rfl
      · rfl
    · rfl
theorem SH_asi (H : pi_H) (o : Nat) (a : sT) (k : Nat) (h : k < o ∨ o + 6 ≤ k) (i : Int32) (x : Int32) : pi_as (SH H o a) k i (.int x) 0 = (pi_as H k i (.int x) 0).map (fun h => SH h o a) := by
  unfold pi_as
  rw [SH_gn _ _ _ _ h]
  cases hg : pi_get H k with
  | none => rfl
  | some e =>
    rcases e with ⟨t, n, f⟩ | ⟨c, fs⟩
    · rcases f with f | f
      · dsimp only
        (repeat' split) <;> simp_all [SH_setn _ _ _ _ h]
      · rcases f with f | f | f | f <;> rfl
    · rfl
theorem SH_pfn (H : pi_H) (o : Nat) (a : sT) (k : Nat) (h : k < o ∨ o + 6 ≤ k) (c j : Nat) (v : Value) : pi_pf (SH H o a) k c j v = (pi_pf H k c j v).map (fun h => SH h o a) := by
  unfold pi_pf
  rw [SH_gn _ _ _ _ h]
  cases hg : pi_get H k with
  | none => rfl
  | some e =>
    rcases e with ⟨t, n, f⟩ | ⟨c', fs⟩
    · rfl
    · dsimp only
      split
      · simp only [Option.map_some, SH_setn _ _ _ _ h]
      · rfl
/-- the sum of weights to the power n -/
def pw (a : sT) : Nat → Int64
  | 0 => lN 1
  | n + 1 => pw a n * lN (wsum a)
/-- what level y costs behind the order, n periods behind this one, whose means are f -/
def cb (a : sT) (f : Nat → Int64) (n y : Nat) : Int64 := ppS a y 7 * pw a n + rsS a f y 7
section
variable (H : pi_H) (a : sT) (μ : lT) (β : bT) (fl fh : Int32) (fc : Int64)
theorem s52 (s p : Nat) (hs : s < 21) (hp : p < 7) : ex 52 [.ref 39, .int (nI s), .int (nI p)] (SH (ME H μ β fl fh fc) 1 a) = some (some (.long (μ 2 p s)), SH (ME H μ β fl fh fc) 1 a) := by
  simp (disch := first | omega | assumption | (refine b30 ?_; omega) | exact SH_isO _ _ _ | exact ME_isO _ _ _ _ _ _ | (rw [SH_gn _ _ _ _ (by omega)]; exact ME_isO _ _ _ _ _ _) | (refine nI_inR ?_ ?_ ?_ <;> omega)) only [x52, e52_0, e52_1, e52_4, e52_5, e52_6, e52_7, e52_8, kv_s, kh_s, kn_s, kc_v, kc_n, ME_isO, ME_f0, ME_f1, ME_f2, ME_f3, ME_f4, ME_f5, ME_f6, ME_f7, ME_f8, ME_a0, ME_a1, ME_a2, ME_a3, ME_a4, ME_a5, ME_r2, ME_r3, ME_r4, ME_r5, SH_gn, SH_asn, SH_asi, SH_pfn, Option.map_some]
theorem s53 (p : Nat) (hp : p < 7) : ex 53 [.ref 39, .int (nI p)] (SH (ME H μ β fl fh fc) 1 a) = some (some (.long (μ 0 0 p)), SH (ME H μ β fl fh fc) 1 a) := by
  simp (disch := first | omega | assumption | (refine b30 ?_; omega) | exact SH_isO _ _ _ | exact ME_isO _ _ _ _ _ _ | (rw [SH_gn _ _ _ _ (by omega)]; exact ME_isO _ _ _ _ _ _) | (refine nI_inR ?_ ?_ ?_ <;> omega)) only [x53, e53_0, e53_1, e53_4, e53_5, e53_6, kv_s, kh_s, kn_s, kc_v, kc_n, ME_isO, ME_f0, ME_f1, ME_f2, ME_f3, ME_f4, ME_f5, ME_f6, ME_f7, ME_f8, ME_a0, ME_a1, ME_a2, ME_a3, ME_a4, ME_a5, ME_r2, ME_r3, ME_r4, ME_r5, SH_gn, SH_asn, SH_asi, SH_pfn, Option.map_some]
theorem s58 (s p : Nat) (hs : s < 21) (hp : p < 7) : ex 58 [.ref 39, .int (nI s), .int (nI p)] (SH (ME H μ β fl fh fc) 1 a) = some (some (.int (β p s)), SH (ME H μ β fl fh fc) 1 a) := by
  simp (disch := first | omega | assumption | (refine b30 ?_; omega) | exact SH_isO _ _ _ | exact ME_isO _ _ _ _ _ _ | (rw [SH_gn _ _ _ _ (by omega)]; exact ME_isO _ _ _ _ _ _) | (refine nI_inR ?_ ?_ ?_ <;> omega)) only [x58, e58_0, e58_1, e58_4, e58_5, e58_6, e58_7, e58_8, kv_s, kh_s, kn_s, kc_v, kc_n, ME_isO, ME_f0, ME_f1, ME_f2, ME_f3, ME_f4, ME_f5, ME_f6, ME_f7, ME_f8, ME_a0, ME_a1, ME_a2, ME_a3, ME_a4, ME_a5, ME_r2, ME_r3, ME_r4, ME_r5, SH_gn, SH_asn, SH_asi, SH_pfn, Option.map_some]
theorem s62 (s p : Nat) (hs : s < 21) (hp : p < 7) : ex 62 [.ref 39, .int (nI s), .int (nI p)] (SH (ME H μ β fl fh fc) 1 a) = some (some (.long (μ 4 p s)), SH (ME H μ β fl fh fc) 1 a) := by
  simp (disch := first | omega | assumption | (refine b30 ?_; omega) | exact SH_isO _ _ _ | exact ME_isO _ _ _ _ _ _ | (rw [SH_gn _ _ _ _ (by omega)]; exact ME_isO _ _ _ _ _ _) | (refine nI_inR ?_ ?_ ?_ <;> omega)) only [x62, e62_0, e62_1, e62_4, e62_5, e62_6, e62_7, e62_8, kv_s, kh_s, kn_s, kc_v, kc_n, ME_isO, ME_f0, ME_f1, ME_f2, ME_f3, ME_f4, ME_f5, ME_f6, ME_f7, ME_f8, ME_a0, ME_a1, ME_a2, ME_a3, ME_a4, ME_a5, ME_r2, ME_r3, ME_r4, ME_r5, SH_gn, SH_asn, SH_asi, SH_pfn, Option.map_some]
theorem s65 (s p : Nat) (hs : s < 21) (hp : p < 7) : ex 65 [.ref 39, .int (nI s), .int (nI p)] (SH (ME H μ β fl fh fc) 1 a) = some (some (.long (μ 3 p s)), SH (ME H μ β fl fh fc) 1 a) := by
  simp (disch := first | omega | assumption | (refine b30 ?_; omega) | exact SH_isO _ _ _ | exact ME_isO _ _ _ _ _ _ | (rw [SH_gn _ _ _ _ (by omega)]; exact ME_isO _ _ _ _ _ _) | (refine nI_inR ?_ ?_ ?_ <;> omega)) only [x65, e65_0, e65_1, e65_4, e65_5, e65_6, e65_7, e65_8, kv_s, kh_s, kn_s, kc_v, kc_n, ME_isO, ME_f0, ME_f1, ME_f2, ME_f3, ME_f4, ME_f5, ME_f6, ME_f7, ME_f8, ME_a0, ME_a1, ME_a2, ME_a3, ME_a4, ME_a5, ME_r2, ME_r3, ME_r4, ME_r5, SH_gn, SH_asn, SH_asi, SH_pfn, Option.map_some]
theorem s48 (hw : okW a) (y n r : Nat) (hy : y < 21) (hn : n < 6) (f : Nat → Int64) (hr : r < 1000) (hr2 : 7 ≤ r) (hg : pi_get (ME H μ β fl fh fc) r = some (.inl (2, 21, .inr (.inl f)))) (h0 : μ 0 0 n = pw a n) (h1 : μ 1 0 y = ppS a y 7) : ex 48 [.ref 39, .ref 1, .int (nI y), .int (nI (n + 1)), .ref r] (SH (ME H μ β fl fh fc) 1 a) = some (some (.long (cb a f n y)), SH (ME H μ β fl fh fc) 1 a) := by
  have hg' : pi_get (SH (ME H μ β fl fh fc) 1 a) r = some (.inl (2, 21, .inr (.inl f))) := (SH_gn _ _ _ _ (by omega)).trans hg
  have e := s49 1 (by omega) a hw y (by omega) r hr f (ME H μ β fl fh fc) hg'
  simp (disch := first | omega | assumption | (refine b30 ?_; omega) | exact SH_isO _ _ _ | exact ME_isO _ _ _ _ _ _ | (rw [SH_gn _ _ _ _ (by omega)]; exact ME_isO _ _ _ _ _ _) | (refine nI_inR ?_ ?_ ?_ <;> omega)) only [x48, e48_0, e48_1, e48_4, e48_5, e48_6, e48_7, e48_10, e48_11, e48_12, e48_13, e48_14, e48_15, e48_16, e48_17, e48_19, e48_22, e48_23, kv_s, kh_s, kn_s, kc_v, kc_n, ME_isO, ME_f0, ME_f1, ME_f2, ME_f3, ME_f4, ME_f5, ME_f6, ME_f7, ME_f8, ME_a0, ME_a1, ME_a2, ME_a3, ME_a4, ME_a5, ME_r2, ME_r3, ME_r4, ME_r5, SH_gn, SH_asn, SH_asi, SH_pfn, Option.map_some, Nat.reduceEqDiff, Nat.one_ne_zero, Nat.reduceLT, Nat.reduceLeDiff, Nat.reduceAdd, Nat.reduceSub, Nat.reduceMul, nI_add, nI_leI, nI_ltI, nI_eq, z_eq, z_lt, z_le, z_gt, z_ge, ↓reduceIte, not_true_eq_false, not_false_eq_true, if_true, if_false, e, h0, h1, pk_sub, Nat.add_sub_cancel]
  rfl
end
