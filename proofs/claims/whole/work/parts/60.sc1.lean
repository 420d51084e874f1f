-- PART 60: the script, first: on the heap, words
/-- the cells of the script: the object, its signs, its numbers; σ: 0 size, 1 at, 2 done, 3 faultAt, 4 reason -/
def scc (τ ν : Nat → Nat) (σ : Nat → Nat) (j : Nat) : Option pi_E := match j with
  | 0 => some (.inr (2, [.ref 75, .ref 76, .int (nI (σ 0)), .int (nI (σ 1)), .int (nI (σ 2)), .int (nI (σ 3)), .int (nI (σ 4))]))
  | 1 => some (.inl (1, 80, .inl (nf τ)))
  | _ => some (.inl (0, 3, .inl (nf ν)))
def SC (H : pi_H) (τ ν σ : Nat → Nat) : pi_H := OV 74 3 (scc τ ν σ) H
/-- the words' texts and their signs -/
def strs (H : pi_H) : Prop := ∀ k, k < 7 → pi_get H (1000001 + k) = some (.inr (7, [.ref (1000011 + k), .int 0])) ∧ ∃ f, pi_get H (1000011 + k) = some (.inl (11, wl k, .inl f)) ∧ ∀ j, j < wl k → f j = nI (wc k j)
section
variable (H : pi_H) (τ ν σ : Nat → Nat)
theorem SC_g (k : Nat) (h : 74 ≤ k ∧ k < 77) : pi_get (SC H τ ν σ) k = scc τ ν σ (k - 74) := OV_g _ _ _ _ _ (by omega)
theorem SC_gn (k : Nat) (h : k < 74 ∨ 77 ≤ k) : pi_get (SC H τ ν σ) k = pi_get H k := OV_gn _ _ _ _ _ (by omega)
theorem SC_strs (h : strs H) : strs (SC H τ ν σ) := by
  intro k hk
  rw [SC_gn _ _ _ _ _ (by omega), SC_gn _ _ _ _ _ (by omega)]
  exact h k hk
theorem SH_strs (o : Nat) (ho : o < 1000) (a : sT) (h : strs H) : strs (SH H o a) := by
  intro k hk
  rw [SH_gn _ _ _ _ (by omega), SH_gn _ _ _ _ (by omega)]
  exact h k hk
theorem SC_isO : pi_isO (pi_get (SC H τ ν σ) 74) 2 = true := by rw [SC_g _ _ _ _ _ (by omega)]; rfl
theorem SC_f0 : pi_fv (pi_get (SC H τ ν σ) 74) 2 0 = some (.ref 75) := by rw [SC_g _ _ _ _ _ (by omega)]; rfl
theorem SC_f1 : pi_fv (pi_get (SC H τ ν σ) 74) 2 1 = some (.ref 76) := by rw [SC_g _ _ _ _ _ (by omega)]; rfl
theorem SC_f2 : pi_fv (pi_get (SC H τ ν σ) 74) 2 2 = some (.int (nI (σ 0))) := by rw [SC_g _ _ _ _ _ (by omega)]; rfl
theorem SC_f3 : pi_fv (pi_get (SC H τ ν σ) 74) 2 3 = some (.int (nI (σ 1))) := by rw [SC_g _ _ _ _ _ (by omega)]; rfl
theorem SC_f4 : pi_fv (pi_get (SC H τ ν σ) 74) 2 4 = some (.int (nI (σ 2))) := by rw [SC_g _ _ _ _ _ (by omega)]; rfl
theorem SC_f5 : pi_fv (pi_get (SC H τ ν σ) 74) 2 5 = some (.int (nI (σ 3))) := by rw [SC_g _ _ _ _ _ (by omega)]; rfl
theorem SC_f6 : pi_fv (pi_get (SC H τ ν σ) 74) 2 6 = some (.int (nI (σ 4))) := by rw [SC_g _ _ _ _ _ (by omega)]; rfl
theorem al_c {n : Nat} {f : Nat → Int32} {j : Nat} (hj : j < n) (hn : n < 2 ^ 31) : pi_al (some (.inl (1, n, .inl f))) (nI j) 1 = some (.int (f j)) := by
  unfold pi_al pi_in
  simp [nI_clamp (n := j) (by omega), nI_pos (n := j) (by omega), hj]
theorem al_b {n : Nat} {f : Nat → Int32} {j : Nat} (hj : j < n) (hn : n < 2 ^ 31) : pi_al (some (.inl (11, n, .inl f))) (nI j) 2 = some (.int (f j)) := by
  unfold pi_al pi_in
  simp [nI_clamp (n := j) (by omega), nI_pos (n := j) (by omega), hj]
theorem SC_a1 (j : Nat) (hj : j < 80) : pi_al (pi_get (SC H τ ν σ) 75) (nI j) 1 = some (.int (nI (τ j))) := by
  rw [SC_g _ _ _ _ _ (by omega)]
  exact al_c hj (by omega)
theorem SC_a2 (j : Nat) (hj : j < 3) : pi_al (pi_get (SC H τ ν σ) 76) (nI j) 0 = some (.int (nI (ν j))) := by
  rw [SC_g _ _ _ _ _ (by omega)]
  exact al_i hj (by omega)
theorem nf_up (f : Nat → Nat) (j x : Nat) : upd (nf f) j (nI x) = nf (upN f j x) := nf_u _ _ _ _ (fun i => by unfold upN; rfl)
theorem SC_w2 (j x : Nat) (hj : j < 3) : pi_as (SC H τ ν σ) 76 (nI j) (.int (nI x)) 0 = some (SC H τ (upN ν j x) σ) := by
  rw [as_i (n := 3) (f := nf ν) (by rw [SC_g _ _ _ _ _ (by omega)]; rfl) hj (by omega)]
  refine congrArg some (OV_set _ _ _ _ _ _ (by omega) _ ?_ ?_)
  · show some _ = some _
    rw [nf_up]
  · intro i hi hne
    match i, hi, hne with
    | 0, _, _ => exact rfl
    | 1, _, _ => exact rfl
    | 2, _, hne => exact absurd rfl hne
theorem SC_w1 (j x : Nat) (hj : j < 80) (hx : x < 65536) : pi_as (SC H τ ν σ) 75 (nI j) (.int (nI x)) 1 = some (SC H (upN τ j x) ν σ) := by
  have hg : pi_get (SC H τ ν σ) 75 = some (.inl (1, 80, .inl (nf τ))) := by rw [SC_g _ _ _ _ _ (by omega)]; rfl
  have hv : vp_nar .char (nI x) = nI x := Value.int.inj (pk_charN hx).1
  have e : pi_as (SC H τ ν σ) 75 (nI j) (.int (nI x)) 1 = some (pi_set (SC H τ ν σ) 75 (.inl (1, 80, .inl (upd (nf τ) j (nI x))))) := by
    unfold pi_as pi_in
    rw [hg]
    simp [nI_clamp (n := j) (by omega), nI_pos (n := j) (by omega), hj, hv]
  rw [e]
  refine congrArg some (OV_set _ _ _ _ _ _ (by omega) _ ?_ ?_)
  · show some _ = some _
    rw [nf_up]
  · intro i hi hne
    match i, hi, hne with
    | 0, _, _ => exact rfl
    | 1, _, hne => exact absurd rfl hne
    | 2, _, _ => exact rfl
theorem SC_p (k x : Nat) (hk : k < 5) : pi_pf (SC H τ ν σ) 74 2 (k + 2) (.int (nI x)) = some (SC H τ ν (upN σ k x)) := by
  rw [pf_o (.int (nI x)) ((SC_g H τ ν σ 74 (by omega)).trans rfl) (by simp only [List.length_cons, List.length_nil]; omega) (by omega)]
  refine congrArg some (OV_set _ _ _ _ _ _ (by omega) _ ?_ ?_)
  · have h : k = 0 ∨ k = 1 ∨ k = 2 ∨ k = 3 ∨ k = 4 := by omega
    rcases h with rfl | rfl | rfl | rfl | rfl <;> rfl
  · intro i hi hne
    match i, hi, hne with
    | 0, _, hne => exact absurd rfl hne
    | 1, _, _ => rfl
    | 2, _, _ => rfl
theorem SC_p2 (x : Nat) : pi_pf (SC H τ ν σ) 74 2 2 (.int (nI x)) = some (SC H τ ν (upN σ 0 x)) := SC_p H τ ν σ 0 x (by omega)
theorem SC_p3 (x : Nat) : pi_pf (SC H τ ν σ) 74 2 3 (.int (nI x)) = some (SC H τ ν (upN σ 1 x)) := SC_p H τ ν σ 1 x (by omega)
theorem SC_p4 (x : Nat) : pi_pf (SC H τ ν σ) 74 2 4 (.int (nI x)) = some (SC H τ ν (upN σ 2 x)) := SC_p H τ ν σ 2 x (by omega)
theorem SC_p5 (x : Nat) : pi_pf (SC H τ ν σ) 74 2 5 (.int (nI x)) = some (SC H τ ν (upN σ 3 x)) := SC_p H τ ν σ 3 x (by omega)
theorem SC_p6 (x : Nat) : pi_pf (SC H τ ν σ) 74 2 6 (.int (nI x)) = some (SC H τ ν (upN σ 4 x)) := SC_p H τ ν σ 4 x (by omega)
end
/-! texts of the library -/
theorem rt99_0 : pi_rt pm_St_isLatin1 (nI 0) = true := by decide +kernel
theorem rt99_1 : pi_rt pm_St_isLatin1 (nI 1) = true := by decide +kernel
theorem rt97_0 : pi_rt pm_St_coder 0 = true := by decide +kernel
theorem shr0 (x : Int32) : x >>> ((0 : Int32) &&& 31) = x := by
  apply Int32.toBitVec_inj.mp
  rw [Int32.toBitVec_shiftRight]
  have h : ((0 : Int32) &&& 31).toBitVec.smod 32 = 0#32 := by decide
  rw [h]
  simp
section
variable (H : pi_H) (hs : strs H) (k : Nat) (hk : k < 7)
theorem st_isO (hs : strs H) (hk : k < 7) : pi_isO (pi_get H (1000001 + k)) 7 = true := by rw [(hs k hk).1]; rfl
theorem st_f0 (hs : strs H) (hk : k < 7) : pi_fv (pi_get H (1000001 + k)) 7 0 = some (.ref (1000011 + k)) := by rw [(hs k hk).1]; rfl
theorem st_f1 (hs : strs H) (hk : k < 7) : pi_fv (pi_get H (1000001 + k)) 7 1 = some (.int 0) := by rw [(hs k hk).1]; rfl
theorem st_ln (hs : strs H) (hk : k < 7) : pi_len (pi_get H (1000011 + k)) = some (wl k) := by
  obtain ⟨f, h1, h2⟩ := (hs k hk).2
  rw [h1]
  rfl
theorem st_al (hs : strs H) (hk : k < 7) (j : Nat) (hj : j < wl k) : pi_al (pi_get H (1000011 + k)) (nI j) 2 = some (.int (nI (wc k j))) := by
  obtain ⟨f, h1, h2⟩ := (hs k hk).2
  have b := wl_le k hk
  rw [h1, al_b hj (by omega), h2 j hj]
theorem s96 (hs : strs H) (hk : k < 7) : ex 96 [.ref (1000001 + k)] H = some (some (.int (nI (wl k))), H) := by
  have h1 := st_isO H k hs hk
  have h2 := st_f0 H k hs hk
  have h3 := st_f1 H k hs hk
  have h4 := st_ln H k hs hk
  have h5 := rt97_0
  have h6 : ex 97 [.ref (1000001 + k)] H = some (some (.int 0), H) := by
    simp (disch := first | omega | assumption | exact SC_isO _ _ _ _ | (refine b30 ?_; omega) | (refine nI_inR ?_ ?_ ?_ <;> omega)) only [x97, e97_0, e97_3, e97_6, e97_7, e97_10, e97_13, e97_14, kv_s, kh_s, kn_s, kc_v, kc_n, Nat.reduceEqDiff, Nat.one_ne_zero, Nat.reduceLT, Nat.reduceLeDiff, Nat.reduceAdd, Nat.reduceSub, Nat.reduceMul, nI_add, nI_leI, nI_ltI, nI_eq, z_eq, z_lt, z_le, z_gt, z_ge, ↓reduceIte, not_true_eq_false, not_false_eq_true, if_true, if_false, h3]
  simp (disch := first | omega | assumption | exact SC_isO _ _ _ _ | (refine b30 ?_; omega) | (refine nI_inR ?_ ?_ ?_ <;> omega)) only [x96, e96_0, e96_1, e96_4, e96_5, e96_6, e96_9, e96_10, kv_s, kh_s, kn_s, kc_v, kc_n, Nat.reduceEqDiff, Nat.one_ne_zero, Nat.reduceLT, Nat.reduceLeDiff, Nat.reduceAdd, Nat.reduceSub, Nat.reduceMul, nI_add, nI_leI, nI_ltI, nI_eq, z_eq, z_lt, z_le, z_gt, z_ge, ↓reduceIte, not_true_eq_false, not_false_eq_true, if_true, if_false, h2, h4, h6, shr0]
theorem s102 (x y z : Nat) (h : x < y) (hy : y < 2 ^ 31) : ex 102 [.int (nI x), .int (nI y), .ref z] H = some (some (.int (nI x)), H) := by
  simp (disch := first | omega | assumption | exact SC_isO _ _ _ _ | (refine b30 ?_; omega) | (refine nI_inR ?_ ?_ ?_ <;> omega)) only [x102, e102_0, e102_1, e102_4, e102_5, e102_6, e102_9, e102_10, e102_11, e102_16, e102_17, kv_s, kh_s, kn_s, kc_v, kc_n, Nat.reduceEqDiff, Nat.one_ne_zero, Nat.reduceLT, Nat.reduceLeDiff, Nat.reduceAdd, Nat.reduceSub, Nat.reduceMul, nI_add, nI_leI, nI_ltI, nI_eq, z_eq, z_lt, z_le, z_gt, z_ge, ↓reduceIte, not_true_eq_false, not_false_eq_true, if_true, if_false, h]
theorem s98 (hs : strs H) (hk : k < 7) (j : Nat) (hj : j < wl k) : ex 98 [.ref (1000001 + k), .int (nI j)] H = some (some (.int (nI (wc k j))), H) := by
  have h1 := st_isO H k hs hk
  have h2 := st_f0 H k hs hk
  have h3 := st_f1 H k hs hk
  have h4 := st_ln H k hs hk
  have h5 := st_al H k hs hk j hj
  have b := wl_le k hk
  have c := wc_in k hk j hj
  have r1 := rt99_1
  have z0 : (0 : Int32) = nI 0 := nI_0.symm
  have e99 : ex 99 [.ref (1000001 + k)] H = some (some (.int (nI 1)), H) := by
    simp (disch := first | omega | assumption | exact SC_isO _ _ _ _ | (refine b30 ?_; omega) | (refine nI_inR ?_ ?_ ?_ <;> omega)) only [x99, e99_0, e99_3, e99_6, e99_7, e99_10, e99_13, e99_14, e99_17, e99_18, kv_s, kh_s, kn_s, kc_v, kc_n, Nat.reduceEqDiff, Nat.one_ne_zero, Nat.reduceLT, Nat.reduceLeDiff, Nat.reduceAdd, Nat.reduceSub, Nat.reduceMul, nI_add, nI_leI, nI_ltI, nI_eq, z_eq, z_lt, z_le, z_gt, z_ge, ↓reduceIte, not_true_eq_false, not_false_eq_true, if_true, if_false, h3]
  have e101 : ex 101 [.int (nI j), .int (nI (wl k))] H = some (none, H) := by
    have := s102 H j (wl k) 1000030 hj (by omega)
    simp (disch := first | omega | assumption | exact SC_isO _ _ _ _ | (refine b30 ?_; omega) | (refine nI_inR ?_ ?_ ?_ <;> omega)) only [x101, e101_0, e101_1, e101_2, e101_5, e101_8, e101_9, kv_s, kh_s, kn_s, kc_v, kc_n, Nat.reduceEqDiff, Nat.one_ne_zero, Nat.reduceLT, Nat.reduceLeDiff, Nat.reduceAdd, Nat.reduceSub, Nat.reduceMul, nI_add, nI_leI, nI_ltI, nI_eq, z_eq, z_lt, z_le, z_gt, z_ge, ↓reduceIte, not_true_eq_false, not_false_eq_true, if_true, if_false, this]
  have hnd : nI (wc k j) &&& nI 255 = nI (wc k j) := by
    rw [nI_and]
    have : wc k j &&& 255 = wc k j := Nat.and_two_pow_sub_one_of_lt_two_pow (n := 8) (by omega)
    rw [this]
  have hch : ((nI (wc k j)).toUInt32 % 65536).toInt32 = nI (wc k j) := by
    rw [pk_char, pk_tn (by omega), Nat.mod_eq_of_lt (by omega)]
  have hrt : pi_rt pm_Sl_charAt (nI (wc k j)) = true := by
    unfold pi_rt
    show decide (narrow .char (.int (nI (wc k j))) = .int (nI (wc k j))) = true
    exact decide_eq_true (pk_charN (by omega)).1
  have hrt2 : pi_rt pm_St_charAt (nI (wc k j)) = true := by
    unfold pi_rt
    show decide (narrow .char (.int (nI (wc k j))) = .int (nI (wc k j))) = true
    exact decide_eq_true (pk_charN (by omega)).1
  have e100 : ex 100 [.ref (1000011 + k), .int (nI j)] H = some (some (.int (nI (wc k j))), H) := by
    simp (disch := first | omega | assumption | exact SC_isO _ _ _ _ | (refine b30 ?_; omega) | (refine nI_inR ?_ ?_ ?_ <;> omega)) only [x100, e100_0, e100_1, e100_2, e100_3, e100_6, e100_7, e100_8, e100_9, e100_12, e100_13, e100_14, kv_s, kh_s, kn_s, kc_v, kc_n, Nat.reduceEqDiff, Nat.one_ne_zero, Nat.reduceLT, Nat.reduceLeDiff, Nat.reduceAdd, Nat.reduceSub, Nat.reduceMul, nI_add, nI_leI, nI_ltI, nI_eq, z_eq, z_lt, z_le, z_gt, z_ge, ↓reduceIte, not_true_eq_false, not_false_eq_true, if_true, if_false, h4, h5, e101, hnd, hch]
  simp (disch := first | omega | assumption | exact SC_isO _ _ _ _ | (refine b30 ?_; omega) | (refine nI_inR ?_ ?_ ?_ <;> omega)) only [x98, e98_0, e98_1, e98_4, e98_7, e98_8, e98_11, e98_12, e98_15, e98_16, e98_17, e98_20, e98_24, kv_s, kh_s, kn_s, kc_v, kc_n, Nat.reduceEqDiff, Nat.one_ne_zero, Nat.reduceLT, Nat.reduceLeDiff, Nat.reduceAdd, Nat.reduceSub, Nat.reduceMul, nI_add, nI_leI, nI_ltI, nI_eq, z_eq, z_lt, z_le, z_gt, z_ge, ↓reduceIte, not_true_eq_false, not_false_eq_true, if_true, if_false, h2, e99, e100]
end
