-- PART 71: the law's loop
theorem rt170_1 : pi_rt pm_La_law (nI 1) = true := by decide +kernel
section
variable (B : pi_H) (xs : Nat → Int32) (L : Nat)
theorem inv_le (t : Nat) (H : pi_H) (hI : InvH B t H) : InvH B (t + 81) H := by
  obtain ⟨a, b, nw, sz, r, h, μ, β, fl, fh, fc, ν, σ, ι, z, κ, ok, rfl⟩ := hI
  exact step_q B t a nw sz r h σ ι κ ok b μ β fl fh fc ν σ ι z κ rfl rfl rfl rfl rfl
theorem op_all (hB : okS B) (hS : scr B xs L) (hL : L ≤ 2048) (t : Nat) (ht : t + 100 < 2 ^ 29) (H : pi_H) (i : Nat) (hi : i + 4 ≤ L) (hI : InvH B t H) (j : Nat) (hj : j < 32) : ∃ H2, InvH B (t + 81) H2 ∧ ev 170 32 [some (.ref 1000050), some (.ref 0), some (.ref 77), some (.int (nI i))] [.int (nI j)] H = ev 170 797 [some (.ref 1000050), some (.ref 0), some (.ref 77), some (.int (nI i))] [] H2 := by
  have h32 : j = 0 ∨ j = 1 ∨ j = 2 ∨ j = 3 ∨ j = 4 ∨ j = 5 ∨ j = 6 ∨ j = 7 ∨ j = 8 ∨ j = 9 ∨ j = 10 ∨ j = 11 ∨ j = 12 ∨ j = 13 ∨ j = 14 ∨ j = 15 ∨ j = 16 ∨ j = 17 ∨ j = 18 ∨ j = 19 ∨ j = 20 ∨ j = 21 ∨ j = 22 ∨ j = 23 ∨ j = 24 ∨ j = 25 ∨ j = 26 ∨ j = 27 ∨ j = 28 ∨ j = 29 ∨ j = 30 ∨ j = 31 := by omega
  rcases h32 with rfl | rfl | rfl | rfl | rfl | rfl | rfl | rfl | rfl | rfl | rfl | rfl | rfl | rfl | rfl | rfl | rfl | rfl | rfl | rfl | rfl | rfl | rfl | rfl | rfl | rfl | rfl | rfl | rfl | rfl | rfl | rfl
  · obtain ⟨H2, h1, h2⟩ := op0 B t H xs L i hB hS hL ht hi hI
    refine ⟨H2, h1, ?_⟩
    rw [e170_32]
    simp (disch := first | omega | assumption | (refine b30 ?_; omega)) only [Nat.reduceEqDiff, Nat.one_ne_zero, Nat.reduceLT, Nat.reduceLeDiff, Nat.reduceAdd, Nat.reduceSub, Nat.reduceMul, nI_add, nI_leI, nI_ltI, nI_eq, z_eq, z_lt, z_le, z_gt, z_ge, ↓reduceIte, not_true_eq_false, not_false_eq_true, if_true, if_false]
    exact h2
  · obtain ⟨H2, h1, h2⟩ := op1 B t H xs L i hB hS hL ht hi hI
    refine ⟨H2, h1, ?_⟩
    rw [e170_32]
    simp (disch := first | omega | assumption | (refine b30 ?_; omega)) only [Nat.reduceEqDiff, Nat.one_ne_zero, Nat.reduceLT, Nat.reduceLeDiff, Nat.reduceAdd, Nat.reduceSub, Nat.reduceMul, nI_add, nI_leI, nI_ltI, nI_eq, z_eq, z_lt, z_le, z_gt, z_ge, ↓reduceIte, not_true_eq_false, not_false_eq_true, if_true, if_false]
    exact h2
  · obtain ⟨H2, h1, h2⟩ := op2 B t H xs L i hB hS hL ht hi hI
    refine ⟨H2, h1, ?_⟩
    rw [e170_32]
    simp (disch := first | omega | assumption | (refine b30 ?_; omega)) only [Nat.reduceEqDiff, Nat.one_ne_zero, Nat.reduceLT, Nat.reduceLeDiff, Nat.reduceAdd, Nat.reduceSub, Nat.reduceMul, nI_add, nI_leI, nI_ltI, nI_eq, z_eq, z_lt, z_le, z_gt, z_ge, ↓reduceIte, not_true_eq_false, not_false_eq_true, if_true, if_false]
    exact h2
  · obtain ⟨H2, h1, h2⟩ := op3 B t H xs L i hB hS hL ht hi hI
    refine ⟨H2, h1, ?_⟩
    rw [e170_32]
    simp (disch := first | omega | assumption | (refine b30 ?_; omega)) only [Nat.reduceEqDiff, Nat.one_ne_zero, Nat.reduceLT, Nat.reduceLeDiff, Nat.reduceAdd, Nat.reduceSub, Nat.reduceMul, nI_add, nI_leI, nI_ltI, nI_eq, z_eq, z_lt, z_le, z_gt, z_ge, ↓reduceIte, not_true_eq_false, not_false_eq_true, if_true, if_false]
    exact h2
  · obtain ⟨H2, h1, h2⟩ := op4 B t H xs L i hB hS hL ht hi hI
    refine ⟨H2, h1, ?_⟩
    rw [e170_32]
    simp (disch := first | omega | assumption | (refine b30 ?_; omega)) only [Nat.reduceEqDiff, Nat.one_ne_zero, Nat.reduceLT, Nat.reduceLeDiff, Nat.reduceAdd, Nat.reduceSub, Nat.reduceMul, nI_add, nI_leI, nI_ltI, nI_eq, z_eq, z_lt, z_le, z_gt, z_ge, ↓reduceIte, not_true_eq_false, not_false_eq_true, if_true, if_false]
    exact h2
  · obtain ⟨H2, h1, h2⟩ := op5 B t H xs L i hB hS hL ht hi hI
    refine ⟨H2, h1, ?_⟩
    rw [e170_32]
    simp (disch := first | omega | assumption | (refine b30 ?_; omega)) only [Nat.reduceEqDiff, Nat.one_ne_zero, Nat.reduceLT, Nat.reduceLeDiff, Nat.reduceAdd, Nat.reduceSub, Nat.reduceMul, nI_add, nI_leI, nI_ltI, nI_eq, z_eq, z_lt, z_le, z_gt, z_ge, ↓reduceIte, not_true_eq_false, not_false_eq_true, if_true, if_false]
    exact h2
  · obtain ⟨H2, h1, h2⟩ := op6 B t H xs L i hB hS hL ht hi hI
    refine ⟨H2, h1, ?_⟩
    rw [e170_32]
    simp (disch := first | omega | assumption | (refine b30 ?_; omega)) only [Nat.reduceEqDiff, Nat.one_ne_zero, Nat.reduceLT, Nat.reduceLeDiff, Nat.reduceAdd, Nat.reduceSub, Nat.reduceMul, nI_add, nI_leI, nI_ltI, nI_eq, z_eq, z_lt, z_le, z_gt, z_ge, ↓reduceIte, not_true_eq_false, not_false_eq_true, if_true, if_false]
    exact h2
  · obtain ⟨H2, h1, h2⟩ := op7 B t H xs L i hB hS hL ht hi hI
    refine ⟨H2, h1, ?_⟩
    rw [e170_32]
    simp (disch := first | omega | assumption | (refine b30 ?_; omega)) only [Nat.reduceEqDiff, Nat.one_ne_zero, Nat.reduceLT, Nat.reduceLeDiff, Nat.reduceAdd, Nat.reduceSub, Nat.reduceMul, nI_add, nI_leI, nI_ltI, nI_eq, z_eq, z_lt, z_le, z_gt, z_ge, ↓reduceIte, not_true_eq_false, not_false_eq_true, if_true, if_false]
    exact h2
  · obtain ⟨H2, h1, h2⟩ := op8 B t H xs L i hB hS hL ht hi hI
    refine ⟨H2, h1, ?_⟩
    rw [e170_32]
    simp (disch := first | omega | assumption | (refine b30 ?_; omega)) only [Nat.reduceEqDiff, Nat.one_ne_zero, Nat.reduceLT, Nat.reduceLeDiff, Nat.reduceAdd, Nat.reduceSub, Nat.reduceMul, nI_add, nI_leI, nI_ltI, nI_eq, z_eq, z_lt, z_le, z_gt, z_ge, ↓reduceIte, not_true_eq_false, not_false_eq_true, if_true, if_false]
    exact h2
  · obtain ⟨H2, h1, h2⟩ := op9 B t H xs L i hB hS hL ht hi hI
    refine ⟨H2, h1, ?_⟩
    rw [e170_32]
    simp (disch := first | omega | assumption | (refine b30 ?_; omega)) only [Nat.reduceEqDiff, Nat.one_ne_zero, Nat.reduceLT, Nat.reduceLeDiff, Nat.reduceAdd, Nat.reduceSub, Nat.reduceMul, nI_add, nI_leI, nI_ltI, nI_eq, z_eq, z_lt, z_le, z_gt, z_ge, ↓reduceIte, not_true_eq_false, not_false_eq_true, if_true, if_false]
    exact h2
  · obtain ⟨H2, h1, h2⟩ := op10 B t H xs L i hB hS hL ht hi hI
    refine ⟨H2, h1, ?_⟩
    rw [e170_32]
    simp (disch := first | omega | assumption | (refine b30 ?_; omega)) only [Nat.reduceEqDiff, Nat.one_ne_zero, Nat.reduceLT, Nat.reduceLeDiff, Nat.reduceAdd, Nat.reduceSub, Nat.reduceMul, nI_add, nI_leI, nI_ltI, nI_eq, z_eq, z_lt, z_le, z_gt, z_ge, ↓reduceIte, not_true_eq_false, not_false_eq_true, if_true, if_false]
    exact h2
  · obtain ⟨H2, h1, h2⟩ := op11 B t H xs L i hB hS hL ht hi hI
    refine ⟨H2, h1, ?_⟩
    rw [e170_32]
    simp (disch := first | omega | assumption | (refine b30 ?_; omega)) only [Nat.reduceEqDiff, Nat.one_ne_zero, Nat.reduceLT, Nat.reduceLeDiff, Nat.reduceAdd, Nat.reduceSub, Nat.reduceMul, nI_add, nI_leI, nI_ltI, nI_eq, z_eq, z_lt, z_le, z_gt, z_ge, ↓reduceIte, not_true_eq_false, not_false_eq_true, if_true, if_false]
    exact h2
  · obtain ⟨H2, h1, h2⟩ := op12 B t H xs L i hB hS hL ht hi hI
    refine ⟨H2, h1, ?_⟩
    rw [e170_32]
    simp (disch := first | omega | assumption | (refine b30 ?_; omega)) only [Nat.reduceEqDiff, Nat.one_ne_zero, Nat.reduceLT, Nat.reduceLeDiff, Nat.reduceAdd, Nat.reduceSub, Nat.reduceMul, nI_add, nI_leI, nI_ltI, nI_eq, z_eq, z_lt, z_le, z_gt, z_ge, ↓reduceIte, not_true_eq_false, not_false_eq_true, if_true, if_false]
    exact h2
  · obtain ⟨H2, h1, h2⟩ := op13 B t H xs L i hB hS hL ht hi hI
    refine ⟨H2, h1, ?_⟩
    rw [e170_32]
    simp (disch := first | omega | assumption | (refine b30 ?_; omega)) only [Nat.reduceEqDiff, Nat.one_ne_zero, Nat.reduceLT, Nat.reduceLeDiff, Nat.reduceAdd, Nat.reduceSub, Nat.reduceMul, nI_add, nI_leI, nI_ltI, nI_eq, z_eq, z_lt, z_le, z_gt, z_ge, ↓reduceIte, not_true_eq_false, not_false_eq_true, if_true, if_false]
    exact h2
  · obtain ⟨H2, h1, h2⟩ := op14 B t H xs L i hB hS hL ht hi hI
    refine ⟨H2, h1, ?_⟩
    rw [e170_32]
    simp (disch := first | omega | assumption | (refine b30 ?_; omega)) only [Nat.reduceEqDiff, Nat.one_ne_zero, Nat.reduceLT, Nat.reduceLeDiff, Nat.reduceAdd, Nat.reduceSub, Nat.reduceMul, nI_add, nI_leI, nI_ltI, nI_eq, z_eq, z_lt, z_le, z_gt, z_ge, ↓reduceIte, not_true_eq_false, not_false_eq_true, if_true, if_false]
    exact h2
  · obtain ⟨H2, h1, h2⟩ := op15 B t H xs L i hB hS hL ht hi hI
    refine ⟨H2, h1, ?_⟩
    rw [e170_32]
    simp (disch := first | omega | assumption | (refine b30 ?_; omega)) only [Nat.reduceEqDiff, Nat.one_ne_zero, Nat.reduceLT, Nat.reduceLeDiff, Nat.reduceAdd, Nat.reduceSub, Nat.reduceMul, nI_add, nI_leI, nI_ltI, nI_eq, z_eq, z_lt, z_le, z_gt, z_ge, ↓reduceIte, not_true_eq_false, not_false_eq_true, if_true, if_false]
    exact h2
  · obtain ⟨H2, h1, h2⟩ := op16 B t H xs L i hB hS hL ht hi hI
    refine ⟨H2, h1, ?_⟩
    rw [e170_32]
    simp (disch := first | omega | assumption | (refine b30 ?_; omega)) only [Nat.reduceEqDiff, Nat.one_ne_zero, Nat.reduceLT, Nat.reduceLeDiff, Nat.reduceAdd, Nat.reduceSub, Nat.reduceMul, nI_add, nI_leI, nI_ltI, nI_eq, z_eq, z_lt, z_le, z_gt, z_ge, ↓reduceIte, not_true_eq_false, not_false_eq_true, if_true, if_false]
    exact h2
  · obtain ⟨H2, h1, h2⟩ := op17 B t H xs L i hB hS hL ht hi hI
    refine ⟨H2, h1, ?_⟩
    rw [e170_32]
    simp (disch := first | omega | assumption | (refine b30 ?_; omega)) only [Nat.reduceEqDiff, Nat.one_ne_zero, Nat.reduceLT, Nat.reduceLeDiff, Nat.reduceAdd, Nat.reduceSub, Nat.reduceMul, nI_add, nI_leI, nI_ltI, nI_eq, z_eq, z_lt, z_le, z_gt, z_ge, ↓reduceIte, not_true_eq_false, not_false_eq_true, if_true, if_false]
    exact h2
  · obtain ⟨H2, h1, h2⟩ := op18 B t H xs L i hB hS hL ht hi hI
    refine ⟨H2, h1, ?_⟩
    rw [e170_32]
    simp (disch := first | omega | assumption | (refine b30 ?_; omega)) only [Nat.reduceEqDiff, Nat.one_ne_zero, Nat.reduceLT, Nat.reduceLeDiff, Nat.reduceAdd, Nat.reduceSub, Nat.reduceMul, nI_add, nI_leI, nI_ltI, nI_eq, z_eq, z_lt, z_le, z_gt, z_ge, ↓reduceIte, not_true_eq_false, not_false_eq_true, if_true, if_false]
    exact h2
  · obtain ⟨H2, h1, h2⟩ := op19 B t H xs L i hB hS hL ht hi hI
    refine ⟨H2, h1, ?_⟩
    rw [e170_32]
    simp (disch := first | omega | assumption | (refine b30 ?_; omega)) only [Nat.reduceEqDiff, Nat.one_ne_zero, Nat.reduceLT, Nat.reduceLeDiff, Nat.reduceAdd, Nat.reduceSub, Nat.reduceMul, nI_add, nI_leI, nI_ltI, nI_eq, z_eq, z_lt, z_le, z_gt, z_ge, ↓reduceIte, not_true_eq_false, not_false_eq_true, if_true, if_false]
    exact h2
  · obtain ⟨H2, h1, h2⟩ := op20 B t H xs L i hB hS hL ht hi hI
    refine ⟨H2, h1, ?_⟩
    rw [e170_32]
    simp (disch := first | omega | assumption | (refine b30 ?_; omega)) only [Nat.reduceEqDiff, Nat.one_ne_zero, Nat.reduceLT, Nat.reduceLeDiff, Nat.reduceAdd, Nat.reduceSub, Nat.reduceMul, nI_add, nI_leI, nI_ltI, nI_eq, z_eq, z_lt, z_le, z_gt, z_ge, ↓reduceIte, not_true_eq_false, not_false_eq_true, if_true, if_false]
    exact h2
  · obtain ⟨H2, h1, h2⟩ := op21 B t H xs L i hB hS hL ht hi hI
    refine ⟨H2, h1, ?_⟩
    rw [e170_32]
    simp (disch := first | omega | assumption | (refine b30 ?_; omega)) only [Nat.reduceEqDiff, Nat.one_ne_zero, Nat.reduceLT, Nat.reduceLeDiff, Nat.reduceAdd, Nat.reduceSub, Nat.reduceMul, nI_add, nI_leI, nI_ltI, nI_eq, z_eq, z_lt, z_le, z_gt, z_ge, ↓reduceIte, not_true_eq_false, not_false_eq_true, if_true, if_false]
    exact h2
  · refine ⟨H, inv_le B t H hI, ?_⟩
    rw [e170_32]
    simp (disch := first | omega | assumption | (refine b30 ?_; omega)) only [Nat.reduceEqDiff, Nat.one_ne_zero, Nat.reduceLT, Nat.reduceLeDiff, Nat.reduceAdd, Nat.reduceSub, Nat.reduceMul, nI_add, nI_leI, nI_ltI, nI_eq, z_eq, z_lt, z_le, z_gt, z_ge, ↓reduceIte, not_true_eq_false, not_false_eq_true, if_true, if_false]
  · refine ⟨H, inv_le B t H hI, ?_⟩
    rw [e170_32]
    simp (disch := first | omega | assumption | (refine b30 ?_; omega)) only [Nat.reduceEqDiff, Nat.one_ne_zero, Nat.reduceLT, Nat.reduceLeDiff, Nat.reduceAdd, Nat.reduceSub, Nat.reduceMul, nI_add, nI_leI, nI_ltI, nI_eq, z_eq, z_lt, z_le, z_gt, z_ge, ↓reduceIte, not_true_eq_false, not_false_eq_true, if_true, if_false]
  · refine ⟨H, inv_le B t H hI, ?_⟩
    rw [e170_32]
    simp (disch := first | omega | assumption | (refine b30 ?_; omega)) only [Nat.reduceEqDiff, Nat.one_ne_zero, Nat.reduceLT, Nat.reduceLeDiff, Nat.reduceAdd, Nat.reduceSub, Nat.reduceMul, nI_add, nI_leI, nI_ltI, nI_eq, z_eq, z_lt, z_le, z_gt, z_ge, ↓reduceIte, not_true_eq_false, not_false_eq_true, if_true, if_false]
  · refine ⟨H, inv_le B t H hI, ?_⟩
    rw [e170_32]
    simp (disch := first | omega | assumption | (refine b30 ?_; omega)) only [Nat.reduceEqDiff, Nat.one_ne_zero, Nat.reduceLT, Nat.reduceLeDiff, Nat.reduceAdd, Nat.reduceSub, Nat.reduceMul, nI_add, nI_leI, nI_ltI, nI_eq, z_eq, z_lt, z_le, z_gt, z_ge, ↓reduceIte, not_true_eq_false, not_false_eq_true, if_true, if_false]
  · refine ⟨H, inv_le B t H hI, ?_⟩
    rw [e170_32]
    simp (disch := first | omega | assumption | (refine b30 ?_; omega)) only [Nat.reduceEqDiff, Nat.one_ne_zero, Nat.reduceLT, Nat.reduceLeDiff, Nat.reduceAdd, Nat.reduceSub, Nat.reduceMul, nI_add, nI_leI, nI_ltI, nI_eq, z_eq, z_lt, z_le, z_gt, z_ge, ↓reduceIte, not_true_eq_false, not_false_eq_true, if_true, if_false]
  · refine ⟨H, inv_le B t H hI, ?_⟩
    rw [e170_32]
    simp (disch := first | omega | assumption | (refine b30 ?_; omega)) only [Nat.reduceEqDiff, Nat.one_ne_zero, Nat.reduceLT, Nat.reduceLeDiff, Nat.reduceAdd, Nat.reduceSub, Nat.reduceMul, nI_add, nI_leI, nI_ltI, nI_eq, z_eq, z_lt, z_le, z_gt, z_ge, ↓reduceIte, not_true_eq_false, not_false_eq_true, if_true, if_false]
  · refine ⟨H, inv_le B t H hI, ?_⟩
    rw [e170_32]
    simp (disch := first | omega | assumption | (refine b30 ?_; omega)) only [Nat.reduceEqDiff, Nat.one_ne_zero, Nat.reduceLT, Nat.reduceLeDiff, Nat.reduceAdd, Nat.reduceSub, Nat.reduceMul, nI_add, nI_leI, nI_ltI, nI_eq, z_eq, z_lt, z_le, z_gt, z_ge, ↓reduceIte, not_true_eq_false, not_false_eq_true, if_true, if_false]
  · refine ⟨H, inv_le B t H hI, ?_⟩
    rw [e170_32]
    simp (disch := first | omega | assumption | (refine b30 ?_; omega)) only [Nat.reduceEqDiff, Nat.one_ne_zero, Nat.reduceLT, Nat.reduceLeDiff, Nat.reduceAdd, Nat.reduceSub, Nat.reduceMul, nI_add, nI_leI, nI_ltI, nI_eq, z_eq, z_lt, z_le, z_gt, z_ge, ↓reduceIte, not_true_eq_false, not_false_eq_true, if_true, if_false]
  · refine ⟨H, inv_le B t H hI, ?_⟩
    rw [e170_32]
    simp (disch := first | omega | assumption | (refine b30 ?_; omega)) only [Nat.reduceEqDiff, Nat.one_ne_zero, Nat.reduceLT, Nat.reduceLeDiff, Nat.reduceAdd, Nat.reduceSub, Nat.reduceMul, nI_add, nI_leI, nI_ltI, nI_eq, z_eq, z_lt, z_le, z_gt, z_ge, ↓reduceIte, not_true_eq_false, not_false_eq_true, if_true, if_false]
  · refine ⟨H, inv_le B t H hI, ?_⟩
    rw [e170_32]
    simp (disch := first | omega | assumption | (refine b30 ?_; omega)) only [Nat.reduceEqDiff, Nat.one_ne_zero, Nat.reduceLT, Nat.reduceLeDiff, Nat.reduceAdd, Nat.reduceSub, Nat.reduceMul, nI_add, nI_leI, nI_ltI, nI_eq, z_eq, z_lt, z_le, z_gt, z_ge, ↓reduceIte, not_true_eq_false, not_false_eq_true, if_true, if_false]
theorem l170 (hB : okS B) (hS : scr B xs L) (hL : L ≤ 2048) : ∀ (k i t : Nat) (H : pi_H), L < i + 4 * k + 4 → i ≤ 4000 → t + 81 * k + 200 < 2 ^ 29 → InvH B t H → ∃ H', ev 170 18 [some (.ref 1000050), some (.ref 0), some (.ref 77), some (.int (nI i))] [] H = some (some (.int (nI 1)), H') ∧ H'.2 = B.2 := by
  have hexit : ∀ (i t : Nat) (H : pi_H), L < i + 4 → i ≤ 4000 → InvH B t H → ∃ H', ev 170 18 [some (.ref 1000050), some (.ref 0), some (.ref 77), some (.int (nI i))] [] H = some (some (.int (nI 1)), H') ∧ H'.2 = B.2 := by
    intro i t H hi hi2 hI
    obtain ⟨_, _, a2, a3⟩ := isW_f hB hS (inv_W hI)
    have hlen : pi_len (pi_get H 1000050) = some L := by rw [a2]; rfl
    have r1 := rt170_1
    refine ⟨H, ?_, a3⟩
    have hc : nI L - nI 4 < nI i := by
      by_cases h : 4 ≤ L
      · rw [pk_sub h, nI_ltI (by omega) (by omega)]
        omega
      · have h1 : nI L - nI 4 < 0 := pk_sneg (by omega) (by omega)
        have h2 := nI_pos' (n := i) (by omega)
        grind
    simp (disch := first | omega | assumption | (refine b30 ?_; omega)) only [e170_18, e170_19, e170_20, e170_21, e170_22, e170_23, e170_803, e170_804, kv_s, kh_s, kn_s, kc_v, kc_n, hlen, hc, if_true]
  intro k
  induction k with
  | zero =>
    intro i t H hi hi2 ht hI
    exact hexit i t H (by omega) hi2 hI
  | succ k ih =>
    intro i t H hi hi2 ht hI
    by_cases hq : L < i + 4
    · exact hexit i t H hq hi2 hI
    · obtain ⟨_, _, a2, a3⟩ := isW_f hB hS (inv_W hI)
      have hlen : pi_len (pi_get H 1000050) = some L := by rw [a2]; rfl
      have hal := al_s hL a2
      have hnc : ¬ nI L - nI 4 < nI i := by
        rw [pk_sub (by omega), nI_ltI (by omega) (by omega)]
        omega
      obtain ⟨j, hj, hx⟩ := pk_andE (xs i) (m := nI 31) 5 (by decide)
      obtain ⟨H2, h1, h2⟩ := op_all B xs L hB hS hL t (by omega) H i (by omega) hI j hj
      obtain ⟨H', e, h3⟩ := ih (i + 4) (t + 81) H2 (by omega) (by omega) (by omega) h1
      refine ⟨H', ?_, h3⟩
      have hh : ev 170 18 [some (.ref 1000050), some (.ref 0), some (.ref 77), some (.int (nI i))] [] H = ev 170 32 [some (.ref 1000050), some (.ref 0), some (.ref 77), some (.int (nI i))] [.int (nI j)] H := by
        simp (disch := first | omega | assumption | (refine b30 ?_; omega)) only [e170_18, e170_19, e170_20, e170_21, e170_22, e170_23, e170_26, e170_27, e170_28, e170_29, e170_31, kv_s, kh_s, kn_s, kc_v, kc_n, hlen, hnc, hal, hx, if_false]
      have h9 : ev 170 797 [some (.ref 1000050), some (.ref 0), some (.ref 77), some (.int (nI i))] [] H2 = ev 170 18 [some (.ref 1000050), some (.ref 0), some (.ref 77), some (.int (nI (i + 4)))] [] H2 := by
        simp (disch := first | omega | assumption | (refine b30 ?_; omega)) only [e170_797, e170_800, nI_add]
      exact (hh.trans (h2.trans h9)).trans e
end
