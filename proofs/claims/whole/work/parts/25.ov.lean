-- PART 25: regions of the heap; the means on the heap
def OV (lo n : Nat) (g : Nat → Option pi_E) (H : pi_H) : pi_H := (fun k => if lo ≤ k ∧ k < lo + n then g (k - lo) else H.1 k, H.2)
theorem SH_OV (H : pi_H) (o : Nat) (a : sT) : SH H o a = OV o 6 (shc a o) H := rfl
theorem OV_comm (H : pi_H) (l1 n1 l2 n2 : Nat) (g1 g2 : Nat → Option pi_E) (h : l1 + n1 ≤ l2 ∨ l2 + n2 ≤ l1) : OV l1 n1 g1 (OV l2 n2 g2 H) = OV l2 n2 g2 (OV l1 n1 g1 H) := by
  unfold OV
  congr 1
  funext k
  dsimp only
  by_cases h1 : l1 ≤ k ∧ k < l1 + n1
  · rw [if_pos h1, if_neg (by omega), if_pos h1]
  · rw [if_neg h1, if_neg h1]
theorem OV_two (H : pi_H) (lo n : Nat) (g1 g2 : Nat → Option pi_E) : OV lo n g1 (OV lo n g2 H) = OV lo n g1 H := by
  unfold OV
  congr 1
  funext k
  dsimp only
  by_cases h1 : lo ≤ k ∧ k < lo + n
  · rw [if_pos h1, if_pos h1]
  · rw [if_neg h1, if_neg h1, if_neg h1]
theorem OV_g (H : pi_H) (lo n : Nat) (g : Nat → Option pi_E) (k : Nat) (h : lo ≤ k ∧ k < lo + n) : pi_get (OV lo n g H) k = g (k - lo) := if_pos h
theorem OV_gn (H : pi_H) (lo n : Nat) (g : Nat → Option pi_E) (k : Nat) (h : k < lo ∨ lo + n ≤ k) : pi_get (OV lo n g H) k = pi_get H k := if_neg (by omega)
theorem OV_set (H : pi_H) (lo n : Nat) (g g' : Nat → Option pi_E) (k : Nat) (h : lo ≤ k ∧ k < lo + n) (e : pi_E) (he : g' (k - lo) = some e) (hn : ∀ i, i < n → i ≠ k - lo → g' i = g i) : pi_set (OV lo n g H) k e = OV lo n g' H := by
  unfold pi_set OV
  congr 1
  funext q
  dsimp only
  by_cases hq : q = k
  · subst hq
    rw [if_pos rfl, if_pos h, he]
  · rw [if_neg hq]
    by_cases h1 : lo ≤ q ∧ q < lo + n
    · rw [if_pos h1, if_pos h1, hn _ (by omega) (by omega)]
    · rw [if_neg h1, if_neg h1]
theorem OV_setn (H : pi_H) (lo n : Nat) (g : Nat → Option pi_E) (k : Nat) (h : k < lo ∨ lo + n ≤ k) (e : pi_E) : pi_set (OV lo n g H) k e = OV lo n g (pi_set H k e) := by
  unfold pi_set OV
  congr 1
  funext q
  dsimp only
  by_cases hq : q = k
  · subst hq
    rw [if_pos rfl, if_neg (by omega), if_pos rfl]
  · rw [if_neg hq, if_neg hq]
abbrev lT : Type := Nat → Nat → Nat → Int64
abbrev bT : Type := Nat → Nat → Int32
def u3 (μ : lT) (t r i : Nat) (x : Int64) : lT := fun t' r' i' => if t' = t ∧ r' = r ∧ i' = i then x else μ t' r' i'
def ub (β : bT) (r i : Nat) (x : Int32) : bT := fun r' i' => if r' = r ∧ i' = i then x else β r' i'
def rows (b : Nat) : Nat → Option Nat := fun i => if i < 7 then some (i + (b + 1)) else none
/-- the cells of the means: 0 the object, 1 powers, 2 prices, 3 leasts (4..10), 11 values (12..18), 19 bests (20..26), 27 plans (28..34) -/
def mec (μ : lT) (β : bT) (fl fh : Int32) (fc : Int64) (j : Nat) : Option pi_E :=
  if j = 0 then some (.inr (1, [.ref 40, .ref 41, .ref 42, .ref 50, .ref 58, .ref 66, .int fl, .int fh, .long fc]))
  else if j = 1 then some (.inl (2, 7, .inr (.inl (μ 0 0))))
  else if j = 2 then some (.inl (2, 21, .inr (.inl (μ 1 0))))
  else if j = 3 then some (.inl (5, 7, .inr (.inr (.inr (.inr (rows 42))))))
  else if j < 11 then some (.inl (2, 21, .inr (.inl (μ 2 (j - 4)))))
  else if j = 11 then some (.inl (5, 7, .inr (.inr (.inr (.inr (rows 50))))))
  else if j < 19 then some (.inl (2, 21, .inr (.inl (μ 3 (j - 12)))))
  else if j = 19 then some (.inl (4, 7, .inr (.inr (.inr (.inr (rows 58))))))
  else if j < 27 then some (.inl (0, 21, .inl (β (j - 20))))
  else if j = 27 then some (.inl (5, 7, .inr (.inr (.inr (.inr (rows 66))))))
  else some (.inl (2, 21, .inr (.inl (μ 4 (j - 28)))))
def ME (H : pi_H) (μ : lT) (β : bT) (fl fh : Int32) (fc : Int64) : pi_H := OV 39 35 (mec μ β fl fh fc) H
section
variable (H : pi_H) (μ : lT) (β : bT) (fl fh : Int32) (fc : Int64)
theorem ME_g (k : Nat) (h : 39 ≤ k ∧ k < 74) : pi_get (ME H μ β fl fh fc) k = mec μ β fl fh fc (k - 39) := OV_g _ _ _ _ _ (by omega)
theorem ME_gn (k : Nat) (h : k < 39 ∨ 74 ≤ k) : pi_get (ME H μ β fl fh fc) k = pi_get H k := OV_gn _ _ _ _ _ (by omega)
theorem ME_isO : pi_isO (pi_get (ME H μ β fl fh fc) 39) 1 = true := by rw [ME_g _ _ _ _ _ _ _ (by omega)]; rfl
theorem ME_f0 : pi_fv (pi_get (ME H μ β fl fh fc) 39) 1 0 = some (.ref 40) := by rw [ME_g _ _ _ _ _ _ _ (by omega)]; rfl
theorem ME_f1 : pi_fv (pi_get (ME H μ β fl fh fc) 39) 1 1 = some (.ref 41) := by rw [ME_g _ _ _ _ _ _ _ (by omega)]; rfl
theorem ME_f2 : pi_fv (pi_get (ME H μ β fl fh fc) 39) 1 2 = some (.ref 42) := by rw [ME_g _ _ _ _ _ _ _ (by omega)]; rfl
theorem ME_f3 : pi_fv (pi_get (ME H μ β fl fh fc) 39) 1 3 = some (.ref 50) := by rw [ME_g _ _ _ _ _ _ _ (by omega)]; rfl
theorem ME_f4 : pi_fv (pi_get (ME H μ β fl fh fc) 39) 1 4 = some (.ref 58) := by rw [ME_g _ _ _ _ _ _ _ (by omega)]; rfl
theorem ME_f5 : pi_fv (pi_get (ME H μ β fl fh fc) 39) 1 5 = some (.ref 66) := by rw [ME_g _ _ _ _ _ _ _ (by omega)]; rfl
theorem ME_f6 : pi_fv (pi_get (ME H μ β fl fh fc) 39) 1 6 = some (.int fl) := by rw [ME_g _ _ _ _ _ _ _ (by omega)]; rfl
theorem ME_f7 : pi_fv (pi_get (ME H μ β fl fh fc) 39) 1 7 = some (.int fh) := by rw [ME_g _ _ _ _ _ _ _ (by omega)]; rfl
theorem ME_f8 : pi_fv (pi_get (ME H μ β fl fh fc) 39) 1 8 = some (.long fc) := by rw [ME_g _ _ _ _ _ _ _ (by omega)]; rfl
theorem al_l {n : Nat} {f : Nat → Int64} {j : Nat} (hj : j < n) (hn : n < 2 ^ 31) : pi_al (some (.inl (2, n, .inr (.inl f)))) (nI j) 3 = some (.long (f j)) := by
  unfold pi_al pi_in
  simp [nI_clamp (n := j) (by omega), nI_pos (n := j) (by omega), hj]
theorem al_r {b t : Nat} (ht : t = 5 ∨ t = 4) (hb : b < 1000) {j : Nat} (hj : j < 7) : pi_al (some (.inl (t, 7, .inr (.inr (.inr (.inr (rows b))))))) (nI j) 4 = some (.ref (j + (b + 1))) := by
  unfold pi_al pi_in rows
  have : j + (b + 1) < 1000000 := by omega
  rcases ht with rfl | rfl <;> simp [nI_clamp (n := j) (by omega), nI_pos (n := j) (by omega), hj, this]
theorem ME_a0 (j : Nat) (hj : j < 7) : pi_al (pi_get (ME H μ β fl fh fc) 40) (nI j) 3 = some (.long (μ 0 0 j)) := by
  rw [ME_g _ _ _ _ _ _ _ (by omega)]
  exact al_l hj (by omega)
theorem ME_a1 (j : Nat) (hj : j < 21) : pi_al (pi_get (ME H μ β fl fh fc) 41) (nI j) 3 = some (.long (μ 1 0 j)) := by
  rw [ME_g _ _ _ _ _ _ _ (by omega)]
  exact al_l hj (by omega)
theorem ME_r2 (r : Nat) (hr : r < 7) : pi_al (pi_get (ME H μ β fl fh fc) 42) (nI r) 4 = some (.ref (r + 43)) := by
  rw [ME_g _ _ _ _ _ _ _ (by omega)]
  exact al_r (.inl rfl) (by omega) hr
theorem ME_r3 (r : Nat) (hr : r < 7) : pi_al (pi_get (ME H μ β fl fh fc) 50) (nI r) 4 = some (.ref (r + 51)) := by
  rw [ME_g _ _ _ _ _ _ _ (by omega)]
  exact al_r (.inl rfl) (by omega) hr
theorem ME_r4 (r : Nat) (hr : r < 7) : pi_al (pi_get (ME H μ β fl fh fc) 58) (nI r) 4 = some (.ref (r + 59)) := by
  rw [ME_g _ _ _ _ _ _ _ (by omega)]
  exact al_r (.inr rfl) (by omega) hr
theorem ME_r5 (r : Nat) (hr : r < 7) : pi_al (pi_get (ME H μ β fl fh fc) 66) (nI r) 4 = some (.ref (r + 67)) := by
  rw [ME_g _ _ _ _ _ _ _ (by omega)]
  exact al_r (.inl rfl) (by omega) hr
theorem ME_g2 (r : Nat) (hr : r < 7) : pi_get (ME H μ β fl fh fc) (r + 43) = some (.inl (2, 21, .inr (.inl (μ 2 r)))) := by
  rw [ME_g _ _ _ _ _ _ _ (by omega), show r + 43 - 39 = r + 4 by omega]
  unfold mec
  rw [if_neg (by omega), if_neg (by omega), if_neg (by omega), if_neg (by omega), if_pos (by omega), show r + 4 - 4 = r by omega]
theorem ME_g3 (r : Nat) (hr : r < 7) : pi_get (ME H μ β fl fh fc) (r + 51) = some (.inl (2, 21, .inr (.inl (μ 3 r)))) := by
  rw [ME_g _ _ _ _ _ _ _ (by omega), show r + 51 - 39 = r + 12 by omega]
  unfold mec
  rw [if_neg (by omega), if_neg (by omega), if_neg (by omega), if_neg (by omega), if_neg (by omega), if_neg (by omega), if_pos (by omega), show r + 12 - 12 = r by omega]
theorem ME_g4 (r : Nat) (hr : r < 7) : pi_get (ME H μ β fl fh fc) (r + 59) = some (.inl (0, 21, .inl (β r))) := by
  rw [ME_g _ _ _ _ _ _ _ (by omega), show r + 59 - 39 = r + 20 by omega]
  unfold mec
  rw [if_neg (by omega), if_neg (by omega), if_neg (by omega), if_neg (by omega), if_neg (by omega), if_neg (by omega), if_neg (by omega), if_neg (by omega), if_pos (by omega), show r + 20 - 20 = r by omega]
theorem ME_g5 (r : Nat) (hr : r < 7) : pi_get (ME H μ β fl fh fc) (r + 67) = some (.inl (2, 21, .inr (.inl (μ 4 r)))) := by
  rw [ME_g _ _ _ _ _ _ _ (by omega), show r + 67 - 39 = r + 28 by omega]
  unfold mec
  rw [if_neg (by omega), if_neg (by omega), if_neg (by omega), if_neg (by omega), if_neg (by omega), if_neg (by omega), if_neg (by omega), if_neg (by omega), if_neg (by omega), if_neg (by omega), show r + 28 - 28 = r by omega]
theorem ME_a2 (r j : Nat) (hr : r < 7) (hj : j < 21) : pi_al (pi_get (ME H μ β fl fh fc) (r + 43)) (nI j) 3 = some (.long (μ 2 r j)) := by
  rw [ME_g2 _ _ _ _ _ _ _ hr]
  exact al_l hj (by omega)
theorem ME_a3 (r j : Nat) (hr : r < 7) (hj : j < 21) : pi_al (pi_get (ME H μ β fl fh fc) (r + 51)) (nI j) 3 = some (.long (μ 3 r j)) := by
  rw [ME_g3 _ _ _ _ _ _ _ hr]
  exact al_l hj (by omega)
theorem ME_a4 (r j : Nat) (hr : r < 7) (hj : j < 21) : pi_al (pi_get (ME H μ β fl fh fc) (r + 59)) (nI j) 0 = some (.int (β r j)) := by
  rw [ME_g4 _ _ _ _ _ _ _ hr]
  exact al_i hj (by omega)
theorem ME_a5 (r j : Nat) (hr : r < 7) (hj : j < 21) : pi_al (pi_get (ME H μ β fl fh fc) (r + 67)) (nI j) 3 = some (.long (μ 4 r j)) := by
  rw [ME_g5 _ _ _ _ _ _ _ hr]
  exact al_l hj (by omega)
theorem as_l {H : pi_H} {a n : Nat} {f : Nat → Int64} {j : Nat} {x : Int64} (hg : pi_get H a = some (.inl (2, n, .inr (.inl f)))) (hj : j < n) (hn : n < 2 ^ 31) : pi_as H a (nI j) (.long x) 3 = some (pi_set H a (.inl (2, n, .inr (.inl (vp_updL f j x))))) := by
  unfold pi_as pi_in
  rw [hg]
  simp [nI_clamp (n := j) (by omega), nI_pos (n := j) (by omega), hj]
theorem u3_ne (t r i : Nat) (x : Int64) (t' r' : Nat) (h : ¬ (t' = t ∧ r' = r)) : u3 μ t r i x t' r' = μ t' r' := by
  funext i'
  exact if_neg (fun e => h ⟨e.1, e.2.1⟩)
theorem u3_eq (t r i : Nat) (x : Int64) : u3 μ t r i x t r = vp_updL (μ t r) i x := by
  funext i'
  unfold u3 vp_updL
  simp
theorem ub_ne (r i : Nat) (x : Int32) (r' : Nat) (h : ¬ r' = r) : ub β r i x r' = β r' := by
  funext i'
  exact if_neg (fun e => h e.1)
theorem ub_eq (r i : Nat) (x : Int32) : ub β r i x r = upd (β r) i x := by
  funext i'
  unfold ub upd
  simp
theorem mec_c (μ μ' : lT) (j : Nat) (h0 : j = 1 → μ' 0 0 = μ 0 0) (h1 : j = 2 → μ' 1 0 = μ 1 0) (h2 : 4 ≤ j → j < 11 → μ' 2 (j - 4) = μ 2 (j - 4)) (h3 : 12 ≤ j → j < 19 → μ' 3 (j - 12) = μ 3 (j - 12)) (h4 : 28 ≤ j → μ' 4 (j - 28) = μ 4 (j - 28)) : mec μ' β fl fh fc j = mec μ β fl fh fc j := by
  unfold mec
  by_cases q0 : j = 0
  · rw [if_pos q0, if_pos q0]
  rw [if_neg q0, if_neg q0]
  by_cases q1 : j = 1
  · rw [if_pos q1, if_pos q1, h0 q1]
  rw [if_neg q1, if_neg q1]
  by_cases q2 : j = 2
  · rw [if_pos q2, if_pos q2, h1 q2]
  rw [if_neg q2, if_neg q2]
  by_cases q3 : j = 3
  · rw [if_pos q3, if_pos q3]
  rw [if_neg q3, if_neg q3]
  by_cases q4 : j < 11
  · rw [if_pos q4, if_pos q4, h2 (by omega) q4]
  rw [if_neg q4, if_neg q4]
  by_cases q5 : j = 11
  · rw [if_pos q5, if_pos q5]
  rw [if_neg q5, if_neg q5]
  by_cases q6 : j < 19
  · rw [if_pos q6, if_pos q6, h3 (by omega) q6]
  rw [if_neg q6, if_neg q6]
  by_cases q7 : j = 19
  · rw [if_pos q7, if_pos q7]
  rw [if_neg q7, if_neg q7]
  by_cases q8 : j < 27
  · rw [if_pos q8, if_pos q8]
  rw [if_neg q8, if_neg q8]
  by_cases q9 : j = 27
  · rw [if_pos q9, if_pos q9]
  rw [if_neg q9, if_neg q9, h4 (by omega)]
theorem ME_w0 (j : Nat) (hj : j < 7) (x : Int64) : pi_as (ME H μ β fl fh fc) 40 (nI j) (.long x) 3 = some (ME H (u3 μ 0 0 j x) β fl fh fc) := by
  rw [as_l (n := 7) (f := μ 0 0) (by rw [ME_g _ _ _ _ _ _ _ (by omega)]; rfl) hj (by omega)]
  refine congrArg some (OV_set _ _ _ _ _ _ (by omega) _ ?_ ?_)
  · show some _ = _
    rw [u3_eq]
  · intro i hi hne
    exact mec_c _ _ _ _ _ _ _ (fun h => absurd h hne) (fun h => u3_ne _ _ _ _ _ _ _ (by omega)) (fun _ _ => u3_ne _ _ _ _ _ _ _ (by omega)) (fun _ _ => u3_ne _ _ _ _ _ _ _ (by omega)) (fun _ => u3_ne _ _ _ _ _ _ _ (by omega))
theorem ME_w1 (j : Nat) (hj : j < 21) (x : Int64) : pi_as (ME H μ β fl fh fc) 41 (nI j) (.long x) 3 = some (ME H (u3 μ 1 0 j x) β fl fh fc) := by
  rw [as_l (n := 21) (f := μ 1 0) (by rw [ME_g _ _ _ _ _ _ _ (by omega)]; rfl) hj (by omega)]
  refine congrArg some (OV_set _ _ _ _ _ _ (by omega) _ ?_ ?_)
  · show some _ = _
    rw [u3_eq]
  · intro i hi hne
    exact mec_c _ _ _ _ _ _ _ (fun h => u3_ne _ _ _ _ _ _ _ (by omega)) (fun h => absurd h hne) (fun _ _ => u3_ne _ _ _ _ _ _ _ (by omega)) (fun _ _ => u3_ne _ _ _ _ _ _ _ (by omega)) (fun _ => u3_ne _ _ _ _ _ _ _ (by omega))
theorem mec_2 (r : Nat) (hr : r < 7) : mec μ β fl fh fc (r + 43 - 39) = some (.inl (2, 21, .inr (.inl (μ 2 r)))) := (ME_g (fun _ => none, 0, 0) μ β fl fh fc (r + 43) (by omega)).symm.trans (ME_g2 (fun _ => none, 0, 0) μ β fl fh fc r hr)
theorem mec_3 (r : Nat) (hr : r < 7) : mec μ β fl fh fc (r + 51 - 39) = some (.inl (2, 21, .inr (.inl (μ 3 r)))) := (ME_g (fun _ => none, 0, 0) μ β fl fh fc (r + 51) (by omega)).symm.trans (ME_g3 (fun _ => none, 0, 0) μ β fl fh fc r hr)
theorem mec_4 (r : Nat) (hr : r < 7) : mec μ β fl fh fc (r + 59 - 39) = some (.inl (0, 21, .inl (β r))) := (ME_g (fun _ => none, 0, 0) μ β fl fh fc (r + 59) (by omega)).symm.trans (ME_g4 (fun _ => none, 0, 0) μ β fl fh fc r hr)
theorem mec_5 (r : Nat) (hr : r < 7) : mec μ β fl fh fc (r + 67 - 39) = some (.inl (2, 21, .inr (.inl (μ 4 r)))) := (ME_g (fun _ => none, 0, 0) μ β fl fh fc (r + 67) (by omega)).symm.trans (ME_g5 (fun _ => none, 0, 0) μ β fl fh fc r hr)
theorem ME_w2 (r j : Nat) (hr : r < 7) (hj : j < 21) (x : Int64) : pi_as (ME H μ β fl fh fc) (r + 43) (nI j) (.long x) 3 = some (ME H (u3 μ 2 r j x) β fl fh fc) := by
  rw [as_l (ME_g2 H μ β fl fh fc r hr) hj (by omega)]
  refine congrArg some (OV_set _ _ _ _ _ _ (by omega) _ ?_ ?_)
  · rw [mec_2 _ _ _ _ _ _ hr, u3_eq]
  · intro i hi hne
    exact mec_c _ _ _ _ _ _ _ (fun h => u3_ne _ _ _ _ _ _ _ (by omega)) (fun h => u3_ne _ _ _ _ _ _ _ (by omega)) (fun _ _ => u3_ne _ _ _ _ _ _ _ (by omega)) (fun _ _ => u3_ne _ _ _ _ _ _ _ (by omega)) (fun _ => u3_ne _ _ _ _ _ _ _ (by omega))
theorem ME_w3 (r j : Nat) (hr : r < 7) (hj : j < 21) (x : Int64) : pi_as (ME H μ β fl fh fc) (r + 51) (nI j) (.long x) 3 = some (ME H (u3 μ 3 r j x) β fl fh fc) := by
  rw [as_l (ME_g3 H μ β fl fh fc r hr) hj (by omega)]
  refine congrArg some (OV_set _ _ _ _ _ _ (by omega) _ ?_ ?_)
  · rw [mec_3 _ _ _ _ _ _ hr, u3_eq]
  · intro i hi hne
    exact mec_c _ _ _ _ _ _ _ (fun h => u3_ne _ _ _ _ _ _ _ (by omega)) (fun h => u3_ne _ _ _ _ _ _ _ (by omega)) (fun _ _ => u3_ne _ _ _ _ _ _ _ (by omega)) (fun _ _ => u3_ne _ _ _ _ _ _ _ (by omega)) (fun _ => u3_ne _ _ _ _ _ _ _ (by omega))
theorem ME_w5 (r j : Nat) (hr : r < 7) (hj : j < 21) (x : Int64) : pi_as (ME H μ β fl fh fc) (r + 67) (nI j) (.long x) 3 = some (ME H (u3 μ 4 r j x) β fl fh fc) := by
  rw [as_l (ME_g5 H μ β fl fh fc r hr) hj (by omega)]
  refine congrArg some (OV_set _ _ _ _ _ _ (by omega) _ ?_ ?_)
  · rw [mec_5 _ _ _ _ _ _ hr, u3_eq]
  · intro i hi hne
    exact mec_c _ _ _ _ _ _ _ (fun h => u3_ne _ _ _ _ _ _ _ (by omega)) (fun h => u3_ne _ _ _ _ _ _ _ (by omega)) (fun _ _ => u3_ne _ _ _ _ _ _ _ (by omega)) (fun _ _ => u3_ne _ _ _ _ _ _ _ (by omega)) (fun _ => u3_ne _ _ _ _ _ _ _ (by omega))
theorem ME_w4 (r j : Nat) (hr : r < 7) (hj : j < 21) (x : Int32) : pi_as (ME H μ β fl fh fc) (r + 59) (nI j) (.int x) 0 = some (ME H μ (ub β r j x) fl fh fc) := by
  rw [as_i (ME_g4 H μ β fl fh fc r hr) hj (by omega)]
  refine congrArg some (OV_set _ _ _ _ _ _ (by omega) _ ?_ ?_)
  · rw [mec_4 _ _ _ _ _ _ hr, ub_eq]
  · intro i hi hne
    by_cases h : 20 ≤ i ∧ i < 27
    · have e1 := mec_4 μ (ub β r j x) fl fh fc (i - 20) (by omega)
      have e2 := mec_4 μ β fl fh fc (i - 20) (by omega)
      rw [show i - 20 + 59 - 39 = i by omega] at e1 e2
      rw [e1, e2, ub_ne _ _ _ _ _ (by omega)]
    · unfold mec
      by_cases h1 : i < 20
      · simp only [h1, show i < 27 by omega, show ¬ i = 27 by omega, if_true, if_false]
        try ((repeat' split) <;> first | rfl | omega)
      · have h9 : ¬ i < 27 := by omega
        simp only [h9, if_false]
        try ((repeat' split) <;> first | rfl | omega)
theorem ME_p6 (x : Int32) : pi_pf (ME H μ β fl fh fc) 39 1 6 (.int x) = some (ME H μ β x fh fc) := by
  rw [pf_o (.int x) ((ME_g H μ β fl fh fc 39 (by omega)).trans rfl) (by simp) (by omega)]
  refine congrArg some (OV_set _ _ _ _ _ _ (by omega) _ rfl ?_)
  intro i hi hne
  unfold mec
  rw [if_neg hne, if_neg hne]
theorem ME_p7 (x : Int32) : pi_pf (ME H μ β fl fh fc) 39 1 7 (.int x) = some (ME H μ β fl x fc) := by
  rw [pf_o (.int x) ((ME_g H μ β fl fh fc 39 (by omega)).trans rfl) (by simp) (by omega)]
  refine congrArg some (OV_set _ _ _ _ _ _ (by omega) _ rfl ?_)
  intro i hi hne
  unfold mec
  rw [if_neg hne, if_neg hne]
theorem ME_p8 (x : Int64) : pi_pf (ME H μ β fl fh fc) 39 1 8 (.long x) = some (ME H μ β fl fh x) := by
  rw [pf_o (.long x) ((ME_g H μ β fl fh fc 39 (by omega)).trans rfl) (by simp) (by omega)]
  refine congrArg some (OV_set _ _ _ _ _ _ (by omega) _ rfl ?_)
  intro i hi hne
  unfold mec
  rw [if_neg hne, if_neg hne]
end
