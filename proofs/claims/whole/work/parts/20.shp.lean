-- PART 20: shops on the heap
abbrev sT : Type := Nat → Nat → Nat
def cl (n : Nat) (f : Nat → Nat) : Nat → Int32 := fun i => if i < n then nI (f i) else 0
def u2 (a : sT) (k j x : Nat) : sT := fun k' j' => if k' = k ∧ j' = j then x else a k' j'
def shc (a : sT) (o j : Nat) : Option pi_E := match j with
  | 0 => some (.inr (3, [.ref (o + 1), .ref (o + 2), .ref (o + 3), .ref (o + 4), .ref (o + 5), .int (nI (a 5 0)), .int (nI (a 6 0)), .int (nI (a 7 0)), .int (nI (a 8 0)), .int (nI (a 9 0)), .int (nI (a 10 0)), .int (nI (a 11 0)), .int (nI (a 12 0)), .int (nI (a 13 0))]))
  | 1 => some (.inl (0, 7, .inl (cl 7 (a 0))))
  | 2 => some (.inl (0, 5, .inl (cl 5 (a 1))))
  | 3 => some (.inl (0, 7, .inl (cl 7 (a 2))))
  | 4 => some (.inl (0, 7, .inl (cl 7 (a 3))))
  | _ => some (.inl (0, 24, .inl (cl 24 (a 4))))
def SH (H : pi_H) (o : Nat) (a : sT) : pi_H := (fun k => if o ≤ k ∧ k < o + 6 then shc a o (k - o) else H.1 k, H.2)
theorem SH_g (H : pi_H) (o : Nat) (a : sT) (j : Nat) (hj : j < 6) : pi_get (SH H o a) (o + j) = shc a o j := by
  show (if o ≤ o + j ∧ o + j < o + 6 then shc a o (o + j - o) else H.1 (o + j)) = _
  rw [if_pos (by omega), show o + j - o = j by omega]
theorem SH_g0 (H : pi_H) (o : Nat) (a : sT) : pi_get (SH H o a) o = shc a o 0 := SH_g H o a 0 (by omega)
theorem SH_gn (H : pi_H) (o : Nat) (a : sT) (k : Nat) (hk : k < o ∨ o + 6 ≤ k) : pi_get (SH H o a) k = pi_get H k := by
  show (if o ≤ k ∧ k < o + 6 then shc a o (k - o) else H.1 k) = _
  rw [if_neg (by omega)]
  rfl
theorem SH_set (H : pi_H) (o : Nat) (a b : sT) (j : Nat) (hj : j < 6) (e : pi_E) (he : shc b o j = some e) (hn : ∀ i, i < 6 → i ≠ j → shc b o i = shc a o i) : pi_set (SH H o a) (o + j) e = SH H o b := by
  unfold pi_set SH
  congr 1
  funext k
  dsimp only
  by_cases hk : k = o + j
  · subst hk
    rw [if_pos rfl, if_pos (by omega), show o + j - o = j by omega, he]
  · rw [if_neg hk]
    by_cases h : o ≤ k ∧ k < o + 6
    · rw [if_pos h, if_pos h, hn (k - o) (by omega) (by omega)]
    · rw [if_neg h, if_neg h]
theorem SH_two (H : pi_H) (o : Nat) (a b : sT) : SH (SH H o a) o b = SH H o b := by
  unfold SH
  congr 1
  funext k
  dsimp only
  by_cases h : o ≤ k ∧ k < o + 6
  · rw [if_pos h, if_pos h]
  · rw [if_neg h, if_neg h, if_neg h]
theorem SH_comm (H : pi_H) (o p : Nat) (a b : sT) (h : o + 6 ≤ p ∨ p + 6 ≤ o) : SH (SH H o a) p b = SH (SH H p b) o a := by
  unfold SH
  congr 1
  funext k
  dsimp only
  by_cases h1 : o ≤ k ∧ k < o + 6
  · rw [if_neg (by omega), if_pos h1, if_pos h1]
  · rw [if_neg h1, if_neg h1]
/-! what is read -/
theorem SH_isO (H : pi_H) (o : Nat) (a : sT) : pi_isO (pi_get (SH H o a) o) 3 = true := by rw [SH_g0]; rfl
theorem SH_f0 (H : pi_H) (o : Nat) (a : sT) : pi_fv (pi_get (SH H o a) o) 3 0 = some (.ref (o + 1)) := by rw [SH_g0]; rfl
theorem SH_f1 (H : pi_H) (o : Nat) (a : sT) : pi_fv (pi_get (SH H o a) o) 3 1 = some (.ref (o + 2)) := by rw [SH_g0]; rfl
theorem SH_f2 (H : pi_H) (o : Nat) (a : sT) : pi_fv (pi_get (SH H o a) o) 3 2 = some (.ref (o + 3)) := by rw [SH_g0]; rfl
theorem SH_f3 (H : pi_H) (o : Nat) (a : sT) : pi_fv (pi_get (SH H o a) o) 3 3 = some (.ref (o + 4)) := by rw [SH_g0]; rfl
theorem SH_f4 (H : pi_H) (o : Nat) (a : sT) : pi_fv (pi_get (SH H o a) o) 3 4 = some (.ref (o + 5)) := by rw [SH_g0]; rfl
theorem SH_f5 (H : pi_H) (o : Nat) (a : sT) : pi_fv (pi_get (SH H o a) o) 3 5 = some (.int (nI (a 5 0))) := by rw [SH_g0]; rfl
theorem SH_f6 (H : pi_H) (o : Nat) (a : sT) : pi_fv (pi_get (SH H o a) o) 3 6 = some (.int (nI (a 6 0))) := by rw [SH_g0]; rfl
theorem SH_f7 (H : pi_H) (o : Nat) (a : sT) : pi_fv (pi_get (SH H o a) o) 3 7 = some (.int (nI (a 7 0))) := by rw [SH_g0]; rfl
theorem SH_f8 (H : pi_H) (o : Nat) (a : sT) : pi_fv (pi_get (SH H o a) o) 3 8 = some (.int (nI (a 8 0))) := by rw [SH_g0]; rfl
theorem SH_f9 (H : pi_H) (o : Nat) (a : sT) : pi_fv (pi_get (SH H o a) o) 3 9 = some (.int (nI (a 9 0))) := by rw [SH_g0]; rfl
theorem SH_f10 (H : pi_H) (o : Nat) (a : sT) : pi_fv (pi_get (SH H o a) o) 3 10 = some (.int (nI (a 10 0))) := by rw [SH_g0]; rfl
theorem SH_f11 (H : pi_H) (o : Nat) (a : sT) : pi_fv (pi_get (SH H o a) o) 3 11 = some (.int (nI (a 11 0))) := by rw [SH_g0]; rfl
theorem SH_f12 (H : pi_H) (o : Nat) (a : sT) : pi_fv (pi_get (SH H o a) o) 3 12 = some (.int (nI (a 12 0))) := by rw [SH_g0]; rfl
theorem SH_f13 (H : pi_H) (o : Nat) (a : sT) : pi_fv (pi_get (SH H o a) o) 3 13 = some (.int (nI (a 13 0))) := by rw [SH_g0]; rfl
theorem al_i {n : Nat} {f : Nat → Int32} {j : Nat} (hj : j < n) (hn : n < 2 ^ 31) : pi_al (some (.inl (0, n, .inl f))) (nI j) 0 = some (.int (f j)) := by
  have hc := nI_clamp (n := j) (by omega)
  have hp := nI_pos (n := j) (by omega)
  unfold pi_al
  dsimp only
  have h : pi_in (nI j) n = true := by
    unfold pi_in
    rw [hc]
    simp [hp, hj]
  rw [h, hc]
  rfl
theorem cl_j {n : Nat} {f : Nat → Nat} {j : Nat} (hj : j < n) : cl n f j = nI (f j) := if_pos hj
theorem SH_a0 (H : pi_H) (o : Nat) (a : sT) (j : Nat) (hj : j < 7) : pi_al (pi_get (SH H o a) (o + 1)) (nI j) 0 = some (.int (nI (a 0 j))) := by
  rw [SH_g H o a 1 (by omega)]
  exact (al_i hj (by omega)).trans (by rw [cl_j hj])
theorem SH_a1 (H : pi_H) (o : Nat) (a : sT) (j : Nat) (hj : j < 5) : pi_al (pi_get (SH H o a) (o + 2)) (nI j) 0 = some (.int (nI (a 1 j))) := by
  rw [SH_g H o a 2 (by omega)]
  exact (al_i hj (by omega)).trans (by rw [cl_j hj])
theorem SH_a2 (H : pi_H) (o : Nat) (a : sT) (j : Nat) (hj : j < 7) : pi_al (pi_get (SH H o a) (o + 3)) (nI j) 0 = some (.int (nI (a 2 j))) := by
  rw [SH_g H o a 3 (by omega)]
  exact (al_i hj (by omega)).trans (by rw [cl_j hj])
theorem SH_a3 (H : pi_H) (o : Nat) (a : sT) (j : Nat) (hj : j < 7) : pi_al (pi_get (SH H o a) (o + 4)) (nI j) 0 = some (.int (nI (a 3 j))) := by
  rw [SH_g H o a 4 (by omega)]
  exact (al_i hj (by omega)).trans (by rw [cl_j hj])
theorem SH_a4 (H : pi_H) (o : Nat) (a : sT) (j : Nat) (hj : j < 24) : pi_al (pi_get (SH H o a) (o + 5)) (nI j) 0 = some (.int (nI (a 4 j))) := by
  rw [SH_g H o a 5 (by omega)]
  exact (al_i hj (by omega)).trans (by rw [cl_j hj])
theorem SH_l0 (H : pi_H) (o : Nat) (a : sT) : pi_len (pi_get (SH H o a) (o + 1)) = some 7 := by rw [SH_g H o a 1 (by omega)]; rfl
theorem SH_l1 (H : pi_H) (o : Nat) (a : sT) : pi_len (pi_get (SH H o a) (o + 2)) = some 5 := by rw [SH_g H o a 2 (by omega)]; rfl
theorem SH_l2 (H : pi_H) (o : Nat) (a : sT) : pi_len (pi_get (SH H o a) (o + 3)) = some 7 := by rw [SH_g H o a 3 (by omega)]; rfl
theorem SH_l3 (H : pi_H) (o : Nat) (a : sT) : pi_len (pi_get (SH H o a) (o + 4)) = some 7 := by rw [SH_g H o a 4 (by omega)]; rfl
theorem SH_l4 (H : pi_H) (o : Nat) (a : sT) : pi_len (pi_get (SH H o a) (o + 5)) = some 24 := by rw [SH_g H o a 5 (by omega)]; rfl
/-! what is written -/
theorem cl_u {n : Nat} {f g : Nat → Nat} {j x : Nat} (hj : j < n) (h : ∀ i, g i = if i = j then x else f i) : upd (cl n f) j (nI x) = cl n g := by
  funext i
  unfold upd cl
  rw [h i]
  by_cases hi : i = j
  · subst hi; rw [if_pos rfl, if_pos hj, if_pos rfl]
  · rw [if_neg hi, if_neg hi]
theorem as_i {H : pi_H} {a n : Nat} {f : Nat → Int32} {j : Nat} {x : Int32} (hg : pi_get H a = some (.inl (0, n, .inl f))) (hj : j < n) (hn : n < 2 ^ 31) : pi_as H a (nI j) (.int x) 0 = some (pi_set H a (.inl (0, n, .inl (upd f j x)))) := by
  have hc := nI_clamp (n := j) (by omega)
  have hp := nI_pos (n := j) (by omega)
  unfold pi_as
  rw [hg]
  dsimp only
  have h : pi_in (nI j) n = true := by
    unfold pi_in
    rw [hc]
    simp [hp, hj]
  rw [h, hc]
  rfl
theorem u2_ne (a : sT) (k j x k' : Nat) (h : k' ≠ k) : u2 a k j x k' = a k' := by
  funext i
  exact if_neg (fun e => h e.1)
theorem SH_w0 (H : pi_H) (o : Nat) (a : sT) (j x : Nat) (hj : j < 7) : pi_as (SH H o a) (o + 1) (nI j) (.int (nI x)) 0 = some (SH H o (u2 a 0 j x)) := by
  rw [as_i (SH_g H o a 1 (by omega)) hj (by omega), SH_set H o a (u2 a 0 j x) 1 (by omega)]
  · show some _ = some _
    rw [cl_u hj (g := u2 a 0 j x 0) (fun i => by unfold u2; simp)]
  · intro i hi hne
    match i, hi, hne with
    | 0, _, _ => rfl
    | 2, _, _ => exact congrArg (fun f => (some (.inl (0, 5, .inl (cl 5 f))) : Option pi_E)) (u2_ne _ _ _ _ _ (by omega))
    | 3, _, _ => exact congrArg (fun f => (some (.inl (0, 7, .inl (cl 7 f))) : Option pi_E)) (u2_ne _ _ _ _ _ (by omega))
    | 4, _, _ => exact congrArg (fun f => (some (.inl (0, 7, .inl (cl 7 f))) : Option pi_E)) (u2_ne _ _ _ _ _ (by omega))
    | 5, _, _ => exact congrArg (fun f => (some (.inl (0, 24, .inl (cl 24 f))) : Option pi_E)) (u2_ne _ _ _ _ _ (by omega))
theorem SH_w1 (H : pi_H) (o : Nat) (a : sT) (j x : Nat) (hj : j < 5) : pi_as (SH H o a) (o + 2) (nI j) (.int (nI x)) 0 = some (SH H o (u2 a 1 j x)) := by
  rw [as_i (SH_g H o a 2 (by omega)) hj (by omega), SH_set H o a (u2 a 1 j x) 2 (by omega)]
  · show some _ = some _
    rw [cl_u hj (g := u2 a 1 j x 1) (fun i => by unfold u2; simp)]
  · intro i hi hne
    match i, hi, hne with
    | 0, _, _ => rfl
    | 1, _, _ => exact congrArg (fun f => (some (.inl (0, 7, .inl (cl 7 f))) : Option pi_E)) (u2_ne _ _ _ _ _ (by omega))
    | 3, _, _ => exact congrArg (fun f => (some (.inl (0, 7, .inl (cl 7 f))) : Option pi_E)) (u2_ne _ _ _ _ _ (by omega))
    | 4, _, _ => exact congrArg (fun f => (some (.inl (0, 7, .inl (cl 7 f))) : Option pi_E)) (u2_ne _ _ _ _ _ (by omega))
    | 5, _, _ => exact congrArg (fun f => (some (.inl (0, 24, .inl (cl 24 f))) : Option pi_E)) (u2_ne _ _ _ _ _ (by omega))
theorem SH_w2 (H : pi_H) (o : Nat) (a : sT) (j x : Nat) (hj : j < 7) : pi_as (SH H o a) (o + 3) (nI j) (.int (nI x)) 0 = some (SH H o (u2 a 2 j x)) := by
  rw [as_i (SH_g H o a 3 (by omega)) hj (by omega), SH_set H o a (u2 a 2 j x) 3 (by omega)]
  · show some _ = some _
    rw [cl_u hj (g := u2 a 2 j x 2) (fun i => by unfold u2; simp)]
  · intro i hi hne
    match i, hi, hne with
    | 0, _, _ => rfl
    | 1, _, _ => exact congrArg (fun f => (some (.inl (0, 7, .inl (cl 7 f))) : Option pi_E)) (u2_ne _ _ _ _ _ (by omega))
    | 2, _, _ => exact congrArg (fun f => (some (.inl (0, 5, .inl (cl 5 f))) : Option pi_E)) (u2_ne _ _ _ _ _ (by omega))
    | 4, _, _ => exact congrArg (fun f => (some (.inl (0, 7, .inl (cl 7 f))) : Option pi_E)) (u2_ne _ _ _ _ _ (by omega))
    | 5, _, _ => exact congrArg (fun f => (some (.inl (0, 24, .inl (cl 24 f))) : Option pi_E)) (u2_ne _ _ _ _ _ (by omega))
theorem SH_w3 (H : pi_H) (o : Nat) (a : sT) (j x : Nat) (hj : j < 7) : pi_as (SH H o a) (o + 4) (nI j) (.int (nI x)) 0 = some (SH H o (u2 a 3 j x)) := by
  rw [as_i (SH_g H o a 4 (by omega)) hj (by omega), SH_set H o a (u2 a 3 j x) 4 (by omega)]
  · show some _ = some _
    rw [cl_u hj (g := u2 a 3 j x 3) (fun i => by unfold u2; simp)]
  · intro i hi hne
    match i, hi, hne with
    | 0, _, _ => rfl
    | 1, _, _ => exact congrArg (fun f => (some (.inl (0, 7, .inl (cl 7 f))) : Option pi_E)) (u2_ne _ _ _ _ _ (by omega))
    | 2, _, _ => exact congrArg (fun f => (some (.inl (0, 5, .inl (cl 5 f))) : Option pi_E)) (u2_ne _ _ _ _ _ (by omega))
    | 3, _, _ => exact congrArg (fun f => (some (.inl (0, 7, .inl (cl 7 f))) : Option pi_E)) (u2_ne _ _ _ _ _ (by omega))
    | 5, _, _ => exact congrArg (fun f => (some (.inl (0, 24, .inl (cl 24 f))) : Option pi_E)) (u2_ne _ _ _ _ _ (by omega))
theorem SH_w4 (H : pi_H) (o : Nat) (a : sT) (j x : Nat) (hj : j < 24) : pi_as (SH H o a) (o + 5) (nI j) (.int (nI x)) 0 = some (SH H o (u2 a 4 j x)) := by
  rw [as_i (SH_g H o a 5 (by omega)) hj (by omega), SH_set H o a (u2 a 4 j x) 5 (by omega)]
  · show some _ = some _
    rw [cl_u hj (g := u2 a 4 j x 4) (fun i => by unfold u2; simp)]
  · intro i hi hne
    match i, hi, hne with
    | 0, _, _ => rfl
    | 1, _, _ => exact congrArg (fun f => (some (.inl (0, 7, .inl (cl 7 f))) : Option pi_E)) (u2_ne _ _ _ _ _ (by omega))
    | 2, _, _ => exact congrArg (fun f => (some (.inl (0, 5, .inl (cl 5 f))) : Option pi_E)) (u2_ne _ _ _ _ _ (by omega))
    | 3, _, _ => exact congrArg (fun f => (some (.inl (0, 7, .inl (cl 7 f))) : Option pi_E)) (u2_ne _ _ _ _ _ (by omega))
    | 4, _, _ => exact congrArg (fun f => (some (.inl (0, 7, .inl (cl 7 f))) : Option pi_E)) (u2_ne _ _ _ _ _ (by omega))
    | 5, _, hne => exact absurd rfl hne
theorem pf_o {H : pi_H} {a c k : Nat} {fs : List Value} (v : Value) (hg : pi_get H a = some (.inr (c, fs))) (hk : k < fs.length) (hc : c < 6) : pi_pf H a c k v = some (pi_set H a (.inr (c, fs.set k v))) := by
  unfold pi_pf
  rw [hg]
  dsimp only
  rw [if_pos (by simp [hk, hc])]
theorem SH_p (H : pi_H) (o : Nat) (a : sT) (k x : Nat) (h5 : 5 ≤ k) (hk : k < 14) : pi_pf (SH H o a) o 3 k (.int (nI x)) = some (SH H o (u2 a k 0 x)) := by
  rw [pf_o (.int (nI x)) ((SH_g0 H o a).trans rfl) (by simpa using hk) (by omega)]
  refine congrArg some (SH_set H o a (u2 a k 0 x) 0 (by omega) _ ?_ ?_)
  · have h : k = 5 ∨ k = 6 ∨ k = 7 ∨ k = 8 ∨ k = 9 ∨ k = 10 ∨ k = 11 ∨ k = 12 ∨ k = 13 := by omega
    rcases h with rfl | rfl | rfl | rfl | rfl | rfl | rfl | rfl | rfl <;> rfl
  · intro i hi hne
    match i, hi, hne with
    | 1, _, _ => exact congrArg (fun f => (some (.inl (0, 7, .inl (cl 7 f))) : Option pi_E)) (u2_ne _ _ _ _ _ (by omega))
    | 2, _, _ => exact congrArg (fun f => (some (.inl (0, 5, .inl (cl 5 f))) : Option pi_E)) (u2_ne _ _ _ _ _ (by omega))
    | 3, _, _ => exact congrArg (fun f => (some (.inl (0, 7, .inl (cl 7 f))) : Option pi_E)) (u2_ne _ _ _ _ _ (by omega))
    | 4, _, _ => exact congrArg (fun f => (some (.inl (0, 7, .inl (cl 7 f))) : Option pi_E)) (u2_ne _ _ _ _ _ (by omega))
    | 5, _, _ => exact congrArg (fun f => (some (.inl (0, 24, .inl (cl 24 f))) : Option pi_E)) (u2_ne _ _ _ _ _ (by omega))
