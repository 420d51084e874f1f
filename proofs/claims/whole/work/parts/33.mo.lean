-- PART 33 (by wip/whole/gen_mo.py): the reference on the heap
abbrev jT : Type := Nat → Nat → Int64
abbrev kT : Type := Nat → Nat
def ul (z : jT) (t i : Nat) (x : Int64) : jT := fun t' i' => if t' = t ∧ i' = i then x else z t' i'
def uk (κ : kT) (k x : Nat) : kT := fun k' => if k' = k then x else κ k'
theorem ul_app (z : jT) (t i : Nat) (x : Int64) (t' i' : Nat) : ul z t i x t' i' = if t' = t ∧ i' = i then x else z t' i' := rfl
theorem uk_app (κ : kT) (k x k' : Nat) : uk κ k x k' = if k' = k then x else κ k' := rfl
def nf (f : Nat → Nat) : Nat → Int32 := fun i => nI (f i)
/-- the cells of the reference: 0 the object, then s, begun, past, text, means, levels, ups, powers, plannedMeans, numbers -/
def moc (ι : sT) (z : jT) (κ : kT) (j : Nat) : Option pi_E := match j with
  | 0 => some (.inr (5, [.ref 78, .ref 79, .ref 80, .int (nI (κ 0)), .ref 81, .int (nI (κ 1)), .ref 82, .ref 83, .ref 84, .ref 85, .ref 86, .int (nI (κ 2)), .int (nI (κ 3)), .int (nI (κ 4)), .ref 87]))
  | 1 => some (.inl (0, 58, .inl (nf (ι 0))))
  | 2 => some (.inl (0, 58, .inl (nf (ι 1))))
  | 3 => some (.inl (0, 232, .inl (nf (ι 2))))
  | 4 => some (.inl (0, 80, .inl (nf (ι 3))))
  | 5 => some (.inl (2, 147, .inr (.inl (z 0))))
  | 6 => some (.inl (2, 147, .inr (.inl (z 1))))
  | 7 => some (.inl (0, 147, .inl (nf (ι 4))))
  | 8 => some (.inl (2, 7, .inr (.inl (z 2))))
  | 9 => some (.inl (2, 147, .inr (.inl (z 3))))
  | _ => some (.inl (0, 3, .inl (nf (ι 5))))
def MO (H : pi_H) (ι : sT) (z : jT) (κ : kT) : pi_H := OV 77 11 (moc ι z κ) H
section
variable (H : pi_H) (ι : sT) (z : jT) (κ : kT)
theorem MO_g (k : Nat) (h : 77 ≤ k ∧ k < 88) : pi_get (MO H ι z κ) k = moc ι z κ (k - 77) := OV_g _ _ _ _ _ (by omega)
theorem MO_gn (k : Nat) (h : k < 77 ∨ 88 ≤ k) : pi_get (MO H ι z κ) k = pi_get H k := OV_gn _ _ _ _ _ (by omega)
theorem MO_isO : pi_isO (pi_get (MO H ι z κ) 77) 5 = true := by rw [MO_g _ _ _ _ _ (by omega)]; rfl
theorem nf_u (f g : Nat → Nat) (j x : Nat) (h : ∀ i, g i = if i = j then x else f i) : upd (nf f) j (nI x) = nf g := by
  funext i
  unfold upd nf
  rw [h i]
  split <;> rfl
theorem ul_ne (t i : Nat) (x : Int64) (t' : Nat) (h : t' ≠ t) : ul z t i x t' = z t' := by
  funext i'
  exact if_neg (fun e => h e.1)
theorem ul_eq (t i : Nat) (x : Int64) : ul z t i x t = vp_updL (z t) i x := by
  funext i'
  unfold ul vp_updL
  simp
theorem uk_ne (k x k' : Nat) (h : k' ≠ k) : uk κ k x k' = κ k' := if_neg h
theorem uk_eq (k x : Nat) : uk κ k x k = x := if_pos rfl
theorem nf_eq (t j x : Nat) : upd (nf (ι t)) j (nI x) = nf (u2 ι t j x t) := nf_u _ _ _ _ (fun i => by unfold u2; simp)
theorem MO_f0 : pi_fv (pi_get (MO H ι z κ) 77) 5 0 = some (.ref 78) := by rw [MO_g _ _ _ _ _ (by omega)]; rfl
theorem MO_f1 : pi_fv (pi_get (MO H ι z κ) 77) 5 1 = some (.ref 79) := by rw [MO_g _ _ _ _ _ (by omega)]; rfl
theorem MO_f2 : pi_fv (pi_get (MO H ι z κ) 77) 5 2 = some (.ref 80) := by rw [MO_g _ _ _ _ _ (by omega)]; rfl
theorem MO_f3 : pi_fv (pi_get (MO H ι z κ) 77) 5 3 = some (.int (nI (κ 0))) := by rw [MO_g _ _ _ _ _ (by omega)]; rfl
theorem MO_f4 : pi_fv (pi_get (MO H ι z κ) 77) 5 4 = some (.ref 81) := by rw [MO_g _ _ _ _ _ (by omega)]; rfl
theorem MO_f5 : pi_fv (pi_get (MO H ι z κ) 77) 5 5 = some (.int (nI (κ 1))) := by rw [MO_g _ _ _ _ _ (by omega)]; rfl
theorem MO_f6 : pi_fv (pi_get (MO H ι z κ) 77) 5 6 = some (.ref 82) := by rw [MO_g _ _ _ _ _ (by omega)]; rfl
theorem MO_f7 : pi_fv (pi_get (MO H ι z κ) 77) 5 7 = some (.ref 83) := by rw [MO_g _ _ _ _ _ (by omega)]; rfl
theorem MO_f8 : pi_fv (pi_get (MO H ι z κ) 77) 5 8 = some (.ref 84) := by rw [MO_g _ _ _ _ _ (by omega)]; rfl
theorem MO_f9 : pi_fv (pi_get (MO H ι z κ) 77) 5 9 = some (.ref 85) := by rw [MO_g _ _ _ _ _ (by omega)]; rfl
theorem MO_f10 : pi_fv (pi_get (MO H ι z κ) 77) 5 10 = some (.ref 86) := by rw [MO_g _ _ _ _ _ (by omega)]; rfl
theorem MO_f11 : pi_fv (pi_get (MO H ι z κ) 77) 5 11 = some (.int (nI (κ 2))) := by rw [MO_g _ _ _ _ _ (by omega)]; rfl
theorem MO_f12 : pi_fv (pi_get (MO H ι z κ) 77) 5 12 = some (.int (nI (κ 3))) := by rw [MO_g _ _ _ _ _ (by omega)]; rfl
theorem MO_f13 : pi_fv (pi_get (MO H ι z κ) 77) 5 13 = some (.int (nI (κ 4))) := by rw [MO_g _ _ _ _ _ (by omega)]; rfl
theorem MO_f14 : pi_fv (pi_get (MO H ι z κ) 77) 5 14 = some (.ref 87) := by rw [MO_g _ _ _ _ _ (by omega)]; rfl
theorem MO_i0 (j : Nat) (hj : j < 58) : pi_al (pi_get (MO H ι z κ) 78) (nI j) 0 = some (.int (nI (ι 0 j))) := by
  rw [MO_g _ _ _ _ _ (by omega)]
  exact al_i hj (by omega)
theorem MO_wi0 (j x : Nat) (hj : j < 58) : pi_as (MO H ι z κ) 78 (nI j) (.int (nI x)) 0 = some (MO H (u2 ι 0 j x) z κ) := by
  rw [as_i (n := 58) (f := nf (ι 0)) (by rw [MO_g _ _ _ _ _ (by omega)]; rfl) hj (by omega)]
  refine congrArg some (OV_set _ _ _ _ _ _ (by omega) _ ?_ ?_)
  · show some _ = _
    rw [nf_eq]
  · intro i hi hne
    match i, hi, hne with
    | 0, _, _ => exact rfl
    | 1, _, hne => exact absurd rfl hne
    | 2, _, _ => exact congrArg (fun f => (some (.inl (0, 58, .inl (nf f))) : Option pi_E)) (u2_ne _ _ _ _ _ (by omega))
    | 3, _, _ => exact congrArg (fun f => (some (.inl (0, 232, .inl (nf f))) : Option pi_E)) (u2_ne _ _ _ _ _ (by omega))
    | 4, _, _ => exact congrArg (fun f => (some (.inl (0, 80, .inl (nf f))) : Option pi_E)) (u2_ne _ _ _ _ _ (by omega))
    | 5, _, _ => exact rfl
    | 6, _, _ => exact rfl
    | 7, _, _ => exact congrArg (fun f => (some (.inl (0, 147, .inl (nf f))) : Option pi_E)) (u2_ne _ _ _ _ _ (by omega))
    | 8, _, _ => exact rfl
    | 9, _, _ => exact rfl
    | 10, _, _ => exact congrArg (fun f => (some (.inl (0, 3, .inl (nf f))) : Option pi_E)) (u2_ne _ _ _ _ _ (by omega))
theorem MO_i1 (j : Nat) (hj : j < 58) : pi_al (pi_get (MO H ι z κ) 79) (nI j) 0 = some (.int (nI (ι 1 j))) := by
  rw [MO_g _ _ _ _ _ (by omega)]
  exact al_i hj (by omega)
theorem MO_wi1 (j x : Nat) (hj : j < 58) : pi_as (MO H ι z κ) 79 (nI j) (.int (nI x)) 0 = some (MO H (u2 ι 1 j x) z κ) := by
  rw [as_i (n := 58) (f := nf (ι 1)) (by rw [MO_g _ _ _ _ _ (by omega)]; rfl) hj (by omega)]
  refine congrArg some (OV_set _ _ _ _ _ _ (by omega) _ ?_ ?_)
  · show some _ = _
    rw [nf_eq]
  · intro i hi hne
    match i, hi, hne with
    | 0, _, _ => exact rfl
    | 1, _, _ => exact congrArg (fun f => (some (.inl (0, 58, .inl (nf f))) : Option pi_E)) (u2_ne _ _ _ _ _ (by omega))
    | 2, _, hne => exact absurd rfl hne
    | 3, _, _ => exact congrArg (fun f => (some (.inl (0, 232, .inl (nf f))) : Option pi_E)) (u2_ne _ _ _ _ _ (by omega))
    | 4, _, _ => exact congrArg (fun f => (some (.inl (0, 80, .inl (nf f))) : Option pi_E)) (u2_ne _ _ _ _ _ (by omega))
    | 5, _, _ => exact rfl
    | 6, _, _ => exact rfl
    | 7, _, _ => exact congrArg (fun f => (some (.inl (0, 147, .inl (nf f))) : Option pi_E)) (u2_ne _ _ _ _ _ (by omega))
    | 8, _, _ => exact rfl
    | 9, _, _ => exact rfl
    | 10, _, _ => exact congrArg (fun f => (some (.inl (0, 3, .inl (nf f))) : Option pi_E)) (u2_ne _ _ _ _ _ (by omega))
theorem MO_i2 (j : Nat) (hj : j < 232) : pi_al (pi_get (MO H ι z κ) 80) (nI j) 0 = some (.int (nI (ι 2 j))) := by
  rw [MO_g _ _ _ _ _ (by omega)]
  exact al_i hj (by omega)
theorem MO_wi2 (j x : Nat) (hj : j < 232) : pi_as (MO H ι z κ) 80 (nI j) (.int (nI x)) 0 = some (MO H (u2 ι 2 j x) z κ) := by
  rw [as_i (n := 232) (f := nf (ι 2)) (by rw [MO_g _ _ _ _ _ (by omega)]; rfl) hj (by omega)]
  refine congrArg some (OV_set _ _ _ _ _ _ (by omega) _ ?_ ?_)
  · show some _ = _
    rw [nf_eq]
  · intro i hi hne
    match i, hi, hne with
    | 0, _, _ => exact rfl
    | 1, _, _ => exact congrArg (fun f => (some (.inl (0, 58, .inl (nf f))) : Option pi_E)) (u2_ne _ _ _ _ _ (by omega))
    | 2, _, _ => exact congrArg (fun f => (some (.inl (0, 58, .inl (nf f))) : Option pi_E)) (u2_ne _ _ _ _ _ (by omega))
    | 3, _, hne => exact absurd rfl hne
    | 4, _, _ => exact congrArg (fun f => (some (.inl (0, 80, .inl (nf f))) : Option pi_E)) (u2_ne _ _ _ _ _ (by omega))
    | 5, _, _ => exact rfl
    | 6, _, _ => exact rfl
    | 7, _, _ => exact congrArg (fun f => (some (.inl (0, 147, .inl (nf f))) : Option pi_E)) (u2_ne _ _ _ _ _ (by omega))
    | 8, _, _ => exact rfl
    | 9, _, _ => exact rfl
    | 10, _, _ => exact congrArg (fun f => (some (.inl (0, 3, .inl (nf f))) : Option pi_E)) (u2_ne _ _ _ _ _ (by omega))
theorem MO_i3 (j : Nat) (hj : j < 80) : pi_al (pi_get (MO H ι z κ) 81) (nI j) 0 = some (.int (nI (ι 3 j))) := by
  rw [MO_g _ _ _ _ _ (by omega)]
  exact al_i hj (by omega)
theorem MO_wi3 (j x : Nat) (hj : j < 80) : pi_as (MO H ι z κ) 81 (nI j) (.int (nI x)) 0 = some (MO H (u2 ι 3 j x) z κ) := by
  rw [as_i (n := 80) (f := nf (ι 3)) (by rw [MO_g _ _ _ _ _ (by omega)]; rfl) hj (by omega)]
  refine congrArg some (OV_set _ _ _ _ _ _ (by omega) _ ?_ ?_)
  · show some _ = _
    rw [nf_eq]
  · intro i hi hne
    match i, hi, hne with
    | 0, _, _ => exact rfl
    | 1, _, _ => exact congrArg (fun f => (some (.inl (0, 58, .inl (nf f))) : Option pi_E)) (u2_ne _ _ _ _ _ (by omega))
    | 2, _, _ => exact congrArg (fun f => (some (.inl (0, 58, .inl (nf f))) : Option pi_E)) (u2_ne _ _ _ _ _ (by omega))
    | 3, _, _ => exact congrArg (fun f => (some (.inl (0, 232, .inl (nf f))) : Option pi_E)) (u2_ne _ _ _ _ _ (by omega))
    | 4, _, hne => exact absurd rfl hne
    | 5, _, _ => exact rfl
    | 6, _, _ => exact rfl
    | 7, _, _ => exact congrArg (fun f => (some (.inl (0, 147, .inl (nf f))) : Option pi_E)) (u2_ne _ _ _ _ _ (by omega))
    | 8, _, _ => exact rfl
    | 9, _, _ => exact rfl
    | 10, _, _ => exact congrArg (fun f => (some (.inl (0, 3, .inl (nf f))) : Option pi_E)) (u2_ne _ _ _ _ _ (by omega))
theorem MO_i4 (j : Nat) (hj : j < 147) : pi_al (pi_get (MO H ι z κ) 84) (nI j) 0 = some (.int (nI (ι 4 j))) := by
  rw [MO_g _ _ _ _ _ (by omega)]
  exact al_i hj (by omega)
theorem MO_wi4 (j x : Nat) (hj : j < 147) : pi_as (MO H ι z κ) 84 (nI j) (.int (nI x)) 0 = some (MO H (u2 ι 4 j x) z κ) := by
  rw [as_i (n := 147) (f := nf (ι 4)) (by rw [MO_g _ _ _ _ _ (by omega)]; rfl) hj (by omega)]
  refine congrArg some (OV_set _ _ _ _ _ _ (by omega) _ ?_ ?_)
  · show some _ = _
    rw [nf_eq]
  · intro i hi hne
    match i, hi, hne with
    | 0, _, _ => exact rfl
    | 1, _, _ => exact congrArg (fun f => (some (.inl (0, 58, .inl (nf f))) : Option pi_E)) (u2_ne _ _ _ _ _ (by omega))
    | 2, _, _ => exact congrArg (fun f => (some (.inl (0, 58, .inl (nf f))) : Option pi_E)) (u2_ne _ _ _ _ _ (by omega))
    | 3, _, _ => exact congrArg (fun f => (some (.inl (0, 232, .inl (nf f))) : Option pi_E)) (u2_ne _ _ _ _ _ (by omega))
    | 4, _, _ => exact congrArg (fun f => (some (.inl (0, 80, .inl (nf f))) : Option pi_E)) (u2_ne _ _ _ _ _ (by omega))
    | 5, _, _ => exact rfl
    | 6, _, _ => exact rfl
    | 7, _, hne => exact absurd rfl hne
    | 8, _, _ => exact rfl
    | 9, _, _ => exact rfl
    | 10, _, _ => exact congrArg (fun f => (some (.inl (0, 3, .inl (nf f))) : Option pi_E)) (u2_ne _ _ _ _ _ (by omega))
theorem MO_i5 (j : Nat) (hj : j < 3) : pi_al (pi_get (MO H ι z κ) 87) (nI j) 0 = some (.int (nI (ι 5 j))) := by
  rw [MO_g _ _ _ _ _ (by omega)]
  exact al_i hj (by omega)
theorem MO_wi5 (j x : Nat) (hj : j < 3) : pi_as (MO H ι z κ) 87 (nI j) (.int (nI x)) 0 = some (MO H (u2 ι 5 j x) z κ) := by
  rw [as_i (n := 3) (f := nf (ι 5)) (by rw [MO_g _ _ _ _ _ (by omega)]; rfl) hj (by omega)]
  refine congrArg some (OV_set _ _ _ _ _ _ (by omega) _ ?_ ?_)
  · show some _ = _
    rw [nf_eq]
  · intro i hi hne
    match i, hi, hne with
    | 0, _, _ => exact rfl
    | 1, _, _ => exact congrArg (fun f => (some (.inl (0, 58, .inl (nf f))) : Option pi_E)) (u2_ne _ _ _ _ _ (by omega))
    | 2, _, _ => exact congrArg (fun f => (some (.inl (0, 58, .inl (nf f))) : Option pi_E)) (u2_ne _ _ _ _ _ (by omega))
    | 3, _, _ => exact congrArg (fun f => (some (.inl (0, 232, .inl (nf f))) : Option pi_E)) (u2_ne _ _ _ _ _ (by omega))
    | 4, _, _ => exact congrArg (fun f => (some (.inl (0, 80, .inl (nf f))) : Option pi_E)) (u2_ne _ _ _ _ _ (by omega))
    | 5, _, _ => exact rfl
    | 6, _, _ => exact rfl
    | 7, _, _ => exact congrArg (fun f => (some (.inl (0, 147, .inl (nf f))) : Option pi_E)) (u2_ne _ _ _ _ _ (by omega))
    | 8, _, _ => exact rfl
    | 9, _, _ => exact rfl
    | 10, _, hne => exact absurd rfl hne
theorem MO_j0 (j : Nat) (hj : j < 147) : pi_al (pi_get (MO H ι z κ) 82) (nI j) 3 = some (.long (z 0 j)) := by
  rw [MO_g _ _ _ _ _ (by omega)]
  exact al_l hj (by omega)
theorem MO_wj0 (j : Nat) (x : Int64) (hj : j < 147) : pi_as (MO H ι z κ) 82 (nI j) (.long x) 3 = some (MO H ι (ul z 0 j x) κ) := by
  rw [as_l (n := 147) (f := z 0) (by rw [MO_g _ _ _ _ _ (by omega)]; rfl) hj (by omega)]
  refine congrArg some (OV_set _ _ _ _ _ _ (by omega) _ ?_ ?_)
  · show some _ = _
    rw [ul_eq]
  · intro i hi hne
    match i, hi, hne with
    | 0, _, _ => exact rfl
    | 1, _, _ => exact rfl
    | 2, _, _ => exact rfl
    | 3, _, _ => exact rfl
    | 4, _, _ => exact rfl
    | 5, _, hne => exact absurd rfl hne
    | 6, _, _ => exact congrArg (fun f => (some (.inl (2, 147, .inr (.inl f))) : Option pi_E)) (ul_ne _ _ _ _ _ (by omega))
    | 7, _, _ => exact rfl
    | 8, _, _ => exact congrArg (fun f => (some (.inl (2, 7, .inr (.inl f))) : Option pi_E)) (ul_ne _ _ _ _ _ (by omega))
    | 9, _, _ => exact congrArg (fun f => (some (.inl (2, 147, .inr (.inl f))) : Option pi_E)) (ul_ne _ _ _ _ _ (by omega))
    | 10, _, _ => exact rfl
theorem MO_j1 (j : Nat) (hj : j < 147) : pi_al (pi_get (MO H ι z κ) 83) (nI j) 3 = some (.long (z 1 j)) := by
  rw [MO_g _ _ _ _ _ (by omega)]
  exact al_l hj (by omega)
theorem MO_wj1 (j : Nat) (x : Int64) (hj : j < 147) : pi_as (MO H ι z κ) 83 (nI j) (.long x) 3 = some (MO H ι (ul z 1 j x) κ) := by
  rw [as_l (n := 147) (f := z 1) (by rw [MO_g _ _ _ _ _ (by omega)]; rfl) hj (by omega)]
  refine congrArg some (OV_set _ _ _ _ _ _ (by omega) _ ?_ ?_)
  · show some _ = _
    rw [ul_eq]
  · intro i hi hne
    match i, hi, hne with
    | 0, _, _ => exact rfl
    | 1, _, _ => exact rfl
    | 2, _, _ => exact rfl
    | 3, _, _ => exact rfl
    | 4, _, _ => exact rfl
    | 5, _, _ => exact congrArg (fun f => (some (.inl (2, 147, .inr (.inl f))) : Option pi_E)) (ul_ne _ _ _ _ _ (by omega))
    | 6, _, hne => exact absurd rfl hne
    | 7, _, _ => exact rfl
    | 8, _, _ => exact congrArg (fun f => (some (.inl (2, 7, .inr (.inl f))) : Option pi_E)) (ul_ne _ _ _ _ _ (by omega))
    | 9, _, _ => exact congrArg (fun f => (some (.inl (2, 147, .inr (.inl f))) : Option pi_E)) (ul_ne _ _ _ _ _ (by omega))
    | 10, _, _ => exact rfl
theorem MO_j2 (j : Nat) (hj : j < 7) : pi_al (pi_get (MO H ι z κ) 85) (nI j) 3 = some (.long (z 2 j)) := by
  rw [MO_g _ _ _ _ _ (by omega)]
  exact al_l hj (by omega)
theorem MO_wj2 (j : Nat) (x : Int64) (hj : j < 7) : pi_as (MO H ι z κ) 85 (nI j) (.long x) 3 = some (MO H ι (ul z 2 j x) κ) := by
  rw [as_l (n := 7) (f := z 2) (by rw [MO_g _ _ _ _ _ (by omega)]; rfl) hj (by omega)]
  refine congrArg some (OV_set _ _ _ _ _ _ (by omega) _ ?_ ?_)
  · show some _ = _
    rw [ul_eq]
  · intro i hi hne
    match i, hi, hne with
    | 0, _, _ => exact rfl
    | 1, _, _ => exact rfl
    | 2, _, _ => exact rfl
    | 3, _, _ => exact rfl
    | 4, _, _ => exact rfl
    | 5, _, _ => exact congrArg (fun f => (some (.inl (2, 147, .inr (.inl f))) : Option pi_E)) (ul_ne _ _ _ _ _ (by omega))
    | 6, _, _ => exact congrArg (fun f => (some (.inl (2, 147, .inr (.inl f))) : Option pi_E)) (ul_ne _ _ _ _ _ (by omega))
    | 7, _, _ => exact rfl
    | 8, _, hne => exact absurd rfl hne
    | 9, _, _ => exact congrArg (fun f => (some (.inl (2, 147, .inr (.inl f))) : Option pi_E)) (ul_ne _ _ _ _ _ (by omega))
    | 10, _, _ => exact rfl
theorem MO_j3 (j : Nat) (hj : j < 147) : pi_al (pi_get (MO H ι z κ) 86) (nI j) 3 = some (.long (z 3 j)) := by
  rw [MO_g _ _ _ _ _ (by omega)]
  exact al_l hj (by omega)
theorem MO_wj3 (j : Nat) (x : Int64) (hj : j < 147) : pi_as (MO H ι z κ) 86 (nI j) (.long x) 3 = some (MO H ι (ul z 3 j x) κ) := by
  rw [as_l (n := 147) (f := z 3) (by rw [MO_g _ _ _ _ _ (by omega)]; rfl) hj (by omega)]
  refine congrArg some (OV_set _ _ _ _ _ _ (by omega) _ ?_ ?_)
  · show some _ = _
    rw [ul_eq]
  · intro i hi hne
    match i, hi, hne with
    | 0, _, _ => exact rfl
    | 1, _, _ => exact rfl
    | 2, _, _ => exact rfl
    | 3, _, _ => exact rfl
    | 4, _, _ => exact rfl
    | 5, _, _ => exact congrArg (fun f => (some (.inl (2, 147, .inr (.inl f))) : Option pi_E)) (ul_ne _ _ _ _ _ (by omega))
    | 6, _, _ => exact congrArg (fun f => (some (.inl (2, 147, .inr (.inl f))) : Option pi_E)) (ul_ne _ _ _ _ _ (by omega))
    | 7, _, _ => exact rfl
    | 8, _, _ => exact congrArg (fun f => (some (.inl (2, 7, .inr (.inl f))) : Option pi_E)) (ul_ne _ _ _ _ _ (by omega))
    | 9, _, hne => exact absurd rfl hne
    | 10, _, _ => exact rfl
theorem MO_k0 (x : Nat) : pi_pf (MO H ι z κ) 77 5 3 (.int (nI x)) = some (MO H ι z (uk κ 0 x)) := by
  rw [pf_o (.int (nI x)) ((MO_g H ι z κ 77 (by omega)).trans rfl) (by simp) (by omega)]
  refine congrArg some (OV_set _ _ _ _ _ _ (by omega) _ rfl ?_)
  intro i hi hne
  match i, hi, hne with
  | 0, _, hne => exact absurd rfl hne
  | 1, _, _ => rfl
  | 2, _, _ => rfl
  | 3, _, _ => rfl
  | 4, _, _ => rfl
  | 5, _, _ => rfl
  | 6, _, _ => rfl
  | 7, _, _ => rfl
  | 8, _, _ => rfl
  | 9, _, _ => rfl
  | 10, _, _ => rfl
theorem MO_k1 (x : Nat) : pi_pf (MO H ι z κ) 77 5 5 (.int (nI x)) = some (MO H ι z (uk κ 1 x)) := by
  rw [pf_o (.int (nI x)) ((MO_g H ι z κ 77 (by omega)).trans rfl) (by simp) (by omega)]
  refine congrArg some (OV_set _ _ _ _ _ _ (by omega) _ rfl ?_)
  intro i hi hne
  match i, hi, hne with
  | 0, _, hne => exact absurd rfl hne
  | 1, _, _ => rfl
  | 2, _, _ => rfl
  | 3, _, _ => rfl
  | 4, _, _ => rfl
  | 5, _, _ => rfl
  | 6, _, _ => rfl
  | 7, _, _ => rfl
  | 8, _, _ => rfl
  | 9, _, _ => rfl
  | 10, _, _ => rfl
theorem MO_k2 (x : Nat) : pi_pf (MO H ι z κ) 77 5 11 (.int (nI x)) = some (MO H ι z (uk κ 2 x)) := by
  rw [pf_o (.int (nI x)) ((MO_g H ι z κ 77 (by omega)).trans rfl) (by simp) (by omega)]
  refine congrArg some (OV_set _ _ _ _ _ _ (by omega) _ rfl ?_)
  intro i hi hne
  match i, hi, hne with
  | 0, _, hne => exact absurd rfl hne
  | 1, _, _ => rfl
  | 2, _, _ => rfl
  | 3, _, _ => rfl
  | 4, _, _ => rfl
  | 5, _, _ => rfl
  | 6, _, _ => rfl
  | 7, _, _ => rfl
  | 8, _, _ => rfl
  | 9, _, _ => rfl
  | 10, _, _ => rfl
theorem MO_k3 (x : Nat) : pi_pf (MO H ι z κ) 77 5 12 (.int (nI x)) = some (MO H ι z (uk κ 3 x)) := by
  rw [pf_o (.int (nI x)) ((MO_g H ι z κ 77 (by omega)).trans rfl) (by simp) (by omega)]
  refine congrArg some (OV_set _ _ _ _ _ _ (by omega) _ rfl ?_)
  intro i hi hne
  match i, hi, hne with
  | 0, _, hne => exact absurd rfl hne
  | 1, _, _ => rfl
  | 2, _, _ => rfl
  | 3, _, _ => rfl
  | 4, _, _ => rfl
  | 5, _, _ => rfl
  | 6, _, _ => rfl
  | 7, _, _ => rfl
  | 8, _, _ => rfl
  | 9, _, _ => rfl
  | 10, _, _ => rfl
theorem MO_k4 (x : Nat) : pi_pf (MO H ι z κ) 77 5 13 (.int (nI x)) = some (MO H ι z (uk κ 4 x)) := by
  rw [pf_o (.int (nI x)) ((MO_g H ι z κ 77 (by omega)).trans rfl) (by simp) (by omega)]
  refine congrArg some (OV_set _ _ _ _ _ _ (by omega) _ rfl ?_)
  intro i hi hne
  match i, hi, hne with
  | 0, _, hne => exact absurd rfl hne
  | 1, _, _ => rfl
  | 2, _, _ => rfl
  | 3, _, _ => rfl
  | 4, _, _ => rfl
  | 5, _, _ => rfl
  | 6, _, _ => rfl
  | 7, _, _ => rfl
  | 8, _, _ => rfl
  | 9, _, _ => rfl
  | 10, _, _ => rfl
end
