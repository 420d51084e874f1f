-- PART 64: the whole heap, first
def rg : Nat → Option Nat := fun i => if i < 4 then some (15 + 6 * i) else none
def hic (nw sz : Nat) (j : Nat) : Option pi_E := match j with
  | 0 => some (.inr (0, [.ref 14, .int (nI nw), .int (nI sz)]))
  | _ => some (.inl (3, 4, .inr (.inr (.inr (.inr rg)))))
def HI (H : pi_H) (nw sz : Nat) : pi_H := OV 13 2 (hic nw sz) H
def rgc (r : Nat → sT) (j : Nat) : Option pi_E := shc (r (j / 6)) (15 + 6 * (j / 6)) (j % 6)
def RG (H : pi_H) (r : Nat → sT) : pi_H := OV 15 24 (rgc r) H
/-- the class's object; shop and spare, the history, the means, the script; the reference -/
def Wd (B : pi_H) (a b : sT) (nw sz : Nat) (r : Nat → sT) (μ : lT) (β : bT) (fl fh : Int32) (fc : Int64) (τ ν σ : Nat → Nat) (ι : sT) (z : jT) (κ : kT) : pi_H :=
  MO (SC (ME (RG (HI (SH (SH B 7 b) 1 a) nw sz) r) μ β fl fh fc) τ ν σ) ι z κ
def upr (r : Nat → sT) (i : Nat) (c : sT) : Nat → sT := fun i' => if i' = i then c else r i'
section
variable (B : pi_H) (a b : sT) (nw sz : Nat) (r : Nat → sT) (μ : lT) (β : bT) (fl fh : Int32) (fc : Int64) (τ ν σ : Nat → Nat) (ι : sT) (z : jT) (κ : kT)
theorem W_O (ι' : sT) (z' : jT) (κ' : kT) : MO (Wd B a b nw sz r μ β fl fh fc τ ν σ ι z κ) ι' z' κ' = Wd B a b nw sz r μ β fl fh fc τ ν σ ι' z' κ' := OV_two _ _ _ _ _
theorem W_S (τ' ν' σ' : Nat → Nat) : SC (Wd B a b nw sz r μ β fl fh fc τ ν σ ι z κ) τ' ν' σ' = Wd B a b nw sz r μ β fl fh fc τ' ν' σ' ι z κ := by
  unfold Wd
  refine (OV_comm _ 74 3 77 11 _ _ (by omega)).trans ?_
  exact congrArg (OV 77 11 (moc ι z κ)) (OV_two _ _ _ _ _)
theorem W_M (μ' : lT) (β' : bT) (fl' fh' : Int32) (fc' : Int64) : ME (Wd B a b nw sz r μ β fl fh fc τ ν σ ι z κ) μ' β' fl' fh' fc' = Wd B a b nw sz r μ' β' fl' fh' fc' τ ν σ ι z κ := by
  unfold Wd
  refine (OV_comm _ 39 35 77 11 _ _ (by omega)).trans (congrArg (OV 77 11 (moc ι z κ)) ?_)
  refine (OV_comm _ 39 35 74 3 _ _ (by omega)).trans (congrArg (OV 74 3 (scc τ ν σ)) ?_)
  exact OV_two _ _ _ _ _
theorem W_R (r' : Nat → sT) : RG (Wd B a b nw sz r μ β fl fh fc τ ν σ ι z κ) r' = Wd B a b nw sz r' μ β fl fh fc τ ν σ ι z κ := by
  unfold Wd
  refine (OV_comm _ 15 24 77 11 _ _ (by omega)).trans (congrArg (OV 77 11 (moc ι z κ)) ?_)
  refine (OV_comm _ 15 24 74 3 _ _ (by omega)).trans (congrArg (OV 74 3 (scc τ ν σ)) ?_)
  refine (OV_comm _ 15 24 39 35 _ _ (by omega)).trans (congrArg (OV 39 35 (mec μ β fl fh fc)) ?_)
  exact OV_two _ _ _ _ _
theorem W_H (nw' sz' : Nat) : HI (Wd B a b nw sz r μ β fl fh fc τ ν σ ι z κ) nw' sz' = Wd B a b nw' sz' r μ β fl fh fc τ ν σ ι z κ := by
  unfold Wd
  refine (OV_comm _ 13 2 77 11 _ _ (by omega)).trans (congrArg (OV 77 11 (moc ι z κ)) ?_)
  refine (OV_comm _ 13 2 74 3 _ _ (by omega)).trans (congrArg (OV 74 3 (scc τ ν σ)) ?_)
  refine (OV_comm _ 13 2 39 35 _ _ (by omega)).trans (congrArg (OV 39 35 (mec μ β fl fh fc)) ?_)
  refine (OV_comm _ 13 2 15 24 _ _ (by omega)).trans (congrArg (OV 15 24 (rgc r)) ?_)
  exact OV_two _ _ _ _ _
theorem W_1 (a' : sT) : SH (Wd B a b nw sz r μ β fl fh fc τ ν σ ι z κ) 1 a' = Wd B a' b nw sz r μ β fl fh fc τ ν σ ι z κ := by
  unfold Wd
  refine (OV_comm _ 1 6 77 11 _ _ (by omega)).trans (congrArg (OV 77 11 (moc ι z κ)) ?_)
  refine (OV_comm _ 1 6 74 3 _ _ (by omega)).trans (congrArg (OV 74 3 (scc τ ν σ)) ?_)
  refine (OV_comm _ 1 6 39 35 _ _ (by omega)).trans (congrArg (OV 39 35 (mec μ β fl fh fc)) ?_)
  refine (OV_comm _ 1 6 15 24 _ _ (by omega)).trans (congrArg (OV 15 24 (rgc r)) ?_)
  refine (OV_comm _ 1 6 13 2 _ _ (by omega)).trans (congrArg (OV 13 2 (hic nw sz)) ?_)
  exact OV_two _ _ _ _ _
theorem W_7 (b' : sT) : SH (Wd B a b nw sz r μ β fl fh fc τ ν σ ι z κ) 7 b' = Wd B a b' nw sz r μ β fl fh fc τ ν σ ι z κ := by
  unfold Wd
  refine (OV_comm _ 7 6 77 11 _ _ (by omega)).trans (congrArg (OV 77 11 (moc ι z κ)) ?_)
  refine (OV_comm _ 7 6 74 3 _ _ (by omega)).trans (congrArg (OV 74 3 (scc τ ν σ)) ?_)
  refine (OV_comm _ 7 6 39 35 _ _ (by omega)).trans (congrArg (OV 39 35 (mec μ β fl fh fc)) ?_)
  refine (OV_comm _ 7 6 15 24 _ _ (by omega)).trans (congrArg (OV 15 24 (rgc r)) ?_)
  refine (OV_comm _ 7 6 13 2 _ _ (by omega)).trans (congrArg (OV 13 2 (hic nw sz)) ?_)
  refine (OV_comm _ 7 6 1 6 _ _ (by omega)).trans (congrArg (OV 1 6 (shc a 1)) ?_)
  exact OV_two _ _ _ _ _
theorem RG_SH (H : pi_H) (r : Nat → sT) (i : Nat) (hi : i < 4) (c : sT) : SH (RG H r) (15 + 6 * i) c = RG H (upr r i c) := by
  unfold RG SH OV
  refine Prod.ext (funext fun k => ?_) rfl
  dsimp only
  by_cases h : 15 + 6 * i ≤ k ∧ k < 15 + 6 * i + 6
  · rw [if_pos h, if_pos (by omega)]
    unfold rgc upr
    rw [show (k - 15) / 6 = i by omega, if_pos rfl, show k - (15 + 6 * i) = (k - 15) % 6 by omega]
  · rw [if_neg h]
    by_cases h2 : 15 ≤ k ∧ k < 15 + 24
    · rw [if_pos h2, if_pos h2]
      unfold rgc upr
      rw [if_neg (by omega)]
    · rw [if_neg h2, if_neg h2]
theorem W_Ri (i : Nat) (hi : i < 4) (c : sT) : SH (Wd B a b nw sz r μ β fl fh fc τ ν σ ι z κ) (15 + 6 * i) c = Wd B a b nw sz (upr r i c) μ β fl fh fc τ ν σ ι z κ := by
  have h := RG_SH (Wd B a b nw sz r μ β fl fh fc τ ν σ ι z κ) r i hi c
  rw [W_R, W_R] at h
  exact h
theorem upr_id (r : Nat → sT) (i : Nat) : upr r i (r i) = r := by
  funext j
  unfold upr
  split
  · rename_i h; rw [h]
  · rfl
theorem W_g (k : Nat) (h : k < 1 ∨ 88 ≤ k) : pi_get (Wd B a b nw sz r μ β fl fh fc τ ν σ ι z κ) k = pi_get B k := by
  unfold Wd
  rw [MO_gn _ _ _ _ _ (by omega), SC_gn _ _ _ _ _ (by omega), ME_gn _ _ _ _ _ _ _ (by omega)]
  refine (OV_gn _ 15 24 _ _ (by omega)).trans ((OV_gn _ 13 2 _ _ (by omega)).trans ?_)
  rw [SH_gn _ _ _ _ (by omega), SH_gn _ _ _ _ (by omega)]
theorem W_2 : (Wd B a b nw sz r μ β fl fh fc τ ν σ ι z κ).2 = B.2 := rfl
theorem W_strs (h : strs B) : strs (Wd B a b nw sz r μ β fl fh fc τ ν σ ι z κ) := by
  intro k hk
  rw [W_g _ _ _ _ _ _ _ _ _ _ _ _ _ _ _ _ _ _ (by omega), W_g _ _ _ _ _ _ _ _ _ _ _ _ _ _ _ _ _ _ (by omega)]
  exact h k hk
theorem W_mc (h : mcok B) : mcok (Wd B a b nw sz r μ β fl fh fc τ ν σ ι z κ) := by
  unfold mcok
  rw [W_g _ _ _ _ _ _ _ _ _ _ _ _ _ _ _ _ _ _ (by omega)]
  exact h
theorem W_g1 : pi_get (Wd B a b nw sz r μ β fl fh fc τ ν σ ι z κ) 1 = shc a 1 0 := by
  rw [← W_1 B a b nw sz r μ β fl fh fc τ ν σ ι z κ a]
  exact SH_g0 _ _ _
theorem W_g7 : pi_get (Wd B a b nw sz r μ β fl fh fc τ ν σ ι z κ) 7 = shc b 7 0 := by
  rw [← W_7 B a b nw sz r μ β fl fh fc τ ν σ ι z κ b]
  exact SH_g0 _ _ _
theorem W_gR (i : Nat) (hi : i < 4) : pi_get (Wd B a b nw sz r μ β fl fh fc τ ν σ ι z κ) (15 + 6 * i) = shc (r i) (15 + 6 * i) 0 := by
  have h := W_Ri B a b nw sz r μ β fl fh fc τ ν σ ι z κ i hi (r i)
  rw [upr_id] at h
  rw [← h]
  exact SH_g0 _ _ _
theorem W_gH (k : Nat) (h : 13 ≤ k ∧ k < 15) : pi_get (Wd B a b nw sz r μ β fl fh fc τ ν σ ι z κ) k = hic nw sz (k - 13) := by
  rw [← W_H B a b nw sz r μ β fl fh fc τ ν σ ι z κ nw sz]
  exact OV_g _ _ _ _ _ (by omega)
theorem W_i1 : pi_isO (pi_get (Wd B a b nw sz r μ β fl fh fc τ ν σ ι z κ) 1) 3 = true := by rw [W_g1]; rfl
theorem W_i7 : pi_isO (pi_get (Wd B a b nw sz r μ β fl fh fc τ ν σ ι z κ) 7) 3 = true := by rw [W_g7]; rfl
theorem W_iR (i : Nat) (hi : i < 4) : pi_isO (pi_get (Wd B a b nw sz r μ β fl fh fc τ ν σ ι z κ) (15 + 6 * i)) 3 = true := by rw [W_gR _ _ _ _ _ _ _ _ _ _ _ _ _ _ _ _ _ _ hi]; rfl
theorem W_i13 : pi_isO (pi_get (Wd B a b nw sz r μ β fl fh fc τ ν σ ι z κ) 13) 0 = true := by rw [W_gH _ _ _ _ _ _ _ _ _ _ _ _ _ _ _ _ _ _ (by omega)]; rfl
theorem W_i39 : pi_isO (pi_get (Wd B a b nw sz r μ β fl fh fc τ ν σ ι z κ) 39) 1 = true := by
  rw [← W_M B a b nw sz r μ β fl fh fc τ ν σ ι z κ μ β fl fh fc]
  exact ME_isO _ _ _ _ _ _
theorem W_i74 : pi_isO (pi_get (Wd B a b nw sz r μ β fl fh fc τ ν σ ι z κ) 74) 2 = true := by
  rw [← W_S B a b nw sz r μ β fl fh fc τ ν σ ι z κ τ ν σ]
  exact SC_isO _ _ _ _
theorem W_i77 : pi_isO (pi_get (Wd B a b nw sz r μ β fl fh fc τ ν σ ι z κ) 77) 5 = true := by
  rw [← W_O B a b nw sz r μ β fl fh fc τ ν σ ι z κ ι z κ]
  exact MO_isO _ _ _ _
theorem W_h0 : pi_fv (pi_get (Wd B a b nw sz r μ β fl fh fc τ ν σ ι z κ) 13) 0 0 = some (.ref 14) := by rw [W_gH _ _ _ _ _ _ _ _ _ _ _ _ _ _ _ _ _ _ (by omega)]; rfl
theorem W_h1 : pi_fv (pi_get (Wd B a b nw sz r μ β fl fh fc τ ν σ ι z κ) 13) 0 1 = some (.int (nI nw)) := by rw [W_gH _ _ _ _ _ _ _ _ _ _ _ _ _ _ _ _ _ _ (by omega)]; rfl
theorem W_h2 : pi_fv (pi_get (Wd B a b nw sz r μ β fl fh fc τ ν σ ι z κ) 13) 0 2 = some (.int (nI sz)) := by rw [W_gH _ _ _ _ _ _ _ _ _ _ _ _ _ _ _ _ _ _ (by omega)]; rfl
theorem W_hr (i : Nat) (hi : i < 4) : pi_al (pi_get (Wd B a b nw sz r μ β fl fh fc τ ν σ ι z κ) 14) (nI i) 4 = some (.ref (15 + 6 * i)) := by
  rw [W_gH _ _ _ _ _ _ _ _ _ _ _ _ _ _ _ _ _ _ (by omega)]
  show pi_al (some (.inl (3, 4, .inr (.inr (.inr (.inr rg)))))) (nI i) 4 = _
  unfold pi_al pi_in rg
  simp [nI_clamp (n := i) (by omega), nI_pos (n := i) (by omega), hi]
  omega
theorem HI_p1 (H : pi_H) (x : Nat) : pi_pf (HI H nw sz) 13 0 1 (.int (nI x)) = some (HI H x sz) := by
  unfold HI
  rw [pf_o (.int (nI x)) ((OV_g H 13 2 (hic nw sz) 13 (by omega)).trans rfl) (by simp) (by omega)]
  refine congrArg some (OV_set _ _ _ _ _ _ (by omega) _ rfl ?_)
  intro i hi hne
  match i, hi, hne with
  | 0, _, hne => exact absurd rfl hne
  | 1, _, _ => rfl
theorem HI_p2 (H : pi_H) (x : Nat) : pi_pf (HI H nw sz) 13 0 2 (.int (nI x)) = some (HI H nw x) := by
  unfold HI
  rw [pf_o (.int (nI x)) ((OV_g H 13 2 (hic nw sz) 13 (by omega)).trans rfl) (by simp) (by omega)]
  refine congrArg some (OV_set _ _ _ _ _ _ (by omega) _ rfl ?_)
  intro i hi hne
  match i, hi, hne with
  | 0, _, hne => exact absurd rfl hne
  | 1, _, _ => rfl
theorem W_p1 (x : Nat) : pi_pf (Wd B a b nw sz r μ β fl fh fc τ ν σ ι z κ) 13 0 1 (.int (nI x)) = some (Wd B a b x sz r μ β fl fh fc τ ν σ ι z κ) := by
  have h := HI_p1 nw sz (Wd B a b nw sz r μ β fl fh fc τ ν σ ι z κ) x
  rw [W_H, W_H] at h
  exact h
theorem W_p2 (x : Nat) : pi_pf (Wd B a b nw sz r μ β fl fh fc τ ν σ ι z κ) 13 0 2 (.int (nI x)) = some (Wd B a b nw x r μ β fl fh fc τ ν σ ι z κ) := by
  have h := HI_p2 nw sz (Wd B a b nw sz r μ β fl fh fc τ ν σ ι z κ) x
  rw [W_H, W_H] at h
  exact h
/-- the class's object -/
def olok (B : pi_H) : Prop := pi_get B 0 = some (.inr (4, [.ref 1, .ref 7, .ref 13, .ref 39, .ref 74]))
theorem W_i0 (h : olok B) : pi_isO (pi_get (Wd B a b nw sz r μ β fl fh fc τ ν σ ι z κ) 0) 4 = true := by rw [W_g _ _ _ _ _ _ _ _ _ _ _ _ _ _ _ _ _ _ (by omega), h]; rfl
theorem W_o0 (h : olok B) : pi_fv (pi_get (Wd B a b nw sz r μ β fl fh fc τ ν σ ι z κ) 0) 4 0 = some (.ref 1) := by rw [W_g _ _ _ _ _ _ _ _ _ _ _ _ _ _ _ _ _ _ (by omega), h]; rfl
theorem W_o1 (h : olok B) : pi_fv (pi_get (Wd B a b nw sz r μ β fl fh fc τ ν σ ι z κ) 0) 4 1 = some (.ref 7) := by rw [W_g _ _ _ _ _ _ _ _ _ _ _ _ _ _ _ _ _ _ (by omega), h]; rfl
theorem W_o2 (h : olok B) : pi_fv (pi_get (Wd B a b nw sz r μ β fl fh fc τ ν σ ι z κ) 0) 4 2 = some (.ref 13) := by rw [W_g _ _ _ _ _ _ _ _ _ _ _ _ _ _ _ _ _ _ (by omega), h]; rfl
theorem W_o3 (h : olok B) : pi_fv (pi_get (Wd B a b nw sz r μ β fl fh fc τ ν σ ι z κ) 0) 4 3 = some (.ref 39) := by rw [W_g _ _ _ _ _ _ _ _ _ _ _ _ _ _ _ _ _ _ (by omega), h]; rfl
theorem W_o4 (h : olok B) : pi_fv (pi_get (Wd B a b nw sz r μ β fl fh fc τ ν σ ι z κ) 0) 4 4 = some (.ref 74) := by rw [W_g _ _ _ _ _ _ _ _ _ _ _ _ _ _ _ _ _ _ (by omega), h]; rfl
end
