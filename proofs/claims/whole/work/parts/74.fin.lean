-- PART 74: what is made, third: the whole
section
variable (H : pi_H) (m : List pi_E) (z : Nat) (fs : List Value)
theorem seg0 (hn : H.2.1 = 0) (hf : fs.length = 5) (hm : m.length + 1 = 1) : ev 0 4 [some (.ref 0)] [] (ad H (.inr (4, fs) :: m) z) = ev 0 15 [some (.ref 0)] [] (ad H (.inr (4, fs.set 0 (.ref 1)) :: (m ++ shL 1)) (z + 64)) := by
  have gX : (ad H (.inr (4, fs) :: m) z).2.1 = 1 := by
    rw [ad_n, List.length_cons]
    omega
  have hp : pi_pf (ad (ad H (.inr (4, fs) :: m) z) (shL 1) 64) 0 4 0 (.ref 1) = some (ad H (.inr (4, fs.set 0 (.ref 1)) :: (m ++ shL 1)) (z + 64)) := by
    rw [ad_ad, List.cons_append, ad_pf _ _ _ _ _ _ _ (by simp only [List.length_cons]; omega), hn]
    exact pfO_s _ _ _ _ _ _ _ _ _ (by simp [hf])
  generalize ad H (.inr (4, fs) :: m) z = X at gX hp ⊢
  have h0 := ad_0 X (3, dS) 14
  have hk := k1 X 1 gX (by omega)
  simp (disch := first | omega | assumption | (refine b30 ?_; omega) | (refine nb_ok ?_ ?_ <;> first | omega | (simp only [ad_n, List.length_cons, List.length_nil, List.length_append, List.length_replicate, shL_len]; omega)) | (simp only [List.length_cons, List.length_nil]; omega) | (simp; done)) only [e0_4, e0_5, e0_8, e0_9, e0_12, kv_s, kh_s, kn_s, kc_v, kc_n, dg3, dl3, gX, h0, hk, hp]
theorem seg1 (hn : H.2.1 = 0) (hf : fs.length = 5) (hm : m.length + 1 = 7) : ev 0 15 [some (.ref 0)] [] (ad H (.inr (4, fs) :: m) z) = ev 0 26 [some (.ref 0)] [] (ad H (.inr (4, fs.set 1 (.ref 7)) :: (m ++ shL 7)) (z + 64)) := by
  have gX : (ad H (.inr (4, fs) :: m) z).2.1 = 7 := by
    rw [ad_n, List.length_cons]
    omega
  have hp : pi_pf (ad (ad H (.inr (4, fs) :: m) z) (shL 7) 64) 0 4 1 (.ref 7) = some (ad H (.inr (4, fs.set 1 (.ref 7)) :: (m ++ shL 7)) (z + 64)) := by
    rw [ad_ad, List.cons_append, ad_pf _ _ _ _ _ _ _ (by simp only [List.length_cons]; omega), hn]
    exact pfO_s _ _ _ _ _ _ _ _ _ (by simp [hf])
  generalize ad H (.inr (4, fs) :: m) z = X at gX hp ⊢
  have h0 := ad_0 X (3, dS) 14
  have hk := k1 X 7 gX (by omega)
  simp (disch := first | omega | assumption | (refine b30 ?_; omega) | (refine nb_ok ?_ ?_ <;> first | omega | (simp only [ad_n, List.length_cons, List.length_nil, List.length_append, List.length_replicate, shL_len]; omega)) | (simp only [List.length_cons, List.length_nil]; omega) | (simp; done)) only [e0_15, e0_16, e0_19, e0_20, e0_23, kv_s, kh_s, kn_s, kc_v, kc_n, dg3, dl3, gX, h0, hk, hp]
theorem seg2 (hn : H.2.1 = 0) (hf : fs.length = 5) (hm : m.length + 1 = 13) : ev 0 26 [some (.ref 0)] [] (ad H (.inr (4, fs) :: m) z) = ev 0 37 [some (.ref 0)] [] (ad H (.inr (4, fs.set 2 (.ref 13)) :: (m ++ hiL)) (z + 263)) := by
  have gX : (ad H (.inr (4, fs) :: m) z).2.1 = 13 := by
    rw [ad_n, List.length_cons]
    omega
  have hp : pi_pf (ad (ad H (.inr (4, fs) :: m) z) (hiL) 263) 0 4 2 (.ref 13) = some (ad H (.inr (4, fs.set 2 (.ref 13)) :: (m ++ hiL)) (z + 263)) := by
    rw [ad_ad, List.cons_append, ad_pf _ _ _ _ _ _ _ (by simp only [List.length_cons]; omega), hn]
    exact pfO_s _ _ _ _ _ _ _ _ _ (by simp [hf])
  generalize ad H (.inr (4, fs) :: m) z = X at gX hp ⊢
  have h0 := ad_0 X (0, dH) 3
  have hk := k2 X gX
  simp (disch := first | omega | assumption | (refine b30 ?_; omega) | (refine nb_ok ?_ ?_ <;> first | omega | (simp only [ad_n, List.length_cons, List.length_nil, List.length_append, List.length_replicate, shL_len]; omega)) | (simp only [List.length_cons, List.length_nil]; omega) | (simp; done)) only [e0_26, e0_27, e0_30, e0_31, e0_34, kv_s, kh_s, kn_s, kc_v, kc_n, dg0, dl0, gX, h0, hk, hp]
theorem seg3 (hn : H.2.1 = 0) (hf : fs.length = 5) (hm : m.length + 1 = 39) : ev 0 37 [some (.ref 0)] [] (ad H (.inr (4, fs) :: m) z) = ev 0 48 [some (.ref 0)] [] (ad H (.inr (4, fs.set 3 (.ref 39)) :: (m ++ meL)) (z + 653)) := by
  have gX : (ad H (.inr (4, fs) :: m) z).2.1 = 39 := by
    rw [ad_n, List.length_cons]
    omega
  have hp : pi_pf (ad (ad H (.inr (4, fs) :: m) z) (meL) 653) 0 4 3 (.ref 39) = some (ad H (.inr (4, fs.set 3 (.ref 39)) :: (m ++ meL)) (z + 653)) := by
    rw [ad_ad, List.cons_append, ad_pf _ _ _ _ _ _ _ (by simp only [List.length_cons]; omega), hn]
    exact pfO_s _ _ _ _ _ _ _ _ _ (by simp [hf])
  generalize ad H (.inr (4, fs) :: m) z = X at gX hp ⊢
  have h0 := ad_0 X (1, dM) 9
  have hk := k3 X gX
  simp (disch := first | omega | assumption | (refine b30 ?_; omega) | (refine nb_ok ?_ ?_ <;> first | omega | (simp only [ad_n, List.length_cons, List.length_nil, List.length_append, List.length_replicate, shL_len]; omega)) | (simp only [List.length_cons, List.length_nil]; omega) | (simp; done)) only [e0_37, e0_38, e0_41, e0_42, e0_45, kv_s, kh_s, kn_s, kc_v, kc_n, dg1, dl1, gX, h0, hk, hp]
theorem seg4 (hn : H.2.1 = 0) (hf : fs.length = 5) (hm : m.length + 1 = 74) : ev 0 48 [some (.ref 0)] [] (ad H (.inr (4, fs) :: m) z) = ev 0 59 [some (.ref 0)] [] (ad H (.inr (4, fs.set 4 (.ref 74)) :: (m ++ scL)) (z + 90)) := by
  have gX : (ad H (.inr (4, fs) :: m) z).2.1 = 74 := by
    rw [ad_n, List.length_cons]
    omega
  have hp : pi_pf (ad (ad H (.inr (4, fs) :: m) z) (scL) 90) 0 4 4 (.ref 74) = some (ad H (.inr (4, fs.set 4 (.ref 74)) :: (m ++ scL)) (z + 90)) := by
    rw [ad_ad, List.cons_append, ad_pf _ _ _ _ _ _ _ (by simp only [List.length_cons]; omega), hn]
    exact pfO_s _ _ _ _ _ _ _ _ _ (by simp [hf])
  generalize ad H (.inr (4, fs) :: m) z = X at gX hp ⊢
  have h0 := ad_0 X (2, dC) 7
  have hk := k4 X gX
  simp (disch := first | omega | assumption | (refine b30 ?_; omega) | (refine nb_ok ?_ ?_ <;> first | omega | (simp only [ad_n, List.length_cons, List.length_nil, List.length_append, List.length_replicate, shL_len]; omega)) | (simp only [List.length_cons, List.length_nil]; omega) | (simp; done)) only [e0_48, e0_49, e0_52, e0_53, e0_56, kv_s, kh_s, kn_s, kc_v, kc_n, dg2, dl2, gX, h0, hk, hp]
end
def olF : List Value := [.ref 1, .ref 7, .ref 13, .ref 39, .ref 74]
def olL : List pi_E := .inr (4, olF) :: ((((([] ++ shL 1) ++ shL 7) ++ hiL) ++ meL) ++ scL)
theorem k0 (H : pi_H) (hn : H.2.1 = 0) : ex 0 [.ref 0] (ad H [.inr (4, dO)] 5) = some (none, ad H olL 1139) := by
  have a0 := seg0 H [] 5 dO hn rfl rfl
  have a1 := seg1 H ([] ++ shL 1) 69 (dO.set 0 (.ref 1)) hn rfl rfl
  have a2 := seg2 H (([] ++ shL 1) ++ shL 7) 133 ((dO.set 0 (.ref 1)).set 1 (.ref 7)) hn rfl rfl
  have a3 := seg3 H ((([] ++ shL 1) ++ shL 7) ++ hiL) 396 (((dO.set 0 (.ref 1)).set 1 (.ref 7)).set 2 (.ref 13)) hn rfl rfl
  have a4 := seg4 H (((([] ++ shL 1) ++ shL 7) ++ hiL) ++ meL) 1049 ((((dO.set 0 (.ref 1)).set 1 (.ref 7)).set 2 (.ref 13)).set 3 (.ref 39)) hn rfl rfl
  have e0 : ex 0 [.ref 0] (ad H [.inr (4, dO)] 5) = ev 0 4 [some (.ref 0)] [] (ad H [.inr (4, dO)] 5) := by
    simp (disch := first | omega | assumption | (refine b30 ?_; omega) | (refine nb_ok ?_ ?_ <;> first | omega | (simp only [ad_n, List.length_cons, List.length_nil, List.length_append, List.length_replicate, shL_len]; omega)) | (simp only [List.length_cons, List.length_nil]; omega) | (simp; done)) only [x0, e0_0, e0_1]
  simp only [Nat.reduceAdd] at a0 a1 a2 a3 a4
  rw [e0, a0, a1, a2, a3, a4]
  simp (disch := first | omega | assumption | (refine b30 ?_; omega) | (refine nb_ok ?_ ?_ <;> first | omega | (simp only [ad_n, List.length_cons, List.length_nil, List.length_append, List.length_replicate, shL_len]; omega)) | (simp only [List.length_cons, List.length_nil]; omega) | (simp; done)) only [e0_59]
  rfl
def ini0 : sT := fun _ _ => 0
def B0 (xs : Nat → Int32) (L : Nat) : pi_H := (fun k => if k = 0 then some (.inr (4, olF)) else pi_st xs L k, 88, 2180)
def W0 (xs : Nat → Int32) (L : Nat) : pi_H := Wd (B0 xs L) sh0 sh0 0 0 (fun _ => sh0) (fun _ _ _ => 0) (fun _ _ => 0) 0 0 0 (ini0 3) (fun _ => 0) (fun _ => 0) (u1 ini0 0 (flat sh0)) (fun _ _ => 0) (fun _ => 0)
theorem moS_f : moS = nf (flat sh0) := by
  funext i
  unfold moS upd nf
  by_cases h : i < 12
  · have h12 : i = 0 ∨ i = 1 ∨ i = 2 ∨ i = 3 ∨ i = 4 ∨ i = 5 ∨ i = 6 ∨ i = 7 ∨ i = 8 ∨ i = 9 ∨ i = 10 ∨ i = 11 := by omega
    rcases h12 with rfl | rfl | rfl | rfl | rfl | rfl | rfl | rfl | rfl | rfl | rfl | rfl <;> rfl
  · rw [if_neg (by omega), if_neg (by omega), if_neg (by omega), if_neg (by omega), if_neg (by omega)]
    have e : flat sh0 i = 0 := by
      have hz : ∀ k j, 2 ≤ k → sh0 k j = 0 := by
        intro k j hk
        unfold sh0
        rw [if_neg (by omega), if_neg (by omega)]
      unfold flat
      rw [if_neg (by omega), if_neg h, hz 2 _ (by omega), hz 3 _ (by omega), hz 13 _ (by omega)]
      by_cases h24 : i < 24
      · rw [if_pos h24]
        split <;> rfl
      · rw [if_neg h24]
        by_cases h33 : i < 33
        · rw [if_neg (by omega), if_pos h33, hz _ _ (by omega)]
        · rw [if_neg (by omega), if_neg h33]
          split
          · rfl
          · rw [if_neg (by omega)]
    rw [e]
    rfl
theorem fin_k0 (xs : Nat → Int32) (L : Nat) (k : Nat) (h1 : 0 ≤ k) (h2 : k < 22) : (olL ++ moL)[k]? = (W0 xs L).1 k := by
  have h : k = 0 ∨ k = 1 ∨ k = 2 ∨ k = 3 ∨ k = 4 ∨ k = 5 ∨ k = 6 ∨ k = 7 ∨ k = 8 ∨ k = 9 ∨ k = 10 ∨ k = 11 ∨ k = 12 ∨ k = 13 ∨ k = 14 ∨ k = 15 ∨ k = 16 ∨ k = 17 ∨ k = 18 ∨ k = 19 ∨ k = 20 ∨ k = 21 := by omega
  rcases h with rfl | rfl | rfl | rfl | rfl | rfl | rfl | rfl | rfl | rfl | rfl | rfl | rfl | rfl | rfl | rfl | rfl | rfl | rfl | rfl | rfl | rfl
  · rfl
  · rfl
  · rfl
  · rfl
  · rfl
  · rfl
  · rfl
  · rfl
  · rfl
  · rfl
  · rfl
  · rfl
  · rfl
  · rfl
  · rfl
  · rfl
  · rfl
  · rfl
  · rfl
  · rfl
  · rfl
  · rfl
theorem fin_k1 (xs : Nat → Int32) (L : Nat) (k : Nat) (h1 : 22 ≤ k) (h2 : k < 44) : (olL ++ moL)[k]? = (W0 xs L).1 k := by
  have h : k = 22 ∨ k = 23 ∨ k = 24 ∨ k = 25 ∨ k = 26 ∨ k = 27 ∨ k = 28 ∨ k = 29 ∨ k = 30 ∨ k = 31 ∨ k = 32 ∨ k = 33 ∨ k = 34 ∨ k = 35 ∨ k = 36 ∨ k = 37 ∨ k = 38 ∨ k = 39 ∨ k = 40 ∨ k = 41 ∨ k = 42 ∨ k = 43 := by omega
  rcases h with rfl | rfl | rfl | rfl | rfl | rfl | rfl | rfl | rfl | rfl | rfl | rfl | rfl | rfl | rfl | rfl | rfl | rfl | rfl | rfl | rfl | rfl
  · rfl
  · rfl
  · rfl
  · rfl
  · rfl
  · rfl
  · rfl
  · rfl
  · rfl
  · rfl
  · rfl
  · rfl
  · rfl
  · rfl
  · rfl
  · rfl
  · rfl
  · rfl
  · rfl
  · rfl
  · rfl
  · rfl
theorem fin_k2 (xs : Nat → Int32) (L : Nat) (k : Nat) (h1 : 44 ≤ k) (h2 : k < 66) : (olL ++ moL)[k]? = (W0 xs L).1 k := by
  have h : k = 44 ∨ k = 45 ∨ k = 46 ∨ k = 47 ∨ k = 48 ∨ k = 49 ∨ k = 50 ∨ k = 51 ∨ k = 52 ∨ k = 53 ∨ k = 54 ∨ k = 55 ∨ k = 56 ∨ k = 57 ∨ k = 58 ∨ k = 59 ∨ k = 60 ∨ k = 61 ∨ k = 62 ∨ k = 63 ∨ k = 64 ∨ k = 65 := by omega
  rcases h with rfl | rfl | rfl | rfl | rfl | rfl | rfl | rfl | rfl | rfl | rfl | rfl | rfl | rfl | rfl | rfl | rfl | rfl | rfl | rfl | rfl | rfl
  · rfl
  · rfl
  · rfl
  · rfl
  · rfl
  · rfl
  · rfl
  · rfl
  · rfl
  · rfl
  · rfl
  · rfl
  · rfl
  · rfl
  · rfl
  · rfl
  · rfl
  · rfl
  · rfl
  · rfl
  · rfl
  · rfl
theorem fin_k3 (xs : Nat → Int32) (L : Nat) (k : Nat) (h1 : 66 ≤ k) (h2 : k < 88) : (olL ++ moL)[k]? = (W0 xs L).1 k := by
  have h : k = 66 ∨ k = 67 ∨ k = 68 ∨ k = 69 ∨ k = 70 ∨ k = 71 ∨ k = 72 ∨ k = 73 ∨ k = 74 ∨ k = 75 ∨ k = 76 ∨ k = 77 ∨ k = 78 ∨ k = 79 ∨ k = 80 ∨ k = 81 ∨ k = 82 ∨ k = 83 ∨ k = 84 ∨ k = 85 ∨ k = 86 ∨ k = 87 := by omega
  rcases h with rfl | rfl | rfl | rfl | rfl | rfl | rfl | rfl | rfl | rfl | rfl | rfl | rfl | rfl | rfl | rfl | rfl | rfl | rfl | rfl | rfl | rfl
  · rfl
  · rfl
  · rfl
  · rfl
  · rfl
  · rfl
  · rfl
  · rfl
  · rfl
  · rfl
  · rfl
  · rfl
  · exact (congrArg (fun f => (some (.inl (0, 58, .inl f)) : Option pi_E)) moS_f).trans rfl
  · rfl
  · rfl
  · rfl
  · rfl
  · rfl
  · rfl
  · rfl
  · rfl
  · rfl
theorem fin_k (xs : Nat → Int32) (L : Nat) (k : Nat) (hk : k < 88) : (olL ++ moL)[k]? = (W0 xs L).1 k := by
  by_cases h1 : k < 22
  · exact fin_k0 xs L k (by omega) h1
  by_cases h2 : k < 44
  · exact fin_k1 xs L k (by omega) h2
  by_cases h3 : k < 66
  · exact fin_k2 xs L k (by omega) h3
  exact fin_k3 xs L k (by omega) hk
theorem fin_W (xs : Nat → Int32) (L : Nat) : ad (ad (pi_H0 xs L) olL 1139) moL 1041 = W0 xs L := by
  rw [ad_ad]
  refine Prod.ext (funext fun k => ?_) rfl
  have hl : (olL ++ moL).length = 88 := rfl
  show (if 0 ≤ k ∧ k < 0 + (olL ++ moL).length then (olL ++ moL)[k - 0]? else pi_st xs L k) = (W0 xs L).1 k
  rw [hl]
  by_cases hk : k < 88
  · rw [if_pos (by omega), Nat.sub_zero]
    exact fin_k xs L k hk
  · rw [if_neg (by omega)]
    have h := W_g (B0 xs L) sh0 sh0 0 0 (fun _ => sh0) (fun _ _ _ => 0) (fun _ _ => 0) 0 0 0 (ini0 3) (fun _ => 0) (fun _ => 0) (u1 ini0 0 (flat sh0)) (fun _ _ => 0) (fun _ => 0) k (by omega)
    have h2 : pi_get (B0 xs L) k = pi_st xs L k := by
      show (if k = 0 then some (.inr (4, olF)) else pi_st xs L k) = _
      rw [if_neg (by omega)]
    exact (h.trans h2).symm
theorem ini_ok (xs : Nat → Int32) (L : Nat) : InvH (B0 xs L) 0 (W0 xs L) := by
  refine ⟨sh0, sh0, 0, 0, fun _ => sh0, fun _ => sh0, fun _ _ _ => 0, fun _ _ => 0, 0, 0, 0, fun _ => 0, fun _ => 0, ini0, fun _ _ => 0, fun _ => 0, ⟨?_, by omega, by omega, fun j hj => absurd hj (by omega), fun j hj => absurd hj (by omega), rfl, Nat.zero_le _, rfl, fun i => Nat.zero_le _, fun j hj => absurd hj (by omega)⟩, rfl⟩
  have hz : ∀ k j, 2 ≤ k → sh0 k j = 0 := by
    intro k j hk
    unfold sh0
    rw [if_neg (by omega), if_neg (by omega)]
  have hs : wsum sh0 = 1 := rfl
  refine ⟨⟨?_, ⟨by decide, by decide, by decide, by decide, by decide⟩, by omega⟩, by omega, ?_, ?_, ?_, ?_, ?_⟩
  · intro d hd
    unfold sh0
    rw [if_pos rfl]
    split <;> omega
  · intro p hp
    rw [hz 2 _ (by omega), hz 3 _ (by omega)]
    omega
  · rw [hz 5 _ (by omega)]; omega
  · rw [hz 6 _ (by omega)]; omega
  · rw [hz 7 _ (by omega)]; omega
  · rw [hz 13 _ (by omega)]; omega
theorem B0_g (xs : Nat → Int32) (L k : Nat) (h : 1 ≤ k) : pi_get (B0 xs L) k = pi_st xs L k := if_neg (by omega)
theorem B0_ok (xs : Nat → Int32) (L : Nat) : okS (B0 xs L) := by
  refine ⟨rfl, ?_, ?_⟩
  · unfold mcok
    rw [B0_g _ _ _ (by omega)]
    rfl
  · intro k hk
    rw [B0_g _ _ _ (by omega), B0_g _ _ _ (by omega)]
    have h : k = 0 ∨ k = 1 ∨ k = 2 ∨ k = 3 ∨ k = 4 ∨ k = 5 ∨ k = 6 := by omega
    rcases h with rfl | rfl | rfl | rfl | rfl | rfl | rfl <;> refine ⟨rfl, _, rfl, ?_⟩ <;> exact pi_range (by decide +kernel)
theorem B0_s (xs : Nat → Int32) (L : Nat) : scr (B0 xs L) xs L := by
  unfold scr
  rw [B0_g _ _ _ (by omega)]
  rfl
theorem ini170 (xs : Nat → Int32) (L : Nat) : ex 170 [.ref 1000050] (pi_H0 xs L) = ev 170 18 [some (.ref 1000050), some (.ref 0), some (.ref 77), some (.int (nI 0))] [] (W0 xs L) := by
  have hz : (pi_H0 xs L).2.1 = 0 := rfl
  have hk := k0 (pi_H0 xs L) hz
  have h0 := ad_0 (pi_H0 xs L) (4, dO) 5
  have hl : (pi_H0 xs L).2.1 < 1000000 := by rw [hz]; omega
  have gX : (ad (pi_H0 xs L) olL 1139).2.1 = 77 := rfl
  have gl : (ad (pi_H0 xs L) olL 1139).2.1 < 1000000 := by rw [gX]; omega
  have hk2 := k113 (ad (pi_H0 xs L) olL 1139) gX
  have h1 := ad_0 (ad (pi_H0 xs L) olL 1139) (5, dR) 15
  have hW := fin_W xs L
  simp (disch := first | omega | assumption | (refine b30 ?_; omega) | (refine nb_ok ?_ ?_ <;> first | omega | (simp only [ad_n, List.length_cons, List.length_nil, List.length_append, List.length_replicate, shL_len]; omega)) | (simp only [List.length_cons, List.length_nil]; omega) | (simp; done)) only [x170, e170_0, e170_3, e170_4, e170_7, e170_8, e170_11, e170_12, e170_15, e170_16, e170_17, kv_s, kh_s, kn_s, kc_v, kc_n, dg4, dl4, dg5, dl5, hz, h0, hk, gX, h1, hk2, hW]
