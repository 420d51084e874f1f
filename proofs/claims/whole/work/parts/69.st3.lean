-- PART 69: steps, third: undo and texts
theorem u2_upN (ι : sT) (k i x : Nat) : u2 ι k i x k = upN (ι k) i x := by
  funext j
  unfold u2 upN
  simp
section
variable (B : pi_H) (t : Nat) (H : pi_H)
theorem st17 (hB : okS B) (hI : InvH B t H) : agI B t 84 157 [] H := by
  obtain ⟨a, b, nw, sz, r, h, μ, β, fl, fh, fc, ν, σ, ι, z, κ, ok, rfl⟩ := hI
  obtain ⟨o1, o2, o3, o4, o5, o6, o7, o8, o9, o10⟩ := id ok
  by_cases h0 : sz = 0
  · have e1 := c84z B a b nw sz r μ β fl fh fc (ι 3) ν σ (u1 ι 0 (flat a)) z κ hB.1 h0
    have e2 := m157z (Wd B a b nw sz r μ β fl fh fc (ι 3) ν σ (u1 ι 0 (flat a)) z κ) (u1 ι 0 (flat a)) z κ (by omega)
    simp only [W_O] at e2
    exact ⟨_, _, _, e1, e2, isW_mk B _ _ _ _ _ _ _ _ _ _ _ _ _ _ _ _, step_q B t a nw sz r h σ ι κ ok b μ β fl fh fc ν σ ι z κ rfl rfl rfl rfl rfl⟩
  · have hr : h (sz - 1) = r nw := by
      have := o4 0 (by omega)
      rw [show sz - 1 - 0 = sz - 1 by omega, show (nw + 4 - 0) % 4 = nw by omega] at this
      exact this
    have okh := o5 (sz - 1) (by omega)
    have e1 := c84 B a b nw sz r μ β fl fh fc (ι 3) ν σ (u1 ι 0 (flat a)) z κ hB.1 o2 o3 (by omega) (by rw [← hr]; exact okh.2.2.2.2.2.1)
    have e2 := m157 (Wd B (r nw) b ((nw + 3) % 4) (sz - 1) r μ β fl fh fc (ι 3) ν σ (u1 ι 0 (flat a)) z κ) ι z κ a h (sz - 1) (by omega) (by omega) (by rw [show sz - 1 + 1 = sz by omega]; exact o10)
    simp only [W_O] at e2
    rw [hr] at e2
    refine ⟨_, _, _, e1, e2, isW_mk B _ _ _ _ _ _ _ _ _ _ _ _ _ _ _ _, r nw, b, (nw + 3) % 4, sz - 1, r, h, μ, β, fl, fh, fc, ν, σ, ι, z, uk κ 0 (sz - 1), ?_, rfl⟩
    rw [hr] at okh
    exact ⟨okT_le okh (by omega), Nat.mod_lt _ (by omega), by omega, hist_pop nw sz r h o2 o3 o4, fun j hj => okT_le (o5 j (by omega)) (by omega), rfl, o7, o8, o9, fun j hj => o10 j (by omega)⟩
theorem st18 (hB : okS B) (x : Int32) (hI : InvH B t H) : agI B t 86 158 [.int x] H := by
  obtain ⟨a, b, nw, sz, r, h, μ, β, fl, fh, fc, ν, σ, ι, z, κ, ok, rfl⟩ := hI
  obtain ⟨o1, o2, o3, o4, o5, o6, o7, o8, o9, o10⟩ := id ok
  by_cases q : inR x (nI 32) (nI 126)
  · obtain ⟨x, h1, h2, rfl⟩ := inR_nI q (by omega) (by omega)
    by_cases q2 : κ 1 < 80
    · have e1 := c86 B a b nw sz r μ β fl fh fc (ι 3) ν σ (u1 ι 0 (flat a)) z κ hB.1 x (κ 1) h1 h2 o8 q2
      have e2 := m158 (Wd B a b nw sz r μ β fl fh fc (upN (ι 3) (κ 1) x) ν (upN σ 0 (κ 1 + 1)) (u1 ι 0 (flat a)) z κ) (u1 ι 0 (flat a)) z κ x (κ 1) h1 h2 q2 rfl
      rw [u2_u1n _ _ _ _ _ _ (by omega)] at e2
      simp only [W_O] at e2
      refine ⟨_, _, _, e1, e2, isW_mk B _ _ _ _ _ _ _ _ _ _ _ _ _ _ _ _, a, b, nw, sz, r, h, μ, β, fl, fh, fc, ν, upN σ 0 (κ 1 + 1), u2 ι 3 (κ 1) x, z, uk κ 1 (κ 1 + 1), ?_, ?_⟩
      · refine ⟨okT_le o1 (by omega), o2, o3, o4, fun j hj => okT_le (o5 j hj) (by omega), o6, ?_, rfl, ?_, ?_⟩
        · show κ 1 + 1 ≤ 80
          omega
        · intro i
          rw [u2_upN, upN_app]
          split
          · exact h2
          · exact o9 i
        · rw [u2_ne _ _ _ _ _ (by omega)]
          exact o10
      · rw [u2_upN]
    · have e1 := c86l B a b nw sz r μ β fl fh fc (ι 3) ν σ (u1 ι 0 (flat a)) z κ hB.1 x h1 h2 (by omega)
      have e2 := m158l (Wd B a b nw sz r μ β fl fh fc (ι 3) ν σ (u1 ι 0 (flat a)) z κ) (u1 ι 0 (flat a)) z κ x h1 h2 (by omega)
      simp only [W_O] at e2
      exact ⟨_, _, _, e1, e2, isW_mk B _ _ _ _ _ _ _ _ _ _ _ _ _ _ _ _, step_q B t a nw sz r h σ ι κ ok b μ β fl fh fc ν σ ι z κ rfl rfl rfl rfl rfl⟩
  · exact ⟨_, _, _, c86o B a b nw sz r μ β fl fh fc (ι 3) ν σ (u1 ι 0 (flat a)) z κ hB.1 x q, m158o _ x q, isW_mk B _ _ _ _ _ _ _ _ _ _ _ _ _ _ _ _, step_q B t a nw sz r h σ ι κ ok b μ β fl fh fc ν σ ι z κ rfl rfl rfl rfl rfl⟩
theorem st19 (hB : okS B) (hI : InvH B t H) : agI B t 88 159 [] H := by
  obtain ⟨a, b, nw, sz, r, h, μ, β, fl, fh, fc, ν, σ, ι, z, κ, ok, rfl⟩ := hI
  obtain ⟨o1, o2, o3, o4, o5, o6, o7, o8, o9, o10⟩ := id ok
  have e1 := c88 B a b nw sz r μ β fl fh fc (ι 3) ν σ (u1 ι 0 (flat a)) z κ hB.1
  have e2 := m159 (Wd B a b nw sz r μ β fl fh fc (ι 3) ν (upN σ 0 0) (u1 ι 0 (flat a)) z κ) (u1 ι 0 (flat a)) z κ (κ 1) rfl
  simp only [W_O] at e2
  rw [o8] at e1
  refine ⟨_, _, _, e1, e2, isW_mk B _ _ _ _ _ _ _ _ _ _ _ _ _ _ _ _, a, b, nw, sz, r, h, μ, β, fl, fh, fc, ν, upN σ 0 0, ι, z, uk κ 1 0, ?_, rfl⟩
  exact ⟨okT_le o1 (by omega), o2, o3, o4, fun j hj => okT_le (o5 j hj) (by omega), o6, Nat.zero_le _, rfl, o9, o10⟩
theorem st20 (hB : okS B) (ht : t + 100 < 2 ^ 29) (x : Int32) (hI : InvH B t H) : agI B t 90 160 [.int x] H := by
  obtain ⟨a, b, nw, sz, r, h, μ, β, fl, fh, fc, ν, σ, ι, z, κ, ok, rfl⟩ := hI
  obtain ⟨o1, o2, o3, o4, o5, o6, o7, o8, o9, o10⟩ := id ok
  by_cases q : inR x (nI 0) (nI 1)
  · obtain ⟨w, hw, rfl⟩ := inR_w 1 x (by omega) q
    obtain ⟨b', ν', σ', e1, j1⟩ := c90 B a b nw sz r μ β fl fh fc (ι 3) ν σ (u1 ι 0 (flat a)) z κ hB.1 hB.2.1 hB.2.2 o9 (κ 1) o7 t o1 (by omega) o8 w hw
    obtain ⟨ι', κ', e2, i1, i2, i3⟩ := m160 (Wd B a b' nw sz r μ β fl fh fc (ι 3) ν' σ' (u1 ι 0 (flat a)) z κ) z a t ι κ w hw o9 o7 o1 (by omega)
    simp only [W_O] at e2
    exact ⟨_, _, _, e1, e2, isW_mk B _ _ _ _ _ _ _ _ _ _ _ _ _ _ _ _, step_q B t a nw sz r h σ ι κ ok b' μ β fl fh fc ν' σ' ι' z κ' (by omega) (i1 3 (by omega) (by omega)) (i1 2 (by omega) (by omega)) i2 i3⟩
  · have e2 := m160o (Wd B a b nw sz r μ β fl fh fc (ι 3) ν σ (u1 ι 0 (flat a)) z κ) z κ (u1 ι 0 (flat a)) x q
    simp only [W_O] at e2
    exact ⟨_, _, _, c90o B a b nw sz r μ β fl fh fc (ι 3) ν σ (u1 ι 0 (flat a)) z κ x q, e2, isW_mk B _ _ _ _ _ _ _ _ _ _ _ _ _ _ _ _, step_q B t a nw sz r h σ ι κ ok b μ β fl fh fc ν σ ι z κ rfl rfl rfl rfl rfl⟩
theorem st21 (hB : okS B) (ht : t + 100 < 2 ^ 29) (hI : InvH B t H) : agI B t 111 169 [] H := by
  obtain ⟨a, b, nw, sz, r, h, μ, β, fl, fh, fc, ν, σ, ι, z, κ, ok, rfl⟩ := hI
  obtain ⟨o1, o2, o3, o4, o5, o6, o7, o8, o9, o10⟩ := id ok
  obtain ⟨b', ν', σ', j0, j1, j2⟩ := c111 B a b nw sz r μ β fl fh fc (ι 3) ν σ (u1 ι 0 (flat a)) z κ hB.1 hB.2.1 hB.2.2 o9 (κ 1) o7 t o1 (by omega) o8 o2 o3
  have hM := fun H => m169 H z a t ι κ o9 o7 o1 (by omega) h sz o3 o6 o10
  have hrun := run1_ok (ι 3) (κ 1) o9 80 0 a 0 t o1
  cases hq : (run1 (ι 3) (κ 1) 80 0 a 0).1 with
  | some fr =>
    have e1 := j1 fr hq
    obtain ⟨ι', κ', e2, i1, i2, i3⟩ := (hM (Wd B a b' nw sz r μ β fl fh fc (ι 3) ν' σ' (u1 ι 0 (flat a)) z κ)).1 fr hq
    simp only [W_O] at e2
    exact ⟨_, _, _, e1, e2, isW_mk B _ _ _ _ _ _ _ _ _ _ _ _ _ _ _ _, step_q B t a nw sz r h σ ι κ ok b' μ β fl fh fc ν' σ' ι' z κ' (by omega) (i1 3 (by omega) (by omega)) (i1 2 (by omega) (by omega)) i2 i3⟩
  | none =>
    have e1 := j2 hq
    obtain ⟨ι', κ', e2, i1, i2, i3, i4⟩ := (hM (Wd B (run1 (ι 3) (κ 1) 80 0 a 0).2.1 b' ((nw + 1) % 4) (min (sz + 1) 4) (upr r ((nw + 1) % 4) a) μ β fl fh fc (ι 3) ν' σ' (u1 ι 0 (flat a)) z κ)).2 hq
    simp only [W_O] at e2
    have h3 : ι' 3 = ι 3 := i2 3 (by omega) (by omega) (by omega)
    have e6 := pushN_min sz o3
    have hk := pushH_ok (okT (t + 81)) h sz a o3 (okT_le o1 (by omega)) (fun j hj => okT_le (o5 j hj) (by omega))
    rw [e6] at i1 i3 hk
    refine ⟨_, _, _, e1, e2, isW_mk B _ _ _ _ _ _ _ _ _ _ _ _ _ _ _ _, (run1 (ι 3) (κ 1) 80 0 a 0).2.1, b', (nw + 1) % 4, min (sz + 1) 4, upr r ((nw + 1) % 4) a, pushH h sz a, μ, β, fl, fh, fc, ν', σ', ι', z, κ', ?_, ?_⟩
    · exact ⟨okT_le hrun.1 (by omega), Nat.mod_lt _ (by omega), by omega, hist_push nw sz r h a o2 o3 o4, hk, i3, by omega, by omega, by rw [h3]; exact o9, i1⟩
    · rw [h3]
end
