-- PART 68: steps, second: one call on both
def okAll (t : Nat) (a : sT) (nw sz : Nat) (r h : Nat → sT) (σ : Nat → Nat) (ι : sT) (κ : kT) : Prop := okT t a ∧ nw < 4 ∧ sz ≤ 4 ∧ (∀ j, j < sz → h (sz - 1 - j) = r ((nw + 4 - j) % 4)) ∧ (∀ j, j < sz → okT t (h j)) ∧ κ 0 = sz ∧ κ 1 ≤ 80 ∧ σ 0 = κ 1 ∧ (∀ i, ι 3 i ≤ 126) ∧ okPast h sz (ι 2)
def isW (B H : pi_H) : Prop := ∃ (a b : sT) (nw sz : Nat) (r : Nat → sT) (μ : lT) (β : bT) (fl fh : Int32) (fc : Int64) (τ ν σ : Nat → Nat) (ι : sT) (z : jT) (κ : kT), H = Wd B a b nw sz r μ β fl fh fc τ ν σ ι z κ
def InvH (B : pi_H) (t : Nat) (H : pi_H) : Prop := ∃ (a b : sT) (nw sz : Nat) (r h : Nat → sT) (μ : lT) (β : bT) (fl fh : Int32) (fc : Int64) (ν σ : Nat → Nat) (ι : sT) (z : jT) (κ : kT), okAll t a nw sz r h σ ι κ ∧ H = Wd B a b nw sz r μ β fl fh fc (ι 3) ν σ (u1 ι 0 (flat a)) z κ
def agI (B : pi_H) (t mx mm : Nat) (as : List Value) (H : pi_H) : Prop := ∃ (v : Int32) (H1 H2 : pi_H), ex mx (.ref 0 :: as) H = some (some (.int v), H1) ∧ ex mm (.ref 77 :: as) H1 = some (some (.int v), H2) ∧ isW B H1 ∧ InvH B (t + 81) H2
def agL (B : pi_H) (t mx mm : Nat) (as : List Value) (H : pi_H) : Prop := ∃ (v : Int64) (H1 H2 : pi_H), ex mx (.ref 0 :: as) H = some (some (.long v), H1) ∧ ex mm (.ref 77 :: as) H1 = some (some (.long v), H2) ∧ isW B H1 ∧ InvH B (t + 81) H2
def okS (B : pi_H) : Prop := olok B ∧ mcok B ∧ strs B
theorem isW_mk (B : pi_H) (a b : sT) (nw sz : Nat) (r : Nat → sT) (μ : lT) (β : bT) (fl fh : Int32) (fc : Int64) (τ ν σ : Nat → Nat) (ι : sT) (z : jT) (κ : kT) : isW B (Wd B a b nw sz r μ β fl fh fc τ ν σ ι z κ) := ⟨a, b, nw, sz, r, μ, β, fl, fh, fc, τ, ν, σ, ι, z, κ, rfl⟩
section
variable (B : pi_H) (t : Nat) (a b : sT) (nw sz : Nat) (r h : Nat → sT) (μ : lT) (β : bT) (fl fh : Int32) (fc : Int64) (ν σ : Nat → Nat) (ι : sT) (z : jT) (κ : kT)
theorem step_q (ok : okAll t a nw sz r h σ ι κ) (b' : sT) (μ' : lT) (β' : bT) (fl' fh' : Int32) (fc' : Int64) (ν' σ' : Nat → Nat) (ι' : sT) (z' : jT) (κ' : kT) (hσ : σ' 0 = σ 0) (h3 : ι' 3 = ι 3) (h2 : ι' 2 = ι 2) (k0 : κ' 0 = κ 0) (k1 : κ' 1 = κ 1) : InvH B (t + 81) (Wd B a b' nw sz r μ' β' fl' fh' fc' (ι 3) ν' σ' (u1 ι' 0 (flat a)) z' κ') := by
  obtain ⟨o1, o2, o3, o4, o5, o6, o7, o8, o9, o10⟩ := ok
  refine ⟨a, b', nw, sz, r, h, μ', β', fl', fh', fc', ν', σ', ι', z', κ', ⟨okT_le o1 (by omega), o2, o3, o4, fun j hj => okT_le (o5 j hj) (by omega), by omega, by omega, by omega, by rw [h3]; exact o9, by rw [h2]; exact o10⟩, ?_⟩
  rw [h3]
theorem step_ch (ok : okAll t a nw sz r h σ ι κ) (mx mm : Nat) (as : List Value) (R : Int32 × sT) (hR : bad R a ∨ good t R) (hc : ex mx (.ref 0 :: as) (Wd B a b nw sz r μ β fl fh fc (ι 3) ν σ (u1 ι 0 (flat a)) z κ) = some (some (.int R.1), Wd B R.2 a (nwF R.1 nw) (szF R.1 sz) (rF R.1 nw r a) μ β fl fh fc (ι 3) ν σ (u1 ι 0 (flat a)) z κ)) (hd : ∀ H, actR H z κ ι a h sz R (ex mm (.ref 77 :: as) (MO H (u1 ι 0 (flat a)) z κ))) : agI B t mx mm as (Wd B a b nw sz r μ β fl fh fc (ι 3) ν σ (u1 ι 0 (flat a)) z κ) := by
  obtain ⟨o1, o2, o3, o4, o5, o6, o7, o8, o9, o10⟩ := ok
  obtain ⟨ι', κ', e, i1, i2, i3, i4⟩ := hd (Wd B R.2 a (nwF R.1 nw) (szF R.1 sz) (rF R.1 nw r a) μ β fl fh fc (ι 3) ν σ (u1 ι 0 (flat a)) z κ)
  simp only [W_O] at e
  refine ⟨R.1, _, _, hc, e, isW_mk B _ _ _ _ _ _ _ _ _ _ _ _ _ _ _ _, R.2, a, nwF R.1 nw, szF R.1 sz, rF R.1 nw r a, hF R.1 h sz a, μ, β, fl, fh, fc, ν, σ, ι', z, κ', ?_, ?_⟩
  · have h3 : ι' 3 = ι 3 := i2 3 (by omega) (by omega)
    rcases hR with hb | hg
    · have hneg := bad_neg hb
      have e1 : nwF R.1 nw = nw := if_pos hneg
      have e2 : szF R.1 sz = sz := if_pos hneg
      have e3 : rF R.1 nw r a = r := if_pos hneg
      have e4 : hF R.1 h sz a = h := if_pos hneg
      have e5 : nF R.1 sz = sz := if_pos hneg
      rw [e4, e5] at i1
      rw [e5] at i3
      rw [e1, e2, e3, e4, hb.1]
      exact ⟨okT_le o1 (by omega), o2, o3, o4, fun j hj => okT_le (o5 j hj) (by omega), i3, by omega, by omega, by rw [h3]; exact o9, i1⟩
    · have hpos := good_pos hg
      have e1 : nwF R.1 nw = (nw + 1) % 4 := if_neg hpos
      have e2 : szF R.1 sz = min (sz + 1) 4 := if_neg hpos
      have e3 : rF R.1 nw r a = upr r ((nw + 1) % 4) a := if_neg hpos
      have e4 : hF R.1 h sz a = pushH h sz a := if_neg hpos
      have e5 : nF R.1 sz = pushN sz := if_neg hpos
      have e6 := pushN_min sz o3
      rw [e4, e5] at i1
      rw [e5] at i3
      rw [e1, e2, e3, e4]
      have hk := pushH_ok (okT (t + 81)) h sz a o3 (okT_le o1 (by omega)) (fun j hj => okT_le (o5 j hj) (by omega))
      rw [e6] at i1 i3 hk
      exact ⟨okT_le hg.2 (by omega), Nat.mod_lt _ (by omega), by omega, hist_push nw sz r h a o2 o3 o4, hk, i3, by omega, by omega, by rw [h3]; exact o9, i1⟩
  · rw [i2 3 (by omega) (by omega)]
end
theorem inR_w (n : Nat) (x : Int32) (hn : n < 2 ^ 31) (h : inR x (nI 0) (nI n)) : ∃ d, d ≤ n ∧ x = nI d := by
  obtain ⟨d, _, h2, rfl⟩ := inR_nI h hn (by omega)
  exact ⟨d, h2, rfl⟩
section
variable (B : pi_H) (hB : okS B) (t : Nat) (ht : t + 100 < 2 ^ 29) (H : pi_H)
theorem st0 (hB : okS B) (x y : Int32) (hI : InvH B t H) : agI B t 5 114 [.int x, .int y] H := by
  obtain ⟨a, b, nw, sz, r, h, μ, β, fl, fh, fc, ν, σ, ι, z, κ, ok, rfl⟩ := hI
  obtain ⟨o1, o2, o3, o4, o5, o6, o7, o8, o9, o10⟩ := id ok
  have bP : okPast h sz (bg ι a 2) := by rw [bg_n _ _ _ (by omega)]; exact o10
  by_cases q : inR x (nI 0) (nI 6) ∧ inR y (nI 0) (nI 9)
  · obtain ⟨d, hd, rfl⟩ := inR_w 6 x (by omega) q.1
    obtain ⟨w, hw, rfl⟩ := inR_w 9 y (by omega) q.2
    have e := s7 1 (by omega) a o1.1.2.2 d w hd hw (Wd B a a nw sz r μ β fl fh fc (ι 3) ν σ (u1 ι 0 (flat a)) z κ)
    simp only [W_1] at e
    exact step_ch B t a b nw sz r h μ β fl fh fc ν σ ι z κ ok 5 114 _ (m_weigh a d w) (o_weigh t a o1 d w hd hw) (c5 B a b nw sz r μ β fl fh fc (ι 3) ν σ _ z κ _ hB.1 o1.2.2.2.2.2.1 o2 o3 _ _ e) (fun H => d114 H z κ ι a h sz _ t (o_weigh t a o1 d w hd hw) o3 o6 o10 _ _ (m116u H (bg ι a) z κ a o1.1.2.2 d w hd hw))
  · have e := s7o 1 a x y q (Wd B a a nw sz r μ β fl fh fc (ι 3) ν σ (u1 ι 0 (flat a)) z κ)
    exact step_ch B t a b nw sz r h μ β fl fh fc ν σ ι z κ ok 5 114 _ (-1000001, a) (.inl (bad1 a)) (c5 B a b nw sz r μ β fl fh fc (ι 3) ν σ _ z κ (-1000001, a) hB.1 o1.2.2.2.2.2.1 o2 o3 _ _ e) (fun H => d114 H z κ ι a h sz (-1000001, a) t (.inl (bad1 a)) o3 o6 o10 _ _ (m116o _ x y q))
theorem st1 (hB : okS B) (x y : Int32) (hI : InvH B t H) : agI B t 13 120 [.int x, .int y] H := by
  obtain ⟨a, b, nw, sz, r, h, μ, β, fl, fh, fc, ν, σ, ι, z, κ, ok, rfl⟩ := hI
  obtain ⟨o1, o2, o3, o4, o5, o6, o7, o8, o9, o10⟩ := id ok
  have hm := W_mc B a a nw sz r μ β fl fh fc (ι 3) ν σ (u1 ι 0 (flat a)) z κ hB.2.1
  by_cases q : inR x (nI 0) (nI 4) ∧ inR y (nI 0) (nI (mc x.toNatClampNeg))
  · obtain ⟨d, hd, rfl⟩ := inR_w 4 x (by omega) q.1
    have h99 : mc d ≤ 99 := by unfold mc; (repeat' split) <;> omega
    have q2 := q.2
    rw [nI_clamp (by omega)] at q2
    obtain ⟨w, hw, rfl⟩ := inR_w (mc d) y (by omega) q2
    have e := s14 1 (by omega) a d w hd hw (Wd B a a nw sz r μ β fl fh fc (ι 3) ν σ (u1 ι 0 (flat a)) z κ) hm
    simp only [W_1] at e
    exact step_ch B t a b nw sz r h μ β fl fh fc ν σ ι z κ ok 13 120 _ (m_cost a d w) (.inr (o_cost t a o1 d w hd hw)) (c13 B a b nw sz r μ β fl fh fc (ι 3) ν σ _ z κ _ hB.1 o1.2.2.2.2.2.1 o2 o3 _ _ e) (fun H => d120 H z κ ι a h sz _ t (.inr (o_cost t a o1 d w hd hw)) o3 o6 o10 _ _ (m121 H (bg ι a) z κ a d w hd hw))
  · have e := s14o 1 (by omega) a x y (Wd B a a nw sz r μ β fl fh fc (ι 3) ν σ (u1 ι 0 (flat a)) z κ) hm q
    simp only [W_1] at e
    exact step_ch B t a b nw sz r h μ β fl fh fc ν σ ι z κ ok 13 120 _ (-1000001, a) (.inl (bad1 a)) (c13 B a b nw sz r μ β fl fh fc (ι 3) ν σ _ z κ (-1000001, a) hB.1 o1.2.2.2.2.2.1 o2 o3 _ _ e) (fun H => d120 H z κ ι a h sz (-1000001, a) t (.inl (bad1 a)) o3 o6 o10 _ _ (m121o _ x y q))
theorem st2 (hB : okS B) (x y w : Int32) (hI : InvH B t H) : agI B t 15 123 [.int x, .int y, .int w] H := by
  obtain ⟨a, b, nw, sz, r, h, μ, β, fl, fh, fc, ν, σ, ι, z, κ, ok, rfl⟩ := hI
  obtain ⟨o1, o2, o3, o4, o5, o6, o7, o8, o9, o10⟩ := id ok
  by_cases q : inR x (nI 1) (nI 6) ∧ inR y (nI 0) (nI 20) ∧ inR w y (nI 20)
  · obtain ⟨d, hd1, hd, rfl⟩ := inR_nI q.1 (by omega) (by omega)
    obtain ⟨l, hl, rfl⟩ := inR_w 20 y (by omega) q.2.1
    obtain ⟨u, hu1, hu, rfl⟩ := inR_nI q.2.2 (by omega) (by omega)
    have e := s16 1 (by omega) a d l u hd1 hd hu1 hu (Wd B a a nw sz r μ β fl fh fc (ι 3) ν σ (u1 ι 0 (flat a)) z κ)
    simp only [W_1] at e
    exact step_ch B t a b nw sz r h μ β fl fh fc ν σ ι z κ ok 15 123 _ (m_plan a d l u) (.inr (o_plan t a o1 d l u hd1 hd hu1 hu)) (c15 B a b nw sz r μ β fl fh fc (ι 3) ν σ _ z κ _ hB.1 o1.2.2.2.2.2.1 o2 o3 _ _ _ e) (fun H => d123 H z κ ι a h sz _ t (.inr (o_plan t a o1 d l u hd1 hd hu1 hu)) o3 o6 o10 _ _ _ (m124 H (bg ι a) z κ a d l u hd1 hd hu1 hu))
  · have e := s16o 1 a x y w q (Wd B a a nw sz r μ β fl fh fc (ι 3) ν σ (u1 ι 0 (flat a)) z κ)
    exact step_ch B t a b nw sz r h μ β fl fh fc ν σ ι z κ ok 15 123 _ (-1000001, a) (.inl (bad1 a)) (c15 B a b nw sz r μ β fl fh fc (ι 3) ν σ _ z κ (-1000001, a) hB.1 o1.2.2.2.2.2.1 o2 o3 _ _ _ e) (fun H => d123 H z κ ι a h sz (-1000001, a) t (.inl (bad1 a)) o3 o6 o10 _ _ _ (m124o _ x y w q))
theorem st4 (hB : okS B) (x y : Int32) (hI : InvH B t H) : agI B t 19 125 [.int x, .int y] H := by
  obtain ⟨a, b, nw, sz, r, h, μ, β, fl, fh, fc, ν, σ, ι, z, κ, ok, rfl⟩ := hI
  obtain ⟨o1, o2, o3, o4, o5, o6, o7, o8, o9, o10⟩ := id ok
  by_cases q : inR x (nI 0) (nI 20) ∧ inR y (nI 1) (nI 6)
  · obtain ⟨d, hd, rfl⟩ := inR_w 20 x (by omega) q.1
    obtain ⟨w, hw1, hw, rfl⟩ := inR_nI q.2 (by omega) (by omega)
    have e := s20 1 (by omega) a d w hw1 hw hd (Wd B a a nw sz r μ β fl fh fc (ι 3) ν σ (u1 ι 0 (flat a)) z κ)
    simp only [W_1] at e
    exact step_ch B t a b nw sz r h μ β fl fh fc ν σ ι z κ ok 19 125 _ (m_season a d w) (.inr (o_season t a o1 d w hd hw)) (c19 B a b nw sz r μ β fl fh fc (ι 3) ν σ _ z κ _ hB.1 o1.2.2.2.2.2.1 o2 o3 _ _ e) (fun H => d125 H z κ ι a h sz _ t (.inr (o_season t a o1 d w hd hw)) o3 o6 o10 _ _ (m126 H (bg ι a) z κ a d w hw1 hw hd))
  · have e := s20o 1 a x y q (Wd B a a nw sz r μ β fl fh fc (ι 3) ν σ (u1 ι 0 (flat a)) z κ)
    exact step_ch B t a b nw sz r h μ β fl fh fc ν σ ι z κ ok 19 125 _ (-1000001, a) (.inl (bad1 a)) (c19 B a b nw sz r μ β fl fh fc (ι 3) ν σ _ z κ (-1000001, a) hB.1 o1.2.2.2.2.2.1 o2 o3 _ _ e) (fun H => d125 H z κ ι a h sz (-1000001, a) t (.inl (bad1 a)) o3 o6 o10 _ _ (m126o _ x y q))
theorem st5 (hB : okS B) (x : Int32) (hI : InvH B t H) : agI B t 21 127 [.int x] H := by
  obtain ⟨a, b, nw, sz, r, h, μ, β, fl, fh, fc, ν, σ, ι, z, κ, ok, rfl⟩ := hI
  obtain ⟨o1, o2, o3, o4, o5, o6, o7, o8, o9, o10⟩ := id ok
  by_cases q : inR x (nI 0) (nI 20)
  · obtain ⟨d, hd, rfl⟩ := inR_w 20 x (by omega) q
    have e := s22 1 (by omega) a d hd o1.2.2.2.1 o1.2.2.2.2.1 o1.2.2.2.2.2.1 (Wd B a a nw sz r μ β fl fh fc (ι 3) ν σ (u1 ι 0 (flat a)) z κ)
    simp only [W_1] at e
    exact step_ch B t a b nw sz r h μ β fl fh fc ν σ ι z κ ok 21 127 _ (m_order a d) (o_order t a o1 d hd) (c21 B a b nw sz r μ β fl fh fc (ι 3) ν σ _ z κ _ hB.1 o1.2.2.2.2.2.1 o2 o3 _ e) (fun H => d127 H z κ ι a h sz _ t (o_order t a o1 d hd) o3 o6 o10 _ (m128 H (bg ι a) z κ a d hd o1.2.2.2.1 o1.2.2.2.2.1 o1.2.2.2.2.2.1))
  · have e := s22o 1 a x q (Wd B a a nw sz r μ β fl fh fc (ι 3) ν σ (u1 ι 0 (flat a)) z κ)
    exact step_ch B t a b nw sz r h μ β fl fh fc ν σ ι z κ ok 21 127 _ (-1000001, a) (.inl (bad1 a)) (c21 B a b nw sz r μ β fl fh fc (ι 3) ν σ _ z κ (-1000001, a) hB.1 o1.2.2.2.2.2.1 o2 o3 _ e) (fun H => d127 H z κ ι a h sz (-1000001, a) t (.inl (bad1 a)) o3 o6 o10 _ (m128o _ x q))
theorem st6 (hB : okS B) (hI : InvH B t H) : agI B t 24 129 [] H := by
  obtain ⟨a, b, nw, sz, r, h, μ, β, fl, fh, fc, ν, σ, ι, z, κ, ok, rfl⟩ := hI
  obtain ⟨o1, o2, o3, o4, o5, o6, o7, o8, o9, o10⟩ := id ok
  have e := s25 1 (by omega) a o1.2.2.2.1 o1.2.2.2.2.1 o1.2.2.2.2.2.1 o1.2.2.1 (Wd B a a nw sz r μ β fl fh fc (ι 3) ν σ (u1 ι 0 (flat a)) z κ)
  simp only [W_1] at e
  exact step_ch B t a b nw sz r h μ β fl fh fc ν σ ι z κ ok 24 129 _ (m_follow a) (o_follow t a o1) (c24 B a b nw sz r μ β fl fh fc (ι 3) ν σ _ z κ _ hB.1 o1.2.2.2.2.2.1 o2 o3 e) (fun H => d129 H z κ ι a h sz _ t (o_follow t a o1) o3 o6 o10 (m130 H (bg ι a) z κ a o1.2.2.2.1 o1.2.2.2.2.1 o1.2.2.2.2.2.1 o1.1.2.1 o1.2.2.1))
theorem st7 (hB : okS B) (ht : t + 100 < 2 ^ 29) (x : Int32) (hI : InvH B t H) : agI B t 29 131 [.int x] H := by
  obtain ⟨a, b, nw, sz, r, h, μ, β, fl, fh, fc, ν, σ, ι, z, κ, ok, rfl⟩ := hI
  obtain ⟨o1, o2, o3, o4, o5, o6, o7, o8, o9, o10⟩ := id ok
  have h13 := o1.2.2.2.2.2.2
  by_cases q : inR x (nI 0) (nI 6)
  · obtain ⟨d, hd, rfl⟩ := inR_w 6 x (by omega) q
    have e := s30 1 (by omega) a d hd o1.2.2.2.1 o1.2.2.2.2.1 (Wd B a a nw sz r μ β fl fh fc (ι 3) ν σ (u1 ι 0 (flat a)) z κ)
    simp only [W_1] at e
    exact step_ch B t a b nw sz r h μ β fl fh fc ν σ ι z κ ok 29 131 _ (m_sell a d) (o_sell t a o1 d hd) (c29 B a b nw sz r μ β fl fh fc (ι 3) ν σ _ z κ _ hB.1 o1.2.2.2.2.2.1 o2 o3 _ e) (fun H => d131 H z κ ι a h sz _ t (o_sell t a o1 d hd) o3 o6 o10 _ (m132 H (bg ι a) z κ a d hd o1.2.2.2.1 o1.2.2.2.2.1 (by omega)))
  · have e := s30o 1 x q (Wd B a a nw sz r μ β fl fh fc (ι 3) ν σ (u1 ι 0 (flat a)) z κ)
    exact step_ch B t a b nw sz r h μ β fl fh fc ν σ ι z κ ok 29 131 _ (-1000001, a) (.inl (bad1 a)) (c29 B a b nw sz r μ β fl fh fc (ι 3) ν σ _ z κ (-1000001, a) hB.1 o1.2.2.2.2.2.1 o2 o3 _ e) (fun H => d131 H z κ ι a h sz (-1000001, a) t (.inl (bad1 a)) o3 o6 o10 _ (m132o _ x q))
theorem st3 (hB : okS B) (x y : Int32) (hI : InvH B t H) : agI B t 17 133 [.int x, .int y] H := by
  obtain ⟨a, b, nw, sz, r, h, μ, β, fl, fh, fc, ν, σ, ι, z, κ, ok, rfl⟩ := hI
  have e1 := c17 B a b nw sz r μ β fl fh fc (ι 3) ν σ (u1 ι 0 (flat a)) z κ hB.1 x y
  have e2 := m133 (Wd B a b nw sz r μ β fl fh fc (ι 3) ν σ (u1 ι 0 (flat a)) z κ) ι z κ a x y
  simp only [W_O] at e2
  exact ⟨_, _, _, e1, e2, isW_mk B _ _ _ _ _ _ _ _ _ _ _ _ _ _ _ _, step_q B t a nw sz r h σ ι κ ok b μ β fl fh fc ν σ ι z κ rfl rfl rfl rfl rfl⟩
theorem st8 (hB : okS B) (ht : t + 100 < 2 ^ 29) (x y : Int32) (hI : InvH B t H) : agI B t 35 134 [.int x, .int y] H := by
  obtain ⟨a, b, nw, sz, r, h, μ, β, fl, fh, fc, ν, σ, ι, z, κ, ok, rfl⟩ := hI
  have h13 := ok.1.2.2.2.2.2.2
  have e1 := c35 B a b nw sz r μ β fl fh fc (ι 3) ν σ (u1 ι 0 (flat a)) z κ hB.1 (by omega) x y
  have e2 := m134 (Wd B a b nw sz r μ β fl fh fc (ι 3) ν σ (u1 ι 0 (flat a)) z κ) ι z κ a (by omega) x y
  simp only [W_O] at e2
  exact ⟨_, _, _, e1, e2, isW_mk B _ _ _ _ _ _ _ _ _ _ _ _ _ _ _ _, step_q B t a nw sz r h σ ι κ ok b μ β fl fh fc ν σ ι z κ rfl rfl rfl rfl rfl⟩
theorem st9 (hB : okS B) (x : Int32) (hI : InvH B t H) : agI B t 37 135 [.int x] H := by
  obtain ⟨a, b, nw, sz, r, h, μ, β, fl, fh, fc, ν, σ, ι, z, κ, ok, rfl⟩ := hI
  have e1 := c37 B a b nw sz r μ β fl fh fc (ι 3) ν σ (u1 ι 0 (flat a)) z κ hB.1 ok.1.2.2.2.2.2.1 x
  have e2 := m135 (Wd B a b nw sz r μ β fl fh fc (ι 3) ν σ (u1 ι 0 (flat a)) z κ) ι z κ a x
  simp only [W_O] at e2
  rw [ok.2.2.2.2.2.1, ← ok.2.2.2.2.2.2.2.1] at e2
  exact ⟨_, _, _, e1, e2, isW_mk B _ _ _ _ _ _ _ _ _ _ _ _ _ _ _ _, step_q B t a nw sz r h σ ι κ ok b μ β fl fh fc ν σ ι z κ rfl rfl rfl rfl rfl⟩
theorem st10 (hB : okS B) (x y w : Int32) (hI : InvH B t H) : agL B t 41 136 [.int x, .int y, .int w] H := by
  obtain ⟨a, b, nw, sz, r, h, μ, β, fl, fh, fc, ν, σ, ι, z, κ, ok, rfl⟩ := hI
  by_cases q : inA x y w 0
  · obtain ⟨s, n, p, hs, _, hn, hp, rfl, rfl, rfl⟩ := inA_of (by omega) q
    obtain ⟨μ', β', e1⟩ := c41 B a b nw sz r μ β fl fh fc (ι 3) ν σ (u1 ι 0 (flat a)) z κ hB.1 t ok.1 s n p hs hn hp
    obtain ⟨ι', z', e2, i1⟩ := m136 (Wd B a b nw sz r μ' β' fl fh fc (ι 3) ν σ (u1 ι 0 (flat a)) z κ) κ a ι z t ok.1 s n p hs hn hp
    simp only [W_O] at e2
    exact ⟨_, _, _, e1, e2, isW_mk B _ _ _ _ _ _ _ _ _ _ _ _ _ _ _ _, step_q B t a nw sz r h σ ι κ ok b μ' β' fl fh fc ν σ ι' z' κ rfl (i1 3 (by omega)) (i1 2 (by omega)) rfl rfl⟩
  · exact ⟨_, _, _, c41o _ x y w q, m136o _ x y w q, isW_mk B _ _ _ _ _ _ _ _ _ _ _ _ _ _ _ _, step_q B t a nw sz r h σ ι κ ok b μ β fl fh fc ν σ ι z κ rfl rfl rfl rfl rfl⟩
theorem st11 (hB : okS B) (x y : Int32) (hI : InvH B t H) : agI B t 57 142 [.int x, .int y] H := by
  obtain ⟨a, b, nw, sz, r, h, μ, β, fl, fh, fc, ν, σ, ι, z, κ, ok, rfl⟩ := hI
  by_cases q : inA x y (nI 0) 1
  · obtain ⟨s, n, p, hs, h1, hn, hp, rfl, rfl, _⟩ := inA_of (by omega) q
    obtain ⟨μ', β', e1⟩ := c57 B a b nw sz r μ β fl fh fc (ι 3) ν σ (u1 ι 0 (flat a)) z κ hB.1 t ok.1 s n hs hn h1
    obtain ⟨ι', z', e2, i1⟩ := m142 (Wd B a b nw sz r μ' β' fl fh fc (ι 3) ν σ (u1 ι 0 (flat a)) z κ) κ a ι z t ok.1 s n hs hn h1
    simp only [W_O] at e2
    exact ⟨_, _, _, e1, e2, isW_mk B _ _ _ _ _ _ _ _ _ _ _ _ _ _ _ _, step_q B t a nw sz r h σ ι κ ok b μ' β' fl fh fc ν σ ι' z' κ rfl (i1 3 (by omega)) (i1 2 (by omega)) rfl rfl⟩
  · exact ⟨_, _, _, c57o _ x y q, m142o _ x y q, isW_mk B _ _ _ _ _ _ _ _ _ _ _ _ _ _ _ _, step_q B t a nw sz r h σ ι κ ok b μ β fl fh fc ν σ ι z κ rfl rfl rfl rfl rfl⟩
theorem st12 (hB : okS B) (x y w : Int32) (hI : InvH B t H) : agL B t 59 143 [.int x, .int y, .int w] H := by
  obtain ⟨a, b, nw, sz, r, h, μ, β, fl, fh, fc, ν, σ, ι, z, κ, ok, rfl⟩ := hI
  by_cases q : inA x y w 0
  · obtain ⟨s, n, p, hs, _, hn, hp, rfl, rfl, rfl⟩ := inA_of (by omega) q
    obtain ⟨μ', e1⟩ := c59 B a b nw sz r μ β fl fh fc (ι 3) ν σ (u1 ι 0 (flat a)) z κ hB.1 t ok.1 s n p hs hn hp
    obtain ⟨ι', z', e2, i1⟩ := m143 (Wd B a b nw sz r μ' β fl fh fc (ι 3) ν σ (u1 ι 0 (flat a)) z κ) κ a ι z t ok.1 s n p hs hn hp
    simp only [W_O] at e2
    exact ⟨_, _, _, e1, e2, isW_mk B _ _ _ _ _ _ _ _ _ _ _ _ _ _ _ _, step_q B t a nw sz r h σ ι κ ok b μ' β fl fh fc ν σ ι' z' κ rfl (i1 3 (by omega)) (i1 2 (by omega)) rfl rfl⟩
  · exact ⟨_, _, _, c59o _ x y w q, m143o _ x y w q, isW_mk B _ _ _ _ _ _ _ _ _ _ _ _ _ _ _ _, step_q B t a nw sz r h σ ι κ ok b μ β fl fh fc ν σ ι z κ rfl rfl rfl rfl rfl⟩
theorem st13 (hB : okS B) (x y w : Int32) (hI : InvH B t H) : agL B t 63 146 [.int x, .int y, .int w] H := by
  obtain ⟨a, b, nw, sz, r, h, μ, β, fl, fh, fc, ν, σ, ι, z, κ, ok, rfl⟩ := hI
  by_cases q : inA x y w 0
  · obtain ⟨s, n, p, hs, _, hn, hp, rfl, rfl, rfl⟩ := inA_of (by omega) q
    obtain ⟨μ', β', e1⟩ := c63 B a b nw sz r μ β fl fh fc (ι 3) ν σ (u1 ι 0 (flat a)) z κ hB.1 t ok.1 s n p hs hn hp
    obtain ⟨ι', z', e2, i1⟩ := m146 (Wd B a b nw sz r μ' β' fl fh fc (ι 3) ν σ (u1 ι 0 (flat a)) z κ) κ a ι z t ok.1 s n p hs hn hp
    simp only [W_O] at e2
    exact ⟨_, _, _, e1, e2, isW_mk B _ _ _ _ _ _ _ _ _ _ _ _ _ _ _ _, step_q B t a nw sz r h σ ι κ ok b μ' β' fl fh fc ν σ ι' z' κ rfl (i1 3 (by omega)) (i1 2 (by omega)) rfl rfl⟩
  · exact ⟨_, _, _, c63o _ x y w q, m146o _ x y w q, isW_mk B _ _ _ _ _ _ _ _ _ _ _ _ _ _ _ _, step_q B t a nw sz r h σ ι κ ok b μ β fl fh fc ν σ ι z κ rfl rfl rfl rfl rfl⟩
theorem st14 (hB : okS B) (x y w : Int32) (hI : InvH B t H) : agL B t 64 147 [.int x, .int y, .int w] H := by
  obtain ⟨a, b, nw, sz, r, h, μ, β, fl, fh, fc, ν, σ, ι, z, κ, ok, rfl⟩ := hI
  by_cases q : inA x y w 1
  · obtain ⟨s, n, p, hs, h1, hn, hp, rfl, rfl, rfl⟩ := inA_of (by omega) q
    obtain ⟨μ', β', e1⟩ := c64 B a b nw sz r μ β fl fh fc (ι 3) ν σ (u1 ι 0 (flat a)) z κ hB.1 t ok.1 s n p hs hn h1 hp
    obtain ⟨ι', z', e2, i1⟩ := m147 (Wd B a b nw sz r μ' β' fl fh fc (ι 3) ν σ (u1 ι 0 (flat a)) z κ) κ a ι z t ok.1 s n p hs hn hp h1
    simp only [W_O] at e2
    exact ⟨_, _, _, e1, e2, isW_mk B _ _ _ _ _ _ _ _ _ _ _ _ _ _ _ _, step_q B t a nw sz r h σ ι κ ok b μ' β' fl fh fc ν σ ι' z' κ rfl (i1 3 (by omega)) (i1 2 (by omega)) rfl rfl⟩
  · exact ⟨_, _, _, c64o _ x y w q, m147o _ x y w q, isW_mk B _ _ _ _ _ _ _ _ _ _ _ _ _ _ _ _, step_q B t a nw sz r h σ ι κ ok b μ β fl fh fc ν σ ι z κ rfl rfl rfl rfl rfl⟩
theorem st15 (hB : okS B) (x y : Int32) (hI : InvH B t H) : agI B t 66 148 [.int x, .int y] H := by
  obtain ⟨a, b, nw, sz, r, h, μ, β, fl, fh, fc, ν, σ, ι, z, κ, ok, rfl⟩ := hI
  by_cases q : inR x (nI 1) (nI 6) ∧ inR y (nI 0) (nI 6)
  · obtain ⟨n, h1, hn, rfl⟩ := inR_nI q.1 (by omega) (by omega)
    obtain ⟨w, hw, rfl⟩ := inR_w 6 y (by omega) q.2
    obtain ⟨μ', β', e1⟩ := c66 B a b nw sz r μ β fl fh fc (ι 3) ν σ (u1 ι 0 (flat a)) z κ hB.1 t ok.1 n w h1 hn hw
    obtain ⟨ι', z', e2, i1⟩ := m148 (Wd B a b nw sz r μ' β' fl fh fc (ι 3) ν σ (u1 ι 0 (flat a)) z κ) κ a t ok.1 ι z n w h1 hn hw
    simp only [W_O] at e2
    exact ⟨_, _, _, e1, e2, isW_mk B _ _ _ _ _ _ _ _ _ _ _ _ _ _ _ _, step_q B t a nw sz r h σ ι κ ok b μ' β' fl fh fc ν σ ι' z' κ rfl (i1 3 (by omega)) (i1 2 (by omega)) rfl rfl⟩
  · exact ⟨_, _, _, c66o _ x y q, m148o _ x y q, isW_mk B _ _ _ _ _ _ _ _ _ _ _ _ _ _ _ _, step_q B t a nw sz r h σ ι κ ok b μ β fl fh fc ν σ ι z κ rfl rfl rfl rfl rfl⟩
theorem st16 (hB : okS B) (x y w : Int32) (hI : InvH B t H) : agL B t 78 155 [.int x, .int y, .int w] H := by
  obtain ⟨a, b, nw, sz, r, h, μ, β, fl, fh, fc, ν, σ, ι, z, κ, ok, rfl⟩ := hI
  by_cases q : inR x (nI 0) (nI 20) ∧ inR y (nI 1) (nI 3) ∧ inR w (nI 0) (nI 3)
  · obtain ⟨s, hs, rfl⟩ := inR_w 20 x (by omega) q.1
    obtain ⟨p, h1, hp, rfl⟩ := inR_nI q.2.1 (by omega) (by omega)
    obtain ⟨w, hw, rfl⟩ := inR_w 3 w (by omega) q.2.2
    obtain ⟨μ', fl', fh', fc', e1⟩ := c78 B a b nw sz r μ β fl fh fc (ι 3) ν σ (u1 ι 0 (flat a)) z κ hB.1 t ok.1 s p w hs h1 hp hw
    obtain ⟨z', e2⟩ := m155 (Wd B a b nw sz r μ' β fl' fh' fc' (ι 3) ν σ (u1 ι 0 (flat a)) z κ) ι κ a t ok.1 z s p w hs h1 hp hw
    simp only [W_O] at e2
    exact ⟨_, _, _, e1, e2, isW_mk B _ _ _ _ _ _ _ _ _ _ _ _ _ _ _ _, step_q B t a nw sz r h σ ι κ ok b μ' β fl' fh' fc' ν σ ι z' κ rfl rfl rfl rfl rfl⟩
  · exact ⟨_, _, _, c78o _ x y w q, m155o _ x y w q, isW_mk B _ _ _ _ _ _ _ _ _ _ _ _ _ _ _ _, step_q B t a nw sz r h σ ι κ ok b μ β fl fh fc ν σ ι z κ rfl rfl rfl rfl rfl⟩
end
