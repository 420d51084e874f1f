-- PART 67: steps, first: the reference's acts
def hF (v : Int32) (h : Nat → sT) (n : Nat) (a : sT) : Nat → sT := if v < 0 then h else pushH h n a
def nF (v : Int32) (n : Nat) : Nat := if v < 0 then n else pushN n
/-- an act of the reference: its answer and what stands behind it -/
def actR (H : pi_H) (z : jT) (κ : kT) (ι : sT) (a : sT) (h : Nat → sT) (n : Nat) (R : Int32 × sT) (o : Option (Option Value × pi_H)) : Prop := ∃ (ι' : sT) (κ' : kT), o = some (some (.int R.1), MO H (u1 ι' 0 (flat R.2)) z κ') ∧ okPast (hF R.1 h n a) (nF R.1 n) (ι' 2) ∧ (∀ t, t ≠ 1 → t ≠ 2 → ι' t = ι t) ∧ κ' 0 = nF R.1 n ∧ κ' 1 = κ 1
theorem bad_neg {r : Int32 × sT} {a : sT} (h : bad r a) : r.1 < 0 := by
  rcases h.2 with e | e | e <;> rw [e] <;> decide
theorem good_pos {t : Nat} {r : Int32 × sT} (h : good t r) : ¬ r.1 < 0 := by
  obtain ⟨n, hn, e⟩ := h.1
  rw [e]
  exact nI_pos hn
section
variable (H : pi_H) (z : jT) (κ : kT) (ι : sT) (a : sT) (h : Nat → sT) (n : Nat) (R : Int32 × sT)
theorem mrec (t : Nat) (hR : bad R a ∨ good t R) (hn : n ≤ 4) (hκ : κ 0 = n) (hP : okPast h n (ι 2)) : actR H z κ ι a h n R (ex 119 [.ref 77, .int R.1] (MO H (u1 (bg ι a) 0 (flat R.2)) z κ)) := by
  unfold actR hF nF
  rcases hR with hb | hg
  · have hneg := bad_neg hb
    rw [if_pos hneg, if_pos hneg]
    refine ⟨bg ι a, κ, m119n _ R.1 hneg, ?_, fun t h1 h2 => bg_n _ _ _ h1, hκ, rfl⟩
    rw [bg_n _ _ _ (by omega)]
    exact hP
  · have hpos := good_pos hg
    rw [if_neg hpos, if_neg hpos]
    obtain ⟨m, hm, e⟩ := hg.1
    have s2 : u1 (bg ι a) 0 (flat R.2) 2 = ι 2 := by rw [u1_n _ _ _ _ (by omega), bg_n _ _ _ (by omega)]
    obtain ⟨P, e19, hP2⟩ := m119 H (u1 (bg ι a) 0 (flat R.2)) z κ h n m hm hn hκ a (by rw [s2]; exact hP) (fun i hi => by rw [u1_n _ _ _ _ (by omega)]; exact bg_1 ι a i hi)
    rw [u1_comm _ _ _ _ _ (by omega)] at e19
    refine ⟨u1 (bg ι a) 2 P, uk κ 0 (pushN n), ?_, ?_, ?_, rfl, rfl⟩
    · rw [e, e19]
    · rw [u1_s]
      exact hP2
    · intro t h1 h2
      rw [u1_n _ _ _ _ h2, bg_n _ _ _ h1]
theorem d114 (t : Nat) (hR : bad R a ∨ good t R) (hn : n ≤ 4) (hκ : κ 0 = n) (hP : okPast h n (ι 2)) (x y : Int32) (e : ex 116 [.ref 77, .int x, .int y] (MO H (u1 (bg ι a) 0 (flat a)) z κ) = some (some (.int R.1), MO H (u1 (bg ι a) 0 (flat R.2)) z κ)) : actR H z κ ι a h n R (ex 114 [.ref 77, .int x, .int y] (MO H (u1 ι 0 (flat a)) z κ)) := by
  obtain ⟨ι', κ', e1, h1⟩ := mrec H z κ ι a h n R t hR hn hκ hP
  have eb := m115b H z ι κ a
  refine ⟨ι', κ', ?_, h1⟩
  simp (disch := first | omega | assumption | exact MO_isO _ _ _ _ | (refine b30 ?_; omega) | (refine nI_inR ?_ ?_ ?_ <;> omega)) only [x114, e114_0, e114_1, e114_4, e114_5, e114_6, e114_7, e114_8, e114_11, e114_14, kv_s, kh_s, kn_s, kc_v, kc_n, eb, e, e1]
theorem d120 (t : Nat) (hR : bad R a ∨ good t R) (hn : n ≤ 4) (hκ : κ 0 = n) (hP : okPast h n (ι 2)) (x y : Int32) (e : ex 121 [.ref 77, .int x, .int y] (MO H (u1 (bg ι a) 0 (flat a)) z κ) = some (some (.int R.1), MO H (u1 (bg ι a) 0 (flat R.2)) z κ)) : actR H z κ ι a h n R (ex 120 [.ref 77, .int x, .int y] (MO H (u1 ι 0 (flat a)) z κ)) := by
  obtain ⟨ι', κ', e1, h1⟩ := mrec H z κ ι a h n R t hR hn hκ hP
  have eb := m115b H z ι κ a
  refine ⟨ι', κ', ?_, h1⟩
  simp (disch := first | omega | assumption | exact MO_isO _ _ _ _ | (refine b30 ?_; omega) | (refine nI_inR ?_ ?_ ?_ <;> omega)) only [x120, e120_0, e120_1, e120_4, e120_5, e120_6, e120_7, e120_8, e120_11, e120_14, kv_s, kh_s, kn_s, kc_v, kc_n, eb, e, e1]
theorem d123 (t : Nat) (hR : bad R a ∨ good t R) (hn : n ≤ 4) (hκ : κ 0 = n) (hP : okPast h n (ι 2)) (x y w : Int32) (e : ex 124 [.ref 77, .int x, .int y, .int w] (MO H (u1 (bg ι a) 0 (flat a)) z κ) = some (some (.int R.1), MO H (u1 (bg ι a) 0 (flat R.2)) z κ)) : actR H z κ ι a h n R (ex 123 [.ref 77, .int x, .int y, .int w] (MO H (u1 ι 0 (flat a)) z κ)) := by
  obtain ⟨ι', κ', e1, h1⟩ := mrec H z κ ι a h n R t hR hn hκ hP
  have eb := m115b H z ι κ a
  refine ⟨ι', κ', ?_, h1⟩
  simp (disch := first | omega | assumption | exact MO_isO _ _ _ _ | (refine b30 ?_; omega) | (refine nI_inR ?_ ?_ ?_ <;> omega)) only [x123, e123_0, e123_1, e123_4, e123_5, e123_6, e123_7, e123_8, e123_9, e123_12, e123_15, kv_s, kh_s, kn_s, kc_v, kc_n, eb, e, e1]
theorem d125 (t : Nat) (hR : bad R a ∨ good t R) (hn : n ≤ 4) (hκ : κ 0 = n) (hP : okPast h n (ι 2)) (x y : Int32) (e : ex 126 [.ref 77, .int x, .int y] (MO H (u1 (bg ι a) 0 (flat a)) z κ) = some (some (.int R.1), MO H (u1 (bg ι a) 0 (flat R.2)) z κ)) : actR H z κ ι a h n R (ex 125 [.ref 77, .int x, .int y] (MO H (u1 ι 0 (flat a)) z κ)) := by
  obtain ⟨ι', κ', e1, h1⟩ := mrec H z κ ι a h n R t hR hn hκ hP
  have eb := m115b H z ι κ a
  refine ⟨ι', κ', ?_, h1⟩
  simp (disch := first | omega | assumption | exact MO_isO _ _ _ _ | (refine b30 ?_; omega) | (refine nI_inR ?_ ?_ ?_ <;> omega)) only [x125, e125_0, e125_1, e125_4, e125_5, e125_6, e125_7, e125_8, e125_11, e125_14, kv_s, kh_s, kn_s, kc_v, kc_n, eb, e, e1]
theorem d127 (t : Nat) (hR : bad R a ∨ good t R) (hn : n ≤ 4) (hκ : κ 0 = n) (hP : okPast h n (ι 2)) (x : Int32) (e : ex 128 [.ref 77, .int x] (MO H (u1 (bg ι a) 0 (flat a)) z κ) = some (some (.int R.1), MO H (u1 (bg ι a) 0 (flat R.2)) z κ)) : actR H z κ ι a h n R (ex 127 [.ref 77, .int x] (MO H (u1 ι 0 (flat a)) z κ)) := by
  obtain ⟨ι', κ', e1, h1⟩ := mrec H z κ ι a h n R t hR hn hκ hP
  have eb := m115b H z ι κ a
  refine ⟨ι', κ', ?_, h1⟩
  simp (disch := first | omega | assumption | exact MO_isO _ _ _ _ | (refine b30 ?_; omega) | (refine nI_inR ?_ ?_ ?_ <;> omega)) only [x127, e127_0, e127_1, e127_4, e127_5, e127_6, e127_7, e127_10, e127_13, kv_s, kh_s, kn_s, kc_v, kc_n, eb, e, e1]
theorem d129 (t : Nat) (hR : bad R a ∨ good t R) (hn : n ≤ 4) (hκ : κ 0 = n) (hP : okPast h n (ι 2)) (e : ex 130 [.ref 77] (MO H (u1 (bg ι a) 0 (flat a)) z κ) = some (some (.int R.1), MO H (u1 (bg ι a) 0 (flat R.2)) z κ)) : actR H z κ ι a h n R (ex 129 [.ref 77] (MO H (u1 ι 0 (flat a)) z κ)) := by
  obtain ⟨ι', κ', e1, h1⟩ := mrec H z κ ι a h n R t hR hn hκ hP
  have eb := m115b H z ι κ a
  refine ⟨ι', κ', ?_, h1⟩
  simp (disch := first | omega | assumption | exact MO_isO _ _ _ _ | (refine b30 ?_; omega) | (refine nI_inR ?_ ?_ ?_ <;> omega)) only [x129, e129_0, e129_1, e129_4, e129_5, e129_6, e129_9, e129_12, kv_s, kh_s, kn_s, kc_v, kc_n, eb, e, e1]
theorem d131 (t : Nat) (hR : bad R a ∨ good t R) (hn : n ≤ 4) (hκ : κ 0 = n) (hP : okPast h n (ι 2)) (x : Int32) (e : ex 132 [.ref 77, .int x] (MO H (u1 (bg ι a) 0 (flat a)) z κ) = some (some (.int R.1), MO H (u1 (bg ι a) 0 (flat R.2)) z κ)) : actR H z κ ι a h n R (ex 131 [.ref 77, .int x] (MO H (u1 ι 0 (flat a)) z κ)) := by
  obtain ⟨ι', κ', e1, h1⟩ := mrec H z κ ι a h n R t hR hn hκ hP
  have eb := m115b H z ι κ a
  refine ⟨ι', κ', ?_, h1⟩
  simp (disch := first | omega | assumption | exact MO_isO _ _ _ _ | (refine b30 ?_; omega) | (refine nI_inR ?_ ?_ ?_ <;> omega)) only [x131, e131_0, e131_1, e131_4, e131_5, e131_6, e131_7, e131_10, e131_13, kv_s, kh_s, kn_s, kc_v, kc_n, eb, e, e1]
end
/-! histories -/
theorem hist_push (nw sz : Nat) (r h : Nat → sT) (c : sT) (hnw : nw < 4) (hsz : sz ≤ 4) (hh : ∀ j, j < sz → h (sz - 1 - j) = r ((nw + 4 - j) % 4)) : ∀ j, j < min (sz + 1) 4 → pushH h sz c (min (sz + 1) 4 - 1 - j) = upr r ((nw + 1) % 4) c (((nw + 1) % 4 + 4 - j) % 4) := by
  intro j hj
  unfold pushH upr
  by_cases h0 : j = 0
  · subst h0
    rw [if_pos (show ((nw + 1) % 4 + 4 - 0) % 4 = (nw + 1) % 4 by omega)]
    by_cases h4 : sz = 4
    · rw [if_pos h4]
      rw [if_pos (by omega)]
    · rw [if_neg h4]
      rw [if_pos (by omega)]
  · rw [if_neg (show ¬ ((nw + 1) % 4 + 4 - j) % 4 = (nw + 1) % 4 by omega), show ((nw + 1) % 4 + 4 - j) % 4 = (nw + 4 - (j - 1)) % 4 by omega, ← hh (j - 1) (by omega)]
    by_cases h4 : sz = 4
    · rw [if_pos h4]
      rw [if_neg (by omega), show min (sz + 1) 4 - 1 - j + 1 = sz - 1 - (j - 1) by omega]
    · rw [if_neg h4]
      rw [if_neg (by omega), show min (sz + 1) 4 - 1 - j = sz - 1 - (j - 1) by omega]
theorem pushN_min (n : Nat) (h : n ≤ 4) : pushN n = min (n + 1) 4 := by
  unfold pushN
  split <;> omega
theorem pushH_ok (P : sT → Prop) (h : Nat → sT) (n : Nat) (c : sT) (hn : n ≤ 4) (hc : P c) (hh : ∀ j, j < n → P (h j)) : ∀ j, j < pushN n → P (pushH h n c j) := by
  intro j hj
  rw [pushN_min n hn] at hj
  unfold pushH
  by_cases h4 : n = 4
  · rw [if_pos h4]
    split
    · exact hc
    · exact hh _ (by omega)
  · rw [if_neg h4]
    split
    · exact hc
    · exact hh _ (by omega)
theorem hist_pop (nw sz : Nat) (r h : Nat → sT) (hnw : nw < 4) (hsz : sz ≤ 4) (hh : ∀ j, j < sz → h (sz - 1 - j) = r ((nw + 4 - j) % 4)) : ∀ j, j < sz - 1 → h (sz - 1 - 1 - j) = r (((nw + 3) % 4 + 4 - j) % 4) := by
  intro j hj
  have := hh (j + 1) (by omega)
  rw [show sz - 1 - 1 - j = sz - 1 - (j + 1) by omega, this]
  congr 1
  omega
