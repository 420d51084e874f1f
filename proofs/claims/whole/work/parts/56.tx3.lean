-- PART 56: texts, third: what a command does to a shop
theorem okT_c {t t' : Nat} {a b : sT} (ok : okT t a) (h0 : b 0 = a 0) (h1 : b 1 = a 1) (h2 : b 2 = a 2) (h3 : b 3 = a 3) (h5 : b 5 0 ≤ 20) (h6 : b 6 0 ≤ 6) (h7 : b 7 0 ≤ 1) (h13 : b 13 0 ≤ t') : okT t' b := by
  obtain ⟨⟨o1, o2, o3⟩, o4, o5, _, _, _, _⟩ := ok
  unfold okW at o1
  unfold okC at o2
  unfold wsum at o3 o4
  rw [← h0] at o1 o3 o4
  rw [← h1] at o2
  rw [← h2, ← h3] at o5
  exact ⟨⟨o1, o2, o3⟩, o4, o5, h5, h6, h7, h13⟩
theorem okT_le {t t' : Nat} {a : sT} (ok : okT t a) (h : t ≤ t') : okT t' a := okT_c ok rfl rfl rfl rfl ok.2.2.2.1 ok.2.2.2.2.1 ok.2.2.2.2.2.1 (Nat.le_trans ok.2.2.2.2.2.2 h)
def act (a : sT) (k x y w : Nat) : Int32 × sT :=
  if k = 0 then (if x ≤ 6 ∧ y ≤ 9 then m_weigh a x y else (-1000001, a))
  else if k = 1 then (if x ≤ 4 ∧ y ≤ mc x then m_cost a x y else (-1000001, a))
  else if k = 2 then (if x ≤ 20 ∧ (1 ≤ y ∧ y ≤ 6) then m_season a x y else (-1000001, a))
  else if k = 3 then (if (1 ≤ x ∧ x ≤ 6) ∧ y ≤ 20 ∧ (y ≤ w ∧ w ≤ 20) then m_plan a x y w else (-1000001, a))
  else if k = 4 then (if x ≤ 20 then m_order a x else (-1000001, a))
  else if k = 5 then m_follow a
  else (if x ≤ 6 then m_sell a x else (-1000001, a))
/-- refused: nothing has changed -/
def bad (r : Int32 × sT) (a : sT) : Prop := r.2 = a ∧ (r.1 = -1000001 ∨ r.1 = -1000002 ∨ r.1 = -1000003)
/-- done -/
def good (t : Nat) (r : Int32 × sT) : Prop := (∃ n, n < 2 ^ 31 ∧ r.1 = nI n) ∧ okT (t + 1) r.2
theorem bad1 (a : sT) : bad (-1000001, a) a := ⟨rfl, .inl rfl⟩
theorem wsum_u (a : sT) (d w : Nat) (hd : d ≤ 6) : wsum (u2 a 0 d w) = wsum a - a 0 d + w := by
  have h : d = 0 ∨ d = 1 ∨ d = 2 ∨ d = 3 ∨ d = 4 ∨ d = 5 ∨ d = 6 := by omega
  unfold wsum
  rcases h with rfl | rfl | rfl | rfl | rfl | rfl | rfl <;> simp only [u2_app, Nat.reduceEqDiff, false_and, and_false, and_self, and_true, true_and, ↓reduceIte, Nat.one_ne_zero, Nat.zero_ne_one] <;> omega
section
variable (t : Nat) (a : sT)
theorem o_weigh (ok : okT t a) (x y : Nat) (hx : x ≤ 6) (hy : y ≤ 9) : bad (m_weigh a x y) a ∨ good t (m_weigh a x y) := by
  have hw := wsum_u a x y hx
  have hg := wsum_ge a x hx
  unfold m_weigh
  split
  · exact .inl ⟨rfl, .inr (.inl rfl)⟩
  · split
    · exact .inl ⟨rfl, .inr (.inr rfl)⟩
    · refine .inr ⟨⟨_, by omega, rfl⟩, ?_⟩
      obtain ⟨⟨o1, o2, o3⟩, o4, o5, o6, o7, o8, o9⟩ := ok
      refine ⟨⟨?_, o2, ?_⟩, ?_, o5, o6, o7, o8, Nat.le_succ_of_le o9⟩
      · intro d hd
        show u2 a 0 x y 0 d ≤ 9
        rw [u2_app]
        split
        · exact hy
        · exact o1 d hd
      · show wsum (u2 a 0 x y) ≤ 12
        omega
      · show 1 ≤ wsum (u2 a 0 x y)
        omega
theorem o_cost (ok : okT t a) (x y : Nat) (hx : x ≤ 4) (hy : y ≤ mc x) : good t (m_cost a x y) := by
  obtain ⟨⟨o1, o2, o3⟩, o4, o5, o6, o7, o8, o9⟩ := ok
  obtain ⟨c0, c1, c2, c3, c4⟩ := o2
  have h : x = 0 ∨ x = 1 ∨ x = 2 ∨ x = 3 ∨ x = 4 := by omega
  unfold mc at hy
  refine ⟨⟨a 1 x, by rcases h with rfl | rfl | rfl | rfl | rfl <;> omega, rfl⟩, ⟨o1, ?_, o3⟩, o4, o5, o6, o7, o8, Nat.le_succ_of_le o9⟩
  unfold m_cost okC
  dsimp only
  rcases h with rfl | rfl | rfl | rfl | rfl <;> simp [u2_app] at hy ⊢ <;> omega
theorem o_plan (ok : okT t a) (x y w : Nat) (h1 : 1 ≤ x) (hx : x ≤ 6) (hy : y ≤ w) (hw : w ≤ 20) : good t (m_plan a x y w) := by
  obtain ⟨⟨o1, o2, o3⟩, o4, o5, o6, o7, o8, o9⟩ := ok
  have h5 := o5 x (by omega)
  refine ⟨⟨_, ?_, rfl⟩, ⟨o1, o2, o3⟩, o4, ?_, o6, o7, o8, Nat.le_succ_of_le o9⟩
  · omega
  · intro p hp
    unfold m_plan
    dsimp only
    have h6 := o5 p hp
    rw [u2_app, u2_app, u2_app, u2_app]
    by_cases e : p = x
    · subst e
      simp
      omega
    · simp [e]
      omega
theorem o_season (ok : okT t a) (x y : Nat) (hx : x ≤ 20) (hy : y ≤ 6) : good t (m_season a x y) := by
  have o7 := ok.2.2.2.2.1
  refine ⟨⟨a 6 0, by omega, rfl⟩, okT_c ok rfl rfl rfl rfl ?_ ?_ ?_ (Nat.le_succ_of_le ok.2.2.2.2.2.2)⟩
  · exact hx
  · exact hy
  · exact Nat.zero_le _
theorem o_ord (ok : okT t a) (l : Nat) (hl : l ≤ 20) : okT (t + 1) (m_ord a l) := by
  have o9 := ok.2.2.2.2.2.2
  have o7 := ok.2.2.2.2.1
  have e : ∀ k, k < 4 → m_ord a l k = a k := by
    intro k hk
    unfold m_ord
    rw [u2_ne _ _ _ _ _ (by omega), u2_ne _ _ _ _ _ (by omega), u2_ne _ _ _ _ _ (by omega), u2_ne _ _ _ _ _ (by omega)]
    split
    · rw [u2_ne _ _ _ _ _ (by omega)]
    · rfl
  have e6 : m_ord a l 6 0 = a 6 0 := by
    unfold m_ord
    rw [u2_nj _ _ _ _ _ _ (by omega), u2_nj _ _ _ _ _ _ (by omega), u2_nj _ _ _ _ _ _ (by omega), u2_nj _ _ _ _ _ _ (by omega)]
    split
    · rw [u2_nj _ _ _ _ _ _ (by omega)]
    · rfl
  have e13 : m_ord a l 13 0 = a 13 0 := by
    unfold m_ord
    rw [u2_nj _ _ _ _ _ _ (by omega), u2_nj _ _ _ _ _ _ (by omega), u2_nj _ _ _ _ _ _ (by omega), u2_nj _ _ _ _ _ _ (by omega)]
    split
    · rw [u2_nj _ _ _ _ _ _ (by omega)]
    · rfl
  have e7 : m_ord a l 7 0 = 1 := by
    unfold m_ord
    rw [u2_app, if_pos ⟨rfl, rfl⟩]
  have e5 := m_ord_5 a l
  exact okT_c ok (e 0 (by omega)) (e 1 (by omega)) (e 2 (by omega)) (e 3 (by omega)) (by omega) (by omega) (by omega) (by omega)
theorem o_order (ok : okT t a) (l : Nat) (hl : l ≤ 20) : bad (m_order a l) a ∨ good t (m_order a l) := by
  unfold m_order
  split
  · exact .inl ⟨rfl, .inr (.inl rfl)⟩
  · exact .inr ⟨⟨_, oprice_le a ok.1.2.1 _ l (by omega), rfl⟩, o_ord t a ok l hl⟩
theorem o_follow (ok : okT t a) : bad (m_follow a) a ∨ good t (m_follow a) := by
  have h5 := ok.2.2.2.1
  have h6 := ok.2.2.2.2.1
  have h2 := ok.2.2.1 (a 6 0) (by omega)
  have h3 : lvl (a 5 0) (a 2 (a 6 0)) (a 3 (a 6 0)) ≤ 20 := by unfold lvl; split <;> omega
  unfold m_follow
  split
  · exact .inl ⟨rfl, .inr (.inl rfl)⟩
  · exact .inr ⟨⟨_, by omega, rfl⟩, o_ord t a ok _ h3⟩
theorem o_sell (ok : okT t a) (x : Nat) (hx : x ≤ 6) : bad (m_sell a x) a ∨ good t (m_sell a x) := by
  have h5 := ok.2.2.2.1
  have h6 := ok.2.2.2.2.1
  have h9 := ok.2.2.2.2.2.2
  unfold m_sell
  split
  · exact .inl ⟨rfl, .inr (.inl rfl)⟩
  · obtain ⟨b5, b6, b7, b8, b9, b10, b11, b12, b13⟩ := so_s a x (min x (a 5 0))
    refine .inr ⟨⟨_, by omega, rfl⟩, okT_c ok (so_n _ _ _ 0 (by omega)) (so_n _ _ _ 1 (by omega)) (so_n _ _ _ 2 (by omega)) (so_n _ _ _ 3 (by omega)) ?_ ?_ ?_ ?_⟩
    · dsimp only; omega
    · dsimp only; omega
    · dsimp only; omega
    · dsimp only; omega
theorem act_o (ok : okT t a) (k x y w : Nat) : bad (act a k x y w) a ∨ good t (act a k x y w) := by
  unfold act
  split
  · split
    · exact o_weigh t a ok x y (by omega) (by omega)
    · exact .inl (bad1 a)
  split
  · split
    · exact .inr (o_cost t a ok x y (by omega) (by omega))
    · exact .inl (bad1 a)
  split
  · split
    · exact .inr (o_season t a ok x y (by omega) (by omega))
    · exact .inl (bad1 a)
  split
  · split
    · exact .inr (o_plan t a ok x y w (by omega) (by omega) (by omega) (by omega))
    · exact .inl (bad1 a)
  split
  · split
    · exact o_order t a ok x (by omega)
    · exact .inl (bad1 a)
  split
  · exact o_follow t a ok
  · split
    · exact o_sell t a ok x (by omega)
    · exact .inl (bad1 a)
theorem act_cg (k : Nat) (hk : k < 7) (f g : Nat → Nat) (h : ∀ i, i < many k → f i = g i) : act a k (f 0) (f 1) (f 2) = act a k (g 0) (g 1) (g 2) := by
  have hk7 : k = 0 ∨ k = 1 ∨ k = 2 ∨ k = 3 ∨ k = 4 ∨ k = 5 ∨ k = 6 := by omega
  rcases hk7 with rfl | rfl | rfl | rfl | rfl | rfl | rfl
  · have h0 := h 0 (by decide)
    have h1 := h 1 (by decide)
    simp only [act, h0, h1, if_true]
  · have h0 := h 0 (by decide)
    have h1 := h 1 (by decide)
    simp only [act, h0, h1, if_true, Nat.one_ne_zero, if_false]
  · have h0 := h 0 (by decide)
    have h1 := h 1 (by decide)
    simp only [act, h0, h1, if_true, Nat.reduceEqDiff, if_false]
  · have h0 := h 0 (by decide)
    have h1 := h 1 (by decide)
    have h2 := h 2 (by decide)
    simp only [act, h0, h1, h2]
  · have h0 := h 0 (by decide)
    simp [act, h0]
  · simp [act]
  · have h0 := h 0 (by decide)
    simp [act, h0]
end
/-- how a text's commands go: the fault, the shop behind them, how many there are -/
def run1 (τ : Nat → Nat) (n : Nat) : Nat → Nat → sT → Nat → Option (Nat × Nat) × sT × Nat
  | 0, _, a, c => (none, a, c)
  | F + 1, p, a, c => if p < n then (match psr τ n p with
      | none => (some (p, 1), a, c)
      | some (k, q) => if (act a k (vs τ n (p + wl k) 0) (vs τ n (p + wl k) 1) (vs τ n (p + wl k) 2)).1 = -1000001 then (some (p, 2), a, c)
        else if (act a k (vs τ n (p + wl k) 0) (vs τ n (p + wl k) 1) (vs τ n (p + wl k) 2)).1 < 0 then (some (p, 3), a, c)
        else run1 τ n F q (act a k (vs τ n (p + wl k) 0) (vs τ n (p + wl k) 1) (vs τ n (p + wl k) 2)).2 (c + 1))
    else (none, a, c)
theorem run1_ok (τ : Nat → Nat) (n : Nat) (h126 : ∀ i, τ i ≤ 126) : ∀ F p a c t, okT t a → okT (t + F) (run1 τ n F p a c).2.1 ∧ (run1 τ n F p a c).2.2 ≤ c + F ∧ (∀ fp r, (run1 τ n F p a c).1 = some (fp, r) → fp < n ∧ 1 ≤ r ∧ r ≤ 3)
  | 0, p, a, c, t, ok => ⟨ok, Nat.le_refl _, fun fp r h => by cases h⟩
  | F + 1, p, a, c, t, ok => by
    unfold run1
    split
    · split
      · exact ⟨okT_le ok (by omega), by dsimp only; omega, fun fp r h => by cases h; omega⟩
      · rename_i k q hq
        split
        · exact ⟨okT_le ok (by omega), by dsimp only; omega, fun fp r h => by cases h; omega⟩
        · split
          · exact ⟨okT_le ok (by omega), by dsimp only; omega, fun fp r h => by cases h; omega⟩
          · have h1 : okT (t + 1) (act a k (vs τ n (p + wl k) 0) (vs τ n (p + wl k) 1) (vs τ n (p + wl k) 2)).2 := by
              rcases act_o t a ok k (vs τ n (p + wl k) 0) (vs τ n (p + wl k) 1) (vs τ n (p + wl k) 2) with h | h
              · rw [h.1]
                exact okT_le ok (by omega)
              · exact h.2
            have ih := run1_ok τ n h126 F q _ (c + 1) (t + 1) h1
            refine ⟨?_, ?_, ih.2.2⟩
            · rw [show t + (F + 1) = t + 1 + F by omega]
              exact ih.1
            · omega
    · exact ⟨okT_le ok (by omega), by dsimp only; omega, fun fp r h => by cases h⟩
