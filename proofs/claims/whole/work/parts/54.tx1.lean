-- PART 54: texts, first: signs, words, numbers
def hr (τ : Nat → Nat) (n p : Nat) : Int32 := if p < n then nI (τ p) else -1
/-- a sign between two stands at p -/
def bt (τ : Nat → Nat) (n p lo hi : Nat) : Prop := p < n ∧ lo ≤ τ p ∧ τ p ≤ hi
def nm (τ : Nat → Nat) (n p : Nat) : Option (Nat × Nat) := if p < n ∧ 48 ≤ τ p ∧ τ p ≤ 57 then (if p + 1 < n ∧ 48 ≤ τ (p + 1) ∧ τ (p + 1) ≤ 57 then some (10 * (τ p - 48) + (τ (p + 1) - 48), p + 2) else some (τ p - 48, p + 1)) else none
def n1 (τ : Nat → Nat) (n p : Nat) : Option (Nat × Nat) := if p < n ∧ τ p = 32 then nm τ n (p + 1) else none
def wl (k : Nat) : Nat := pi_tln.getD k 0
def wc (k i : Nat) : Nat := (([[119, 101, 105, 103, 104, 116], [99, 111, 115, 116], [115, 101, 97, 115, 111, 110], [112, 108, 97, 110], [111, 114, 100, 101, 114], [102, 111, 108, 108, 111, 119], [115, 101, 108, 108]] : List (List Nat)).getD k []).getD i 0
def WV (k : Nat) : Nat := ([131277443786868, 1668248436, 126879263846254, 1886151022, 478660552050, 112628746448759, 1936026732] : List Nat).getD k 0
def wd (τ : Nat → Nat) (p : Nat) : Nat → Nat
  | 0 => 0
  | c + 1 => wd τ p c * 256 + τ (p + c)
theorem WV_wd : ∀ k, k < 7 → WV k = wd (wc k) 0 (wl k) := pi_range (by decide +kernel)
theorem WV_lt : ∀ k, k < 7 → WV k < 2 ^ 60 := pi_range (by decide +kernel)
theorem wl_le : ∀ k, k < 7 → 4 ≤ wl k ∧ wl k ≤ 6 := pi_range (by decide +kernel)
theorem wc_in (k : Nat) (hk : k < 7) (i : Nat) (hi : i < wl k) : 97 ≤ wc k i ∧ wc k i ≤ 122 := by
  have h : ∀ k, k < 7 → ∀ i, i < 6 → i < wl k → 97 ≤ wc k i ∧ wc k i ≤ 122 := by
    have h0 : ∀ k, k < 7 → (List.range 6).all (fun i => decide (i < wl k → 97 ≤ wc k i ∧ wc k i ≤ 122)) = true := pi_range (by decide +kernel)
    intro k hk
    exact pi_range (h0 k hk)
  have := wl_le k hk
  exact h k hk i (by omega) hi
theorem wd_inj (τ σ : Nat → Nat) (p q : Nat) : ∀ c c', (∀ i, i < c → 1 ≤ τ (p + i) ∧ τ (p + i) < 256) → (∀ i, i < c' → 1 ≤ σ (q + i) ∧ σ (q + i) < 256) → wd τ p c = wd σ q c' → c = c' ∧ ∀ i, i < c → τ (p + i) = σ (q + i) := by
  intro c
  induction c with
  | zero =>
    intro c' _ h2 h
    cases c' with
    | zero => exact ⟨rfl, fun i hi => absurd hi (by omega)⟩
    | succ c' =>
      have := h2 c' (by omega)
      have h3 : 0 = wd σ q c' * 256 + σ (q + c') := h
      omega
  | succ c ih =>
    intro c' h1 h2 h
    cases c' with
    | zero =>
      have := h1 c (by omega)
      have h3 : wd τ p c * 256 + τ (p + c) = 0 := h
      omega
    | succ c' =>
      have a1 := h1 c (by omega)
      have a2 := h2 c' (by omega)
      have h3 : wd τ p c * 256 + τ (p + c) = wd σ q c' * 256 + σ (q + c') := h
      obtain ⟨e1, e2⟩ := ih c' (fun i hi => h1 i (by omega)) (fun i hi => h2 i (by omega)) (by omega)
      subst e1
      refine ⟨rfl, fun i hi => ?_⟩
      by_cases q : i = c
      · subst q; omega
      · exact e2 i (by omega)
theorem wd_congr (τ σ : Nat → Nat) (p q : Nat) : ∀ c, (∀ i, i < c → τ (p + i) = σ (q + i)) → wd τ p c = wd σ q c
  | 0, _ => rfl
  | c + 1, h => by
    show wd τ p c * 256 + τ (p + c) = wd σ q c * 256 + σ (q + c)
    rw [wd_congr τ σ p q c (fun i hi => h i (by omega)), h c (by omega)]
theorem wd_lt (τ : Nat → Nat) (p : Nat) : ∀ c, (∀ i, i < c → τ (p + i) < 256) → wd τ p c < 256 ^ c
  | 0, _ => by
    show 0 < 1
    omega
  | c + 1, h => by
    have h1 := wd_lt τ p c (fun i hi => h i (by omega))
    have h2 := h c (by omega)
    show wd τ p c * 256 + τ (p + c) < 256 ^ (c + 1)
    rw [Nat.pow_succ]
    omega
theorem WV_iff (τ : Nat → Nat) (p c k : Nat) (hk : k < 7) (hl : ∀ i, i < c → 97 ≤ τ (p + i) ∧ τ (p + i) ≤ 122) : WV k = wd τ p c ↔ c = wl k ∧ ∀ i, i < c → τ (p + i) = wc k i := by
  rw [WV_wd k hk]
  constructor
  · intro h
    obtain ⟨e1, e2⟩ := wd_inj τ (wc k) p 0 c (wl k) (fun i hi => by have := hl i hi; omega) (fun i hi => by
      rw [Nat.zero_add]
      have := wc_in k hk i hi
      omega) h.symm
    refine ⟨e1, fun i hi => ?_⟩
    have := e2 i hi
    rw [Nat.zero_add] at this
    exact this
  · rintro ⟨rfl, h⟩
    exact wd_congr _ _ _ _ _ (fun i hi => by rw [Nat.zero_add, h i hi])
/-- the word k stands at p -/
def mt (τ : Nat → Nat) (n p k : Nat) : Bool := decide (p + wl k ≤ n) && (List.range (wl k)).all (fun i => τ (p + i) == wc k i)
theorem mt_iff (τ : Nat → Nat) (n p k : Nat) : mt τ n p k = true ↔ p + wl k ≤ n ∧ ∀ i, i < wl k → τ (p + i) = wc k i := by
  unfold mt
  rw [Bool.and_eq_true, decide_eq_true_eq, List.all_eq_true]
  constructor
  · rintro ⟨h1, h2⟩
    exact ⟨h1, fun i hi => by simpa using h2 i (List.mem_range.mpr hi)⟩
  · rintro ⟨h1, h2⟩
    exact ⟨h1, fun i hi => by simpa using h2 i (List.mem_range.mp hi)⟩
theorem mt_uq (τ : Nat → Nat) (n p k k' : Nat) (hk : k < 7) (hk' : k' < 7) (h : mt τ n p k = true) (h' : mt τ n p k' = true) : k = k' := by
  have h0 : ∀ k, k < 7 → ∀ k', k' < 7 → wc k 0 = wc k' 0 → wc k 2 = wc k' 2 → k = k' := by
    have h1 : ∀ k, k < 7 → (List.range 7).all (fun k' => decide (wc k 0 = wc k' 0 → wc k 2 = wc k' 2 → k = k')) = true := pi_range (by decide +kernel)
    intro k hk
    exact pi_range (h1 k hk)
  have a1 := (mt_iff τ n p k).mp h
  have a2 := (mt_iff τ n p k').mp h'
  have b1 := wl_le k hk
  have b2 := wl_le k' hk'
  exact h0 k hk k' hk' ((a1.2 0 (by omega)).symm.trans (a2.2 0 (by omega))) ((a1.2 2 (by omega)).symm.trans (a2.2 2 (by omega)))
def kdF (τ : Nat → Nat) (n p : Nat) : Nat → Nat → Option Nat
  | _, 0 => none
  | k, m + 1 => if mt τ n p k = true then some k else kdF τ n p (k + 1) m
/-- which command's word stands at p -/
def kd (τ : Nat → Nat) (n p : Nat) : Option Nat := kdF τ n p 0 7
theorem kdF_s (τ : Nat → Nat) (n p : Nat) : ∀ m k k', kdF τ n p k m = some k' → k ≤ k' ∧ k' < k + m ∧ mt τ n p k' = true
  | 0, k, k', h => by cases h
  | m + 1, k, k', h => by
    unfold kdF at h
    split at h
    · cases h; exact ⟨Nat.le_refl _, by omega, ‹_›⟩
    · have := kdF_s τ n p m (k + 1) k' h
      exact ⟨by omega, by omega, this.2.2⟩
theorem kdF_n (τ : Nat → Nat) (n p : Nat) : ∀ m k, kdF τ n p k m = none → ∀ k', k ≤ k' → k' < k + m → ¬ mt τ n p k' = true
  | 0, k, h, k', h1, h2 => by omega
  | m + 1, k, h, k', h1, h2 => by
    unfold kdF at h
    split at h
    · cases h
    · by_cases e : k' = k
      · subst e; assumption
      · exact kdF_n τ n p m (k + 1) h k' (by omega) (by omega)
theorem kd_of (τ : Nat → Nat) (n p k : Nat) (hk : k < 7) (h : mt τ n p k = true) : kd τ n p = some k := by
  cases hq : kd τ n p with
  | none => exact absurd h (kdF_n τ n p 7 0 hq k (by omega) (by omega))
  | some k' =>
    have h1 := kdF_s τ n p 7 0 k' hq
    rw [mt_uq τ n p k' k (by omega) hk h1.2.2 h]
def whF (w : Nat) : Nat → Nat → Int32
  | _, 0 => -1
  | k, m + 1 => if WV k = w then nI k else whF w (k + 1) m
def whR (w : Nat) : Int32 := whF w 0 7
theorem whF_o (w : Nat) : ∀ m k, (∃ k', k ≤ k' ∧ k' < k + m ∧ WV k' = w ∧ whF w k m = nI k') ∨ ((∀ k', k ≤ k' → k' < k + m → ¬ WV k' = w) ∧ whF w k m = -1)
  | 0, k => .inr ⟨fun k' h1 h2 => by omega, rfl⟩
  | m + 1, k => by
    unfold whF
    by_cases h : WV k = w
    · rw [if_pos h]
      exact .inl ⟨k, Nat.le_refl _, by omega, h, rfl⟩
    · rw [if_neg h]
      rcases whF_o w m (k + 1) with ⟨k', h1, h2, h3, h4⟩ | ⟨h1, h2⟩
      · exact .inl ⟨k', by omega, by omega, h3, h4⟩
      · refine .inr ⟨fun k' q1 q2 => ?_, h2⟩
        by_cases e : k' = k
        · subst e; exact h
        · exact h1 k' (by omega) (by omega)
def many (k : Nat) : Nat := if k = 5 then 0 else if k = 3 then 3 else if k = 4 ∨ k = 6 then 1 else 2
/-- where the reading stands behind i numbers -/
def ps (τ : Nat → Nat) (n p : Nat) : Nat → Option Nat
  | 0 => some p
  | i + 1 => match ps τ n p i with
    | some q => (match n1 τ n q with
      | some (_, r) => some r
      | none => none)
    | none => none
/-- the number i -/
def vs (τ : Nat → Nat) (n p i : Nat) : Nat := match ps τ n p i with
  | some q => (match n1 τ n q with
    | some (x, _) => x
    | none => 0)
  | none => 0
/-- a command at p: which one, and where it ends -/
def psr (τ : Nat → Nat) (n p : Nat) : Option (Nat × Nat) := match kd τ n p with
  | none => none
  | some k => (match ps τ n (p + wl k) (many k) with
    | none => none
    | some q => if q < n ∧ τ q = 59 then some (k, q + 1) else none)
theorem nm_le (τ : Nat → Nat) (n p : Nat) (h126 : ∀ i, τ i ≤ 126) (x q : Nat) (h : nm τ n p = some (x, q)) : x < 100 ∧ p < q ∧ q ≤ p + 2 ∧ q ≤ n := by
  unfold nm at h
  split at h
  · split at h
    · cases h; omega
    · cases h; omega
  · cases h
theorem n1_le (τ : Nat → Nat) (n p : Nat) (h126 : ∀ i, τ i ≤ 126) (x q : Nat) (h : n1 τ n p = some (x, q)) : x < 100 ∧ p < q ∧ q ≤ p + 3 ∧ q ≤ n := by
  unfold n1 at h
  split at h
  · have := nm_le τ n (p + 1) h126 x q h
    omega
  · cases h
theorem ps_le (τ : Nat → Nat) (n p : Nat) (h126 : ∀ i, τ i ≤ 126) : ∀ i q, ps τ n p i = some q → p ≤ q ∧ q ≤ p + 3 * i
  | 0, q, h => by cases h; omega
  | i + 1, q, h => by
    have e : ps τ n p (i + 1) = match ps τ n p i with | some q => (match n1 τ n q with | some (_, r) => some r | none => none) | none => none := rfl
    rw [e] at h
    cases hq : ps τ n p i with
    | none => rw [hq] at h; cases h
    | some r =>
      rw [hq] at h
      dsimp only at h
      have h1 := ps_le τ n p h126 i r hq
      cases hn : n1 τ n r with
      | none => rw [hn] at h; cases h
      | some v =>
        obtain ⟨x, r'⟩ := v
        rw [hn] at h
        dsimp only at h
        cases h
        have := n1_le τ n r h126 x q hn
        omega
theorem vs_lt (τ : Nat → Nat) (n p : Nat) (h126 : ∀ i, τ i ≤ 126) (i : Nat) : vs τ n p i < 100 := by
  unfold vs
  cases hq : ps τ n p i with
  | none => dsimp only; omega
  | some r =>
    dsimp only
    cases hn : n1 τ n r with
    | none => dsimp only; omega
    | some v =>
      obtain ⟨x, q⟩ := v
      dsimp only
      have := n1_le τ n r h126 x q hn
      omega
theorem psr_le (τ : Nat → Nat) (n p : Nat) (h126 : ∀ i, τ i ≤ 126) (k q : Nat) (h : psr τ n p = some (k, q)) : k < 7 ∧ p < q ∧ q ≤ p + 16 ∧ q ≤ n := by
  unfold psr at h
  cases hk : kd τ n p with
  | none => rw [hk] at h; cases h
  | some k' =>
    rw [hk] at h
    dsimp only at h
    have h1 := kdF_s τ n p 7 0 k' hk
    have h2 := wl_le k' (by omega)
    cases hq : ps τ n (p + wl k') (many k') with
    | none => rw [hq] at h; cases h
    | some r =>
      rw [hq] at h
      dsimp only at h
      have h3 := ps_le τ n _ h126 _ r hq
      have h4 : many k' ≤ 3 := by unfold many; (repeat' split) <;> omega
      split at h
      · cases h; omega
      · cases h
/-- the reference's word, held against the command's -/
theorem word_ok (τ : Nat → Nat) (n p c : Nat) (hc : c ≤ 6) (hl : ∀ i, i < c → bt τ n (p + i) 97 122) (hm : c < 6 → ¬ bt τ n (p + c) 97 122) : (∃ k, k < 7 ∧ kd τ n p = some k ∧ whR (wd τ p c) = nI k ∧ c = wl k) ∨ (whR (wd τ p c) = -1 ∧ psr τ n p = none) := by
  have hl' : ∀ i, i < c → 97 ≤ τ (p + i) ∧ τ (p + i) ≤ 122 := fun i hi => (hl i hi).2
  rcases whF_o (wd τ p c) 7 0 with ⟨k, _, h2, h3, h4⟩ | ⟨h1, h2⟩
  · left
    obtain ⟨e1, e2⟩ := (WV_iff τ p c k (by omega) hl').mp h3
    refine ⟨k, by omega, kd_of τ n p k (by omega) ((mt_iff τ n p k).mpr ⟨?_, fun i hi => e2 i (by omega)⟩), h4, e1⟩
    have b := wl_le k (by omega)
    have := (hl (c - 1) (by omega)).1
    omega
  · right
    refine ⟨h2, ?_⟩
    unfold psr
    cases hk : kd τ n p with
    | none => rfl
    | some k =>
      dsimp only
      have s1 := kdF_s τ n p 7 0 k hk
      have s2 := (mt_iff τ n p k).mp s1.2.2
      have b := wl_le k (by omega)
      have hlt : wl k < c := by
        by_cases q : c < wl k
        · exfalso
          refine hm (by omega) ⟨by omega, ?_⟩
          have := wc_in k (by omega) c q
          rw [s2.2 c q]
          exact this
        · by_cases e : c = wl k
          · exact absurd ((WV_iff τ p c k (by omega) hl').mpr ⟨e, fun i hi => s2.2 i (by omega)⟩) (h1 k (by omega) (by omega))
          · omega
      have hb := hl (wl k) hlt
      have hn : n1 τ n (p + wl k) = none := by
        unfold n1
        rw [if_neg]
        rintro ⟨_, e⟩
        have := hb.2.1
        omega
      have hs : ¬ (p + wl k < n ∧ τ (p + wl k) = 59) := by
        rintro ⟨_, e⟩
        have := hb.2.1
        omega
      have hpn : ∀ i, ps τ n (p + wl k) (i + 1) = none := by
        intro i
        induction i with
        | zero =>
          show (match ps τ n (p + wl k) 0 with | some q => (match n1 τ n q with | some (_, r) => some r | none => none) | none => none) = none
          show (match n1 τ n (p + wl k) with | some (_, r) => some r | none => none) = none
          rw [hn]
        | succ i ih =>
          show (match ps τ n (p + wl k) (i + 1) with | some q => (match n1 τ n q with | some (_, r) => some r | none => none) | none => none) = none
          rw [ih]
      cases hmn : many k with
      | zero =>
        show (match some (p + wl k) with | none => none | some q => if q < n ∧ τ q = 59 then some (k, q + 1) else none) = none
        dsimp only
        rw [if_neg hs]
      | succ i => rw [hpn i]
