-- PART 06h: the machine does what the pure interpreter computes
theorem pi_ins_mono {M : pi_M} {i : Instr} {len pc : Nat} {L : pi_L} {S : List Value} {H : pi_H} {F : pi_F} (h : pi_ins M i len pc L S H = some (.inl F)) : H.2.1 ≤ F.2.2.2.2.1 ∧ H.2.2 ≤ F.2.2.2.2.2 := by
  have go : ∀ {pc : Nat} {L : pi_L} {S : List Value} {H' : pi_H}, H.2.1 ≤ H'.2.1 ∧ H.2.2 ≤ H'.2.2 → pi_go pc L S H' = some (.inl F) → H.2.1 ≤ F.2.2.2.2.1 ∧ H.2.2 ≤ F.2.2.2.2.2 := fun q h => by
    obtain rfl := pi_go_spec h
    exact q
  have r0 : H.2.1 ≤ H.2.1 ∧ H.2.2 ≤ H.2.2 := ⟨Nat.le_refl _, Nat.le_refl _⟩
  have gi : ∀ {pc : Nat} {off : Int} {L : pi_L} {S : List Value}, pi_gi pc off L S H = some (.inl F) → H.2.1 ≤ F.2.2.2.2.1 ∧ H.2.2 ≤ F.2.2.2.2.2 := fun h => by
    obtain ⟨tgt, -, rfl⟩ := pi_gi_spec h
    exact r0
  have br : ∀ {b : Bool} {pc : Nat} {off : Int} {L : pi_L} {S : List Value}, pi_br b pc off L S H = some (.inl F) → H.2.1 ≤ F.2.2.2.2.1 ∧ H.2.2 ≤ F.2.2.2.2.2 := fun h => by
    unfold pi_br at h
    split at h
    · split at h <;> exact go r0 h
    · cases h
  have asx : ∀ {kd pc : Nat} {L : pi_L}, pi_asx S H kd pc L = some (.inl F) → H.2.1 ≤ F.2.2.2.2.1 ∧ H.2.2 ≤ F.2.2.2.2.2 := fun h => by
    obtain ⟨v, i, a, r, H', -, h2, rfl⟩ := pi_asx_spec h
    rcases pi_as_spec h2 with ⟨t, n, f, x, -, -, -, ⟨-, -, rfl⟩ | ⟨-, -, rfl⟩⟩ | ⟨t, n, f, x, -, -, -, -, -, rfl⟩ | ⟨t, n, f, x, -, -, -, -, -, -, rfl⟩ <;> exact r0
  have c1 : ∀ {m' k pc : Nat} {L : pi_L} {S : List Value}, pi_cl1 M m' k pc L S H = some (.inl F) → False := fun h => by
    unfold pi_cl1 at h
    split at h
    · cases h
    · have := (pi_g_spec h).2
      cases this
  unfold pi_ins at h
  split at h
  all_goals first
    | (cases h; done)
    | (have h := (pi_g_spec h).2
       first
         | exact go r0 h
         | (split at h <;> first | (cases h; done) | exact go r0 h | exact go r0 (pi_g_spec h).2)
         | (unfold pi_ld1 at h; split at h <;> first | (cases h; done) | exact go r0 h)
         | (unfold pi_sti at h; split at h <;> first | (cases h; done) | exact go r0 (pi_g_spec h).2)
         | (unfold pi_stl at h; split at h <;> first | (cases h; done) | exact go r0 (pi_g_spec h).2)
         | (unfold pi_sta at h; split at h <;> first | (cases h; done) | exact go r0 (pi_g_spec h).2)
         | (obtain ⟨S', -, rfl⟩ := pi_nx_spec h; exact r0)
         | exact gi h)
    | skip
  · have h := (pi_g_spec h).2
    split at h
    · exact br h
    · cases h
  · have h := (pi_g_spec h).2
    split at h
    · exact br h
    · cases h
  · split at h
    · split at h
      · exact gi h
      · split at h
        · exact gi h
        · cases h
    · cases h
  · have h := (pi_g_spec h).2
    split at h
    · exact gi h
    · cases h
  · have h := (pi_g_spec h).2
    split at h
    · have h := (pi_g_spec h).2
      cases h
    · cases h
  · have h := (pi_g_spec h).2
    split at h
    · unfold pi_ld1 at h
      split at h
      · exact go r0 h
      · cases h
    · cases h
  · have h := (pi_g_spec h).2
    split at h
    · have h := (pi_g_spec h).2
      split at h
      next H' hpf =>
        unfold pi_pf at hpf
        split at hpf
        · split at hpf
          · cases hpf
            refine go ?_ h
            exact r0
          · cases hpf
        · cases hpf
      next => cases h
    · cases h
  · exact asx (pi_g_spec h).2
  · exact asx (pi_g_spec h).2
  · exact asx (pi_g_spec h).2
  · exact asx (pi_g_spec h).2
  · have h := (pi_g_spec h).2
    split at h
    · split at h
      · exact go r0 h
      · cases h
    · cases h
  · have h := (pi_g_spec h).2
    split at h
    · split at h
      · exact go ⟨Nat.le_succ _, Nat.le_add_right _ _⟩ (pi_g_spec h).2
      · cases h
    · cases h
  · have h := (pi_g_spec h).2
    split at h
    · split at h
      · exact go ⟨Nat.le_succ _, Nat.le_add_right _ _⟩ (pi_g_spec h).2
      · cases h
    · cases h
  · have h := (pi_g_spec h).2
    split at h
    · exact go ⟨Nat.le_succ _, Nat.le_add_right _ _⟩ (pi_g_spec h).2
    · cases h
  · have h := (pi_g_spec h).2
    split at h
    · split at h
      · split at h
        · refine go ⟨?_, ?_⟩ (pi_g_spec h).2
          · show H.2.1 ≤ H.2.1 + 1 + _; omega
          · show H.2.2 ≤ H.2.2 + _ + _; omega
        · cases h
      · cases h
    · cases h
  · have h := (pi_g_spec h).2
    unfold pi_inv at h
    split at h
    · exact (c1 (pi_g_spec h).2).elim
    · cases h
  · have h := (pi_g_spec h).2
    unfold pi_inv at h
    split at h
    · simp only [Bool.false_eq_true, if_false] at h
      split at h
      · exact (c1 (pi_g_spec h).2).elim
      · exact (c1 (pi_g_spec h).2).elim
      · split at h
        · exact go r0 (pi_g_spec h).2
        · cases h
      · cases h
    · cases h
  · have h := (pi_g_spec h).2
    unfold pi_ivs at h
    split at h
    · split at h
      · exact (c1 h).elim
      · exact (c1 h).elim
      · split at h
        · split at h
          · refine go ?_ (pi_g_spec h).2
            exact r0
          · cases h
        · cases h
      · cases h
    · cases h
/-- what isn't a call nor a return stays in the frame -/
theorem pi_ins_inl {M : pi_M} {i : Instr} {len pc : Nat} {L : pi_L} {S : List Value} {H : pi_H} {z} (h : pi_ins M i len pc L S H = some (.inr z)) : (∃ ix, i = .invokespecial ix ∨ i = .invokestatic ix ∨ i = .invokevirtual ix) ∨ i = .ireturn ∨ i = .lreturn ∨ i = .areturn ∨ i = .return_ := by
  have go : ∀ {pc : Nat} {L : pi_L} {S : List Value} {H' : pi_H}, pi_go pc L S H' = some (.inr z) → False := fun h => by
    unfold pi_go at h
    cases h
  have gi : ∀ {pc : Nat} {off : Int} {L : pi_L} {S : List Value}, pi_gi pc off L S H = some (.inr z) → False := fun h => by
    unfold pi_gi at h
    split at h
    · exact go h
    · cases h
  have br : ∀ {b : Bool} {pc : Nat} {off : Int} {L : pi_L} {S : List Value}, pi_br b pc off L S H = some (.inr z) → False := fun h => by
    unfold pi_br at h
    split at h
    · split at h <;> exact go h
    · cases h
  have asx : ∀ {kd pc : Nat} {L : pi_L}, pi_asx S H kd pc L = some (.inr z) → False := fun h => by
    unfold pi_asx at h
    split at h
    · split at h
      · exact go h
      · cases h
    · cases h
  have nx : ∀ {S' : Option (List Value)} {pc : Nat} {L : pi_L}, pi_nx S' pc L H = some (.inr z) → False := fun h => by
    unfold pi_nx at h
    split at h
    · exact go h
    · cases h
  unfold pi_ins at h
  split at h
  all_goals first
    | (cases h; done)
    | exact Or.inl ⟨_, Or.inl rfl⟩
    | exact Or.inl ⟨_, Or.inr (Or.inl rfl)⟩
    | exact Or.inl ⟨_, Or.inr (Or.inr rfl)⟩
    | exact Or.inr (Or.inl rfl)
    | exact Or.inr (Or.inr (Or.inl rfl))
    | exact Or.inr (Or.inr (Or.inr (Or.inl rfl)))
    | exact Or.inr (Or.inr (Or.inr (Or.inr rfl)))
    | (exfalso
       have h := (pi_g_spec h).2
       first
         | exact go h
         | exact nx h
         | exact asx h
         | exact gi h
         | (split at h <;> first | (cases h; done) | exact go h | exact br h | exact gi h | exact go (pi_g_spec h).2)
         | (unfold pi_ld1 at h; split at h <;> first | (cases h; done) | exact go h)
         | (unfold pi_sti at h; split at h <;> first | (cases h; done) | exact go (pi_g_spec h).2)
         | (unfold pi_stl at h; split at h <;> first | (cases h; done) | exact go (pi_g_spec h).2)
         | (unfold pi_sta at h; split at h <;> first | (cases h; done) | exact go (pi_g_spec h).2)
         | (split at h <;> first | (cases h; done) | (split at h <;> first | (cases h; done) | exact go h | exact go (pi_g_spec h).2 | (split at h <;> first | (cases h; done) | exact go (pi_g_spec h).2)) | (have h := (pi_g_spec h).2; split at h <;> first | (cases h; done) | exact go h) | (unfold pi_ld1 at h; split at h <;> first | (cases h; done) | exact go h)))
    | (exfalso
       split at h <;> first | (cases h; done) | (split at h <;> first | exact gi h | (split at h <;> first | exact gi h | (cases h; done))))
