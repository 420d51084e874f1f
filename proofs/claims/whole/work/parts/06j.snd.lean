-- PART 06j: whatever the pure interpreter comes to, the machine comes to
theorem pi_run_heap : ∀ (n m : Nat) (F : pi_F) (r : Option Value) (H' : pi_H), pi_run n m F = some (r, H') → F.2.2.2.2.1 ≤ H'.2.1 ∧ F.2.2.2.2.2 ≤ H'.2.2 := by
  intro n
  induction n with
  | zero => intro m F r H' h; cases h
  | succ n ih =>
    intro m F r H' h
    rw [pi_run] at h
    cases hs : pi_step m F with
    | none => rw [hs] at h; cases h
    | some o =>
      rw [hs] at h
      unfold pi_step at hs
      split at hs
      · cases hs
      next M hM =>
        split at hs
        next i len hd =>
          match o, h, hs with
          | .inl F', h, hs =>
            have h1 := pi_ins_mono hs
            have h2 := ih m F' r H' h
            exact ⟨Nat.le_trans h1.1 h2.1, Nat.le_trans h1.2 h2.2⟩
          | .inr (.inl q), h, hs =>
            cases h
            have : H' = F.2.2.2 := by
              rcases pi_ins_inl hs with ⟨ix, q⟩ | rfl | rfl | rfl | rfl
              · exfalso
                rcases q with rfl | rfl | rfl
                · have h := (pi_g_spec hs).2
                  unfold pi_inv at h
                  split at h
                  · simp only [Bool.false_eq_true, if_false] at h
                    have c1 : ∀ {m' k pc : Nat} {L : pi_L} {S : List Value} {H : pi_H} {z}, pi_cl1 M m' k pc L S H = some (.inr (.inl z)) → False := fun h => by
                      unfold pi_cl1 at h
                      split at h
                      · cases h
                      · have := (pi_g_spec h).2
                        cases this
                    split at h
                    · exact c1 (pi_g_spec h).2
                    · exact c1 (pi_g_spec h).2
                    · split at h
                      · have := (pi_g_spec h).2
                        unfold pi_go at this
                        cases this
                      · cases h
                    · cases h
                  · cases h
                · have h := (pi_g_spec hs).2
                  unfold pi_ivs at h
                  split at h
                  · have c1 : ∀ {m' k pc : Nat} {L : pi_L} {S : List Value} {H : pi_H} {z}, pi_cl1 M m' k pc L S H = some (.inr (.inl z)) → False := fun h => by
                      unfold pi_cl1 at h
                      split at h
                      · cases h
                      · have := (pi_g_spec h).2
                        cases this
                    split at h
                    · exact c1 h
                    · exact c1 h
                    · split at h
                      · split at h
                        · have := (pi_g_spec h).2
                          unfold pi_go at this
                          cases this
                        · cases h
                      · cases h
                    · cases h
                  · cases h
                · have h := (pi_g_spec hs).2
                  unfold pi_inv at h
                  split at h
                  · have h := (pi_g_spec h).2
                    unfold pi_cl1 at h
                    split at h
                    · cases h
                    · have := (pi_g_spec h).2
                      cases this
                  · cases h
              · have h := (pi_g_spec hs).2
                split at h
                · have h := (pi_g_spec h).2
                  cases h
                  rfl
                · cases h
              · have h := (pi_g_spec hs).2
                split at h <;> first | (cases h; rfl) | cases h
              · have h := (pi_g_spec hs).2
                split at h <;> first | (cases h; rfl) | cases h
              · have h := (pi_g_spec hs).2
                split at h <;> first | (cases h; rfl) | cases h
            rw [this]
            exact ⟨Nat.le_refl _, Nat.le_refl _⟩
          | .inr (.inr (m2, a, F')), h, hs =>
            dsimp only at h
            obtain ⟨ix, n', kd, k, M', -, -, -, -, -, hF, -⟩ := pi_call_spec hs
            cases hc : pi_run n m2 (0, pi_ent (pi_nl m2) a, [], F'.2.2.2) with
            | none => rw [hc] at h; cases h
            | some q =>
              obtain ⟨r1, H1⟩ := q
              rw [hc] at h
              have h1 := ih m2 _ r1 H1 hc
              have h2 := ih m _ r H' h
              rw [hF] at h1
              exact ⟨Nat.le_trans h1.1 h2.1, Nat.le_trans h1.2 h2.2⟩
        next => cases hs
/-- the locals at the entry -/
theorem pi_l0_len (g : pi_G) (a : List Value) : (lg_sl (a.map (pi_tv g))).length = (pi_l0 a).length := by
  induction a with
  | nil => rfl
  | cons v vs ih =>
    have e : lg_sl ((v :: vs).map (pi_tv g)) = (if (pi_tv g v).category = 2 then [.val (pi_tv g v), .second] else [.val (pi_tv g v)]) ++ lg_sl (vs.map (pi_tv g)) := by simp [lg_sl]
    rw [e, List.length_append, ih, pi_tv_cat, pi_l0]
    by_cases hc : v.category = 2
    · simp [hc]; omega
    · simp [hc]; omega
theorem pi_l0_at (g : pi_G) (a : List Value) : ∀ (i j k : Nat) (v : Value), pi_ld (pi_l0 a ++ List.replicate k none) j = some v → (i + j, pi_tv g v) ∈ lv_args i (a.map (pi_tv g)) := by
  induction a with
  | nil =>
    intro i j k v h
    rw [pi_ld_some] at h
    have := List.eq_of_mem_replicate (List.mem_of_getElem? (show (List.replicate k (none : Option Value))[j]? = some (some v) from h))
    cases this
  | cons w ws ih =>
    intro i j k v h
    rw [pi_ld_some] at h
    rw [List.map_cons, lv_args, pi_tv_cat]
    rw [pi_l0] at h
    by_cases hc : w.category = 2
    · rw [if_pos (by simp [hc])] at h
      rw [if_pos hc]
      match j, h with
      | 0, h => cases h; exact List.mem_cons_self
      | 1, h => cases h
      | j + 2, h =>
        refine List.mem_cons_of_mem _ ?_
        have := ih (i + 2) j k v (pi_ld_some.mpr h)
        rw [show i + (j + 2) = i + 2 + j by omega]
        exact this
    · rw [if_neg (by simp [hc])] at h
      rw [if_neg hc]
      match j, h with
      | 0, h => cases h; exact List.mem_cons_self
      | j + 1, h =>
        refine List.mem_cons_of_mem _ ?_
        have := ih (i + 1) j k v (pi_ld_some.mpr h)
        rw [show i + (j + 1) = i + 1 + j by omega]
        exact this
theorem pi_entry (g : pi_G) {n : Nat} {a : List Value} (h : (pi_l0 a).length ≤ n) : lv_has ((lg_sl (a.map (pi_tv g)) ++ List.replicate (n - (lg_sl (a.map (pi_tv g))).length) Slot.unset).toArray) n (pi_lv g (pi_ent n a)) ∧ (pi_ent n a).length = n := by
  refine ⟨pi_lv_mono (lv_entry (a.map (pi_tv g)) (by rw [pi_l0_len]; exact h)) fun q hq => ?_, ?_⟩
  · obtain ⟨v, h1, h2⟩ := pi_lv_mem.mp hq
    have := pi_l0_at g a 0 q.1 _ v h1
    rw [Nat.zero_add, ← h2] at this
    exact this
  · unfold pi_ent
    rw [List.length_append, List.length_replicate]
    omega
/-- runs of n steps: the machine comes where the pure interpreter comes -/
def pi_Ok (l : Launch) (n : Nat) : Prop := ∀ (g : pi_G) (p : Program) (e : Env) (R : Room) (s : State) (m : MethodId) (args : Array Value) (below : List Frame) (meth : Method) (c : Code) (Q : State → Prop) (M : pi_M) (n0 z0 m0 : Nat) (F : pi_F) (r : Option Value) (H' : pi_H),
  pi_tab[m0]? = some M → pi_run n m0 F = some (r, H') → pi_C g p R s m args meth c M n0 → H'.2.1 ≤ n0 + R.cells → H'.2.2 ≤ z0 + R.slots →
  (∀ (i : Instr) (len pc : Nat) (L : pi_L) (S : List Value), decode (pm_by M) pc = .ok (i, len) → pi_ins M i len pc L S H' = some (.inr (.inl (r, H'))) → pi_W g p l e R s m args below meth c Q M n0 z0 (pc, L, S, H')) →
  pi_W g p l e R s m args below meth c Q M n0 z0 F
theorem pi_retv {M : pi_M} {i : Instr} {len pc : Nat} {L : pi_L} {S : List Value} {H : pi_H} {r : Option Value} {H' : pi_H} (hs : pi_ins M i len pc L S H = some (.inr (.inl (r, H')))) :
    len = 1 ∧ H' = H ∧ ((∃ v, i = .ireturn ∧ S = [.int v] ∧ r = some (.int v) ∧ pi_rt M v = true) ∨ (∃ v, i = .lreturn ∧ S = [.long v] ∧ r = some (.long v) ∧ pm_rt M = some .long) ∨ (∃ v, i = .areturn ∧ S = [.ref v] ∧ r = some (.ref v) ∧ pi_isr M = true) ∨ (i = .return_ ∧ S = [] ∧ r = none ∧ pm_rt M = none)) := by
  rcases pi_ins_inl hs with ⟨ix, q⟩ | rfl | rfl | rfl | rfl
  · exfalso
    have c1 : ∀ {m' k pc : Nat} {L : pi_L} {S : List Value} {H : pi_H} {z}, pi_cl1 M m' k pc L S H = some (.inr (.inl z)) → False := fun h => by
      unfold pi_cl1 at h
      split at h
      · cases h
      · have := (pi_g_spec h).2
        cases this
    rcases q with rfl | rfl | rfl
    · have h := (pi_g_spec hs).2
      unfold pi_inv at h
      split at h
      · simp only [Bool.false_eq_true, if_false] at h
        split at h
        · exact c1 (pi_g_spec h).2
        · exact c1 (pi_g_spec h).2
        · split at h
          · have := (pi_g_spec h).2
            unfold pi_go at this
            cases this
          · cases h
        · cases h
      · cases h
    · have h := (pi_g_spec hs).2
      unfold pi_ivs at h
      split at h
      · split at h
        · exact c1 h
        · exact c1 h
        · split at h
          · split at h
            · have := (pi_g_spec h).2
              unfold pi_go at this
              cases this
            · cases h
          · cases h
        · cases h
      · cases h
    · have h := (pi_g_spec hs).2
      unfold pi_inv at h
      split at h
      · exact c1 (pi_g_spec h).2
      · cases h
  · obtain ⟨hb, h⟩ := pi_g_spec hs
    refine ⟨eq_of_beq hb, ?_⟩
    split at h
    next v =>
      obtain ⟨h1, h2⟩ := pi_g_spec h
      cases h2
      exact ⟨rfl, Or.inl ⟨v, rfl, rfl, rfl, h1⟩⟩
    next => cases h
  · obtain ⟨hb, h⟩ := pi_g_spec hs
    rw [Bool.and_eq_true, beq_iff_eq, decide_eq_true_eq] at hb
    refine ⟨hb.1, ?_⟩
    split at h
    next v => cases h; exact ⟨rfl, Or.inr (Or.inl ⟨v, rfl, rfl, rfl, hb.2⟩)⟩
    next => cases h
  · obtain ⟨hb, h⟩ := pi_g_spec hs
    rw [Bool.and_eq_true, beq_iff_eq] at hb
    refine ⟨hb.1, ?_⟩
    split at h
    next v => cases h; exact ⟨rfl, Or.inr (Or.inr (Or.inl ⟨v, rfl, rfl, rfl, hb.2⟩))⟩
    next => cases h
  · obtain ⟨hb, h⟩ := pi_g_spec hs
    rw [Bool.and_eq_true, beq_iff_eq, decide_eq_true_eq] at hb
    refine ⟨hb.1, ?_⟩
    split at h
    next => cases h; exact ⟨rfl, Or.inr (Or.inr (Or.inr ⟨rfl, rfl, rfl, hb.2⟩))⟩
    next => cases h
theorem pi_met_of {l : Launch} {n : Nat} (ok : pi_Ok l n) {g : pi_G} {m0 : Nat} {M : pi_M} {a : List Value} {H : pi_H} {r : Option Value} {H' : pi_H} (hM : pi_tab[m0]? = some M) (hrun : pi_run n m0 (0, pi_ent (pi_nl m0) a, [], H) = some (r, H')) (hlen : (pi_l0 a).length ≤ pm_ml M) : pi_Met l g M a H r H' := by
  have hmc := List.all_eq_true.mp pi_tab_ok _ (List.mem_of_getElem? hM)
  have hpf := List.all_eq_true.mp pi_tab_pf _ (List.mem_of_getElem? hM)
  unfold pi_mc at hmc
  rw [Bool.and_eq_true, decide_eq_true_eq] at hmc
  obtain ⟨hin, hown⟩ := hmc
  have hmono := pi_run_heap _ _ _ _ _ hrun
  refine va_MetF (cc := pm_by M) (maxL := pm_ml M) (ret := pm_rt M) hpf rfl ?_
  intro p e s m args below meth c s₁ Bd hml hv
  obtain ⟨rfl, hR, hE⟩ := hv
  have hts := atoms_spec (ws := pi_ws M) Bd.pre
  have hfind : s.vm.findClass (pm_nm M).cls = some m.cls := findClass_of_methodNamed Bd.named
  have hname : meth.name = (pm_nm M).name := (name_of_methodNamed Bd.named Bd.method).1
  have hnl : pi_nl m0 = pm_ml M := by unfold pi_nl; rw [hM]
  have C : pi_C g p (headSpec (pi_ws M) (pi_rm M (H'.2.1 - H.2.1) (H'.2.2 - H.2.2))).room s m (a.map (pi_tv g)).toArray meth c M H.2.1 :=
    ⟨Bd.exec, Bd.bytes, hml, ⟨_, hown, hfind⟩, fun w hw hg => hts w (List.mem_cons_of_mem _ (List.mem_filter.mpr ⟨hw, hg⟩)), hE, fun hi => by rw [hname]; rw [hi] at hin; simpa using hin, Bd.returns, Bd.notSynchronized, Nat.le_refl _, Nat.le_refl _, hR.1⟩
  rw [lg_entry_eq]
  obtain ⟨e1, e2⟩ := pi_entry g hlen
  have hbc : H'.2.1 ≤ H.2.1 + (headSpec (pi_ws M) (pi_rm M (H'.2.1 - H.2.1) (H'.2.2 - H.2.2))).room.cells := by show _ ≤ H.2.1 + (H'.2.1 - H.2.1); omega
  have hbs : H'.2.2 ≤ H.2.2 + (headSpec (pi_ws M) (pi_rm M (H'.2.1 - H.2.1) (H'.2.2 - H.2.2))).room.slots := by show _ ≤ H.2.2 + (H'.2.2 - H.2.2); omega
  refine ok g p e _ s m _ below meth c _ M H.2.1 H.2.2 m0 (0, pi_ent (pi_nl m0) a, [], H) r H' hM hrun C hbc hbs ?_ s.heap _ [] 0 0 hR (by rw [hnl]; exact e1) (by rw [hnl]; exact e2) va_S.rf rfl rfl
  intro i len pc L S hd hs Hp ls locs cells slots r1 r2 r3 r4 r5 r6
  have r5' : H'.2.1 = H.2.1 + cells := r5
  have r6' : H'.2.2 = H.2.2 + slots := r6
  have ec : H'.2.1 - H.2.1 = cells := by omega
  have es : H'.2.2 - H.2.2 = slots := by omega
  rw [ec, es]
  have hlocks := Bd.notSynchronized
  have hq : ∀ v : Option Value, r = v → ∀ t : State, t.heap = Hp → s.WarmedH t.vm → pi_Q g r H' (a.map (pi_tv g)).toArray s (.returned (v.map (pi_tv g))) t := fun v hv t ht _ => ⟨by rw [hv], by rw [ht]; exact r1, r4.F ht⟩
  obtain ⟨hl, -, hc⟩ := pi_retv hs
  subst hl
  rcases hc with ⟨v, rfl, rfl, rfl, hrt⟩ | ⟨v, rfl, rfl, rfl, hrt⟩ | ⟨v, rfl, rfl, rfl, hrt⟩ | ⟨rfl, rfl, rfl, hrt⟩
  · unfold pi_rt at hrt
    split at hrt
    next ty hty => exact W.zret Bd.exec Bd.bytes (Bd.returns.trans hty) (of_decide_eq_true hrt) (hq _ rfl) r4.2.2 hd
    next => cases hrt
  · exact W.lret Bd.exec Bd.bytes (Bd.returns.trans hrt) (hq _ rfl) r4.2.2 hd
  · unfold pi_isr at hrt
    split at hrt
    next nm hty =>
      refine W.aret (v := pi_tv g (.ref v)) Bd.exec Bd.bytes (Bd.returns.trans hty) (Or.inl ⟨_, rfl⟩) ?_ (hq _ rfl) r4.2.2 hd
      unfold pi_tv
      dsimp only
      split
      · exact Or.inr ⟨_, rfl⟩
      · unfold va_rf
        split
        · exact Or.inl rfl
        · exact Or.inr ⟨_, rfl⟩
    next => cases hrt
  · exact W.vret Bd.exec Bd.bytes (Bd.returns.trans hrt) (hq _ rfl) r4.2.2 hd
theorem pi_ok (l : Launch) : ∀ n, pi_Ok l n := by
  intro n
  induction n with
  | zero => intro g p e R s m args below meth c Q M n0 z0 m0 F r H' hM hrun; cases hrun
  | succ n ih =>
    intro g p e R s m args below meth c Q M n0 z0 m0 F r H' hM hrun C hb1 hb2 hret
    obtain ⟨pc, L, S, H⟩ := F
    have hmono := pi_run_heap _ _ _ _ _ hrun
    rw [pi_run] at hrun
    cases hs : pi_step m0 (pc, L, S, H) with
    | none => rw [hs] at hrun; cases hrun
    | some o =>
      rw [hs] at hrun
      unfold pi_step at hs
      rw [hM] at hs
      dsimp only at hs
      split at hs
      next i len hd =>
        match o, hrun, hs with
        | .inl F', hrun, hs =>
          have h1 := pi_run_heap _ _ _ _ _ hrun
          exact pi_next2 C hd hs (Nat.le_trans h1.1 hb1) (Nat.le_trans h1.2 hb2) (ih g p e R s m args below meth c Q M n0 z0 m0 F' r H' hM hrun C hb1 hb2 hret)
        | .inr (.inl q), hrun, hs =>
          cases hrun
          obtain ⟨-, hH, -⟩ := pi_retv hs
          subst hH
          exact hret i len pc L S hd hs
        | .inr (.inr (m2, a, F')), hrun, hs =>
          dsimp only at hrun
          obtain ⟨ix, n', kd, k, M', rfl, hl, hM', hi, ha, hF, hrk, hk, hcat, hlen⟩ := pi_call_spec hs
          subst ha
          subst hF
          cases hc : pi_run n m2 (0, pi_ent (pi_nl m2) (S.take k).reverse, [], H) with
          | none => rw [hc] at hrun; cases hrun
          | some q =>
            obtain ⟨r1, H1⟩ := q
            rw [hc] at hrun
            have h1 := pi_run_heap _ _ _ _ _ hc
            have h2 := pi_run_heap _ _ _ _ _ hrun
            exact pi_n_call C hd hl hM' hi hrk hk hcat (pi_met_of ih hM' hc hlen) h1 (Nat.le_trans h2.1 hb1) (Nat.le_trans h2.2 hb2) (ih g p e R s m args below meth c Q M n0 z0 m0 _ r H' hM hrun C hb1 hb2 hret)
      next => cases hs
