-- PART 06i: the main theorem of the pure interpreter
section PII
variable {g : pi_G} {p : Program} {l : Launch} {e : Env} {R : Room} {s : State} {m : MethodId} {args : Array Value} {below : List Frame} {meth : Method} {c : Code} {Q : State → Prop} {M : pi_M} {n0 z0 : Nat}
theorem pi_n_copy {pc ix m' n9 a b n0' n1 : Nat} {f f1 : Nat → Int32} {n dp sp : Int32} {L : pi_L} {r : List Value} {H : pi_H} (C : pi_C g p R s m args meth c M n0) (hd : decode (pm_by M) pc = .ok (.invokestatic ix, 3)) (hl : pi_mlk.lookup (pm_ow M, ix) = some (m', n9, 6))
    (ha : pi_get H a = some (.inl (0, n0', .inl f))) (hb : pi_get H b = some (.inl (0, n1, .inl f1))) (har : pi_arr f f1 n0' n1 sp dp n = true) (hr : 1 ≤ pm_rk M) (hc : pi_cats r ≤ 8)
    (kk : pi_W g p l e R s m args below meth c Q M n0 z0 (pc + 3, L, r, pi_set H b (.inl (0, n1, .inl (va_cpy f f1 sp.toNatClampNeg dp.toNatClampNeg n.toNatClampNeg))))) : pi_W g p l e R s m args below meth c Q M n0 z0 (pc, L, .int n :: .int dp :: .ref b :: .int sp :: .ref a :: r, H) := by
  obtain ⟨hx, hbb, hml, ⟨own, ho1, ho2⟩, hts, hE, -, -, -, hfr, hlo, -⟩ := id C
  obtain ⟨ps, hq⟩ := pi_mlk_ok _ (pi_lk_mem hl)
  unfold pi_mlc at hq
  dsimp only at hq
  rw [ho1] at hq
  have hq : (pi_p ps[0]? (.methodLink own ix arraycopyName) && (pi_p ps[1]? (.native arraycopyName) && (pi_p ps[2]? (.static arraycopyName) && pi_p ps[3]? (.initialized "java/lang/System")))) = true := hq
  rw [Bool.and_eq_true, Bool.and_eq_true, Bool.and_eq_true] at hq
  obtain ⟨q1, q2, q3, q4⟩ := hq
  have q1 := hts _ (pi_p_in q1).1 (pi_p_in q1).2
  have q2 := hts _ (pi_p_in q2).1 (pi_p_in q2).2
  have q3 := hts _ (pi_p_in q3).1 (pi_p_in q3).2
  have q4 := hts _ (pi_p_in q4).1 (pi_p_in q4).2
  unfold pi_arr at har
  rw [Bool.and_eq_true, Bool.and_eq_true, Bool.and_eq_true, Bool.and_eq_true, Bool.not_eq_true', Bool.not_eq_true', Bool.not_eq_true', decide_eq_false_iff_not, decide_eq_false_iff_not, decide_eq_false_iff_not, decide_eq_true_eq, decide_eq_true_eq] at har
  obtain ⟨⟨⟨⟨h1, h2⟩, h3⟩, h4⟩, h5⟩ := har
  have nn : ∀ z : Int32, ¬ z < 0 → z.toInt = (z.toNatClampNeg : Int) := by
    intro z hz
    have hz0 : (0 : Int) ≤ z.toInt := by
      have := Int32.not_lt.mp hz
      simpa using Int32.le_iff_toInt_le.mp this
    show z.toInt = ((z.toInt.toNat : Nat) : Int)
    omega
  intro Hp ls locs cells slots r1 r2 r3 r4 r5 r6
  obtain ⟨a1, a2, a3⟩ := pi_dyn_at r1 hE ha rfl
  obtain ⟨b1, b2, b3⟩ := pi_dyn_at r1 hE hb rfl
  show W p l e R s m args below meth c Hp locs cells slots Q (F0 m pc ls (.int n :: .int dp :: pi_tv g (.ref b) :: .int sp :: pi_tv g (.ref a) :: r.map (pi_tv g)))
  rw [pi_tv_dyn a2, pi_tv_dyn b2]
  intro T hT X
  have hc0 : Hp[pi_B g + a]? = some (vp_cell (g.2.1 0) (n0', .inl f)) := a3
  have hc1 : Hp[pi_B g + b]? = some (vp_cell (g.2.1 0) (n1, .inl f1)) := b3
  obtain ⟨-, k0, hk0, cm0, hkk0⟩ := (hE.1.2 0 _ rfl).1 n0' (fun j => .int (f j))
  obtain ⟨vm', X', step⟩ := X.arraycopy hx ho2 q1 q2 q3 q4 (src := pi_B g + a) (dst := pi_B g + b) (cs := vp_cell (g.2.1 0) (n0', .inl f)) (cd := vp_cell (g.2.1 0) (n1, .inl f1)) (srcPos := sp) (destPos := dp) (n := n) (by rw [hT]; exact hc0) (by rw [hT]; exact hc1)
    (fun _ h => by cases h) (fun _ h => by cases h) (fun h => by cases h) (fun h => by cases h) hk0 hk0 hkk0 hkk0 (by simp [refKind]) h1 h2 h3
    (by rw [nn sp h1, nn n h3]; show ¬ _ > ((arrV (g.2.1 0) n0' (fun j => .int (f j))).slots.size : Int); rw [arrV_size]; omega)
    (by rw [nn dp h2, nn n h3]; show ¬ _ > ((arrV (g.2.1 0) n1 (fun j => .int (f1 j))).slots.size : Int); rw [arrV_size]; omega)
    (fun vm₁ _ i hi => by
      have e : (vp_cell (g.2.1 0) (n0', .inl f)).slots.getD (sp.toNatClampNeg + i) .null = .int (f (sp.toNatClampNeg + i)) := by
        show (arrV (g.2.1 0) n0' (fun j => .int (f j))).slots.getD _ _ = _
        rw [Array.getD_eq_getD_getElem?, arrV_read _ _ (by omega)]
        rfl
      refine ⟨?_, ?_⟩
      · rw [e]
        rfl
      · rw [e]
        exact trivial)
    (g := F0 m pc ls (.int n :: .int dp :: .ref (pi_B g + b) :: .int sp :: .ref (pi_B g + a) :: r.map (pi_tv g))) rfl (by rw [hml]; exact r2.1) (rest := r.map (pi_tv g)) rfl (by rw [hbb]; exact hd) (Nat.le_trans hr hfr) (by
      rw [pi_cats_map]
      have : nativeFrameWords "java/lang/System" "arraycopy" 5 = 7 := by decide +kernel
      rw [this]
      show 2 * 0 + pi_cats r + (7 + 11) ≤ R.locals
      omega)
  have e1 : copied (vp_cell (g.2.1 0) (n0', .inl f)) (vp_cell (g.2.1 0) (n1, .inl f1)) sp dp n = vp_cell (g.2.1 0) (n1, .inl (va_cpy f f1 sp.toNatClampNeg dp.toNatClampNeg n.toNatClampNeg)) := va_copied (fun z => .int z) (g.2.1 0) (g.2.1 0) f f1 h4
  rw [e1] at X' step
  have hlt : pi_B g + b < Hp.size := (Array.getElem?_eq_some_iff.mp hc1).1
  have hheap : ((T.setVm vm').setCell (pi_B g + b) (vp_cell (g.2.1 0) (n1, .inl (va_cpy f f1 sp.toNatClampNeg dp.toNatClampNeg n.toNatClampNeg)))).heap = Hp.setIfInBounds (pi_B g + b) (vp_cell (g.2.1 0) (n1, .inl (va_cpy f f1 sp.toNatClampNeg dp.toNatClampNeg n.toNatClampNeg))) := by rw [← hT]; rfl
  have oq : ∀ q : Nat, q ≠ pi_B g + b → (Hp.setIfInBounds (pi_B g + b) (vp_cell (g.2.1 0) (n1, .inl (va_cpy f f1 sp.toNatClampNeg dp.toNatClampNeg n.toNatClampNeg))))[q]? = Hp[q]? := fun q hq => by simp [Array.getElem?_setIfInBounds, Ne.symm hq]
  have r1' : pi_R g (pi_set H b (.inl (0, n1, .inl (va_cpy f f1 sp.toNatClampNeg dp.toNatClampNeg n.toNatClampNeg)))) (Hp.setIfInBounds (pi_B g + b) (vp_cell (g.2.1 0) (n1, .inl (va_cpy f f1 sp.toNatClampNeg dp.toNatClampNeg n.toNatClampNeg)))) := by
    refine pi_te_at r1 b1 rfl (by simp) oq ?_
    show (Hp.setIfInBounds (pi_B g + b) _)[pi_B g + b]? = some (vp_cell _ _)
    simp [Array.getElem?_setIfInBounds, hlt]
  obtain ⟨t, t1, t2⟩ := kk _ ls _ cells slots r1' r2 r3 ⟨by simp; exact r4.1, fun q g1 g2 => by
      rw [oq q (fun e => g2 (by rw [e]; exact pi_dynA b))]
      exact r4.2.1 q g1 g2, fun q hq => by
      rcases List.mem_append.mp hq with h | h
      · exact r4.2.2 q h
      · obtain ⟨z, -, hz⟩ := List.mem_map.mp h
        rw [← hz]
        exact pi_dynA b⟩ r5 r6 _ hheap X'
  exact ⟨t, step t t1, t2⟩
/-- what an invocation that stays in the frame is: Object's constructor, arraycopy -/
theorem pi_next2 {i : Instr} {len pc : Nat} {L : pi_L} {S : List Value} {H : pi_H} {F : pi_F} (C : pi_C g p R s m args meth c M n0) (hd : decode (pm_by M) pc = .ok (i, len)) (h : pi_ins M i len pc L S H = some (.inl F)) (hb1 : F.2.2.2.2.1 ≤ n0 + R.cells) (hb2 : F.2.2.2.2.2 ≤ z0 + R.slots)
    (kk : pi_W g p l e R s m args below meth c Q M n0 z0 F) : pi_W g p l e R s m args below meth c Q M n0 z0 (pc, L, S, H) := by
  have c1 : ∀ {m' k pc : Nat} {L : pi_L} {S : List Value}, pi_cl1 M m' k pc L S H = some (.inl F) → False := fun h => by
    unfold pi_cl1 at h
    split at h
    · cases h
    · have := (pi_g_spec h).2
      cases this
  by_cases hiv : (∀ x, i ≠ .invokespecial x) ∧ (∀ x, i ≠ .invokestatic x) ∧ (∀ x, i ≠ .invokevirtual x)
  · exact pi_next C hd h hb1 hb2 hiv kk
  · cases i
    case invokespecial ix =>
      have h9 := pi_g_spec h
      have hb := eq_of_beq h9.1
      subst hb
      replace h := h9.2
      clear h9
      unfold pi_inv at h
      split at h
      next m' n kd hl =>
        simp only [Bool.false_eq_true, if_false] at h
        split at h
        · exact (c1 (pi_g_spec h).2).elim
        · exact (c1 (pi_g_spec h).2).elim
        · split at h
          · exact pi_n_oin C hd hl h kk
          · cases h
        · cases h
      next => cases h
    case invokestatic ix =>
      have h9 := pi_g_spec h
      have hb := eq_of_beq h9.1
      subst hb
      replace h := h9.2
      clear h9
      unfold pi_ivs at h
      split at h
      next m' n kd hl =>
        split at h
        · exact (c1 h).elim
        · exact (c1 h).elim
        · split at h
          next n9 dp b sp a r =>
            split at h
            next t0 n0' f t1 n1 f1 ha hb =>
              obtain ⟨hq, h1⟩ := pi_g_spec h
              rw [Bool.and_eq_true, Bool.and_eq_true, Bool.and_eq_true, Bool.and_eq_true, beq_iff_eq, beq_iff_eq, decide_eq_true_eq, decide_eq_true_eq] at hq
              obtain ⟨⟨⟨⟨rfl, rfl⟩, har⟩, hr⟩, hc⟩ := hq
              obtain rfl := pi_go_spec h1
              exact pi_n_copy C hd hl ha hb har hr hc kk
            next => cases h
          next => cases h
        · cases h
      next => cases h
    case invokevirtual ix =>
      obtain ⟨hb, h⟩ := pi_g_spec h
      unfold pi_inv at h
      split at h
      · exact (c1 (pi_g_spec h).2).elim
      · cases h
    all_goals exact (hiv ⟨fun x q => (by cases q), fun x q => (by cases q), fun x q => (by cases q)⟩).elim
theorem pi_cl1_spec {m' k pc : Nat} {L : pi_L} {S : List Value} {H : pi_H} {m2 : Nat} {a : List Value} {F : pi_F} (h : pi_cl1 M m' k pc L S H = some (.inr (.inr (m2, a, F)))) : ∃ M', pi_tab[m']? = some M' ∧ m2 = m' ∧ a = (S.take k).reverse ∧ F = (pc + 3, L, S.drop k, H) ∧ pm_rk M' < pm_rk M ∧ k ≤ S.length ∧ pi_cats (S.drop k) ≤ 8 ∧ (pi_l0 (S.take k).reverse).length ≤ pm_ml M' := by
  unfold pi_cl1 at h
  split at h
  · cases h
  next M' hM =>
    obtain ⟨hq, h1⟩ := pi_g_spec h
    rw [Bool.and_eq_true, Bool.and_eq_true, Bool.and_eq_true, decide_eq_true_eq, decide_eq_true_eq, decide_eq_true_eq, decide_eq_true_eq] at hq
    cases h1
    exact ⟨M', hM, rfl, rfl, rfl, hq.1.1.1, hq.1.1.2, hq.1.2, hq.2⟩
/-- a call of an own method: which, and what the tables know of it -/
theorem pi_call_spec {i : Instr} {len pc : Nat} {L : pi_L} {S : List Value} {H : pi_H} {m2 : Nat} {a : List Value} {F : pi_F} (h : pi_ins M i len pc L S H = some (.inr (.inr (m2, a, F)))) : ∃ ix n kd k M', len = 3 ∧ pi_mlk.lookup (pm_ow M, ix) = some (m2, n, kd) ∧ pi_tab[m2]? = some M' ∧
    ((i = .invokevirtual ix ∧ kd = 0 ∧ k = n + 1 ∧ pi_rcv m2 H S[n]? = true) ∨ (i = .invokestatic ix ∧ (kd = 1 ∨ kd = 3) ∧ k = n) ∨ (i = .invokespecial ix ∧ (kd = 2 ∨ kd = 4) ∧ k = n + 1 ∧ pi_rcd S[n]? = true)) ∧
    a = (S.take k).reverse ∧ F = (pc + 3, L, S.drop k, H) ∧ pm_rk M' < pm_rk M ∧ k ≤ S.length ∧ pi_cats (S.drop k) ≤ 8 ∧ (pi_l0 (S.take k).reverse).length ≤ pm_ml M' := by
  have go : ∀ {pc : Nat} {L : pi_L} {S : List Value} {H' : pi_H}, pi_go pc L S H' = some (.inr (.inr (m2, a, F))) → False := fun h => by
    unfold pi_go at h
    cases h
  rcases pi_ins_inl h with ⟨ix, rfl | rfl | rfl⟩ | rfl | rfl | rfl | rfl
  · have h9 := pi_g_spec h
    have hb := eq_of_beq h9.1
    subst hb
    replace h := h9.2
    clear h9
    unfold pi_inv at h
    split at h
    next m' n kd hl =>
      simp only [Bool.false_eq_true, if_false] at h
      split at h
      · obtain ⟨hr, h1⟩ := pi_g_spec h
        obtain ⟨M', q1, rfl, q2⟩ := pi_cl1_spec h1
        exact ⟨ix, n, 2, n + 1, M', rfl, hl, q1, Or.inr (Or.inr ⟨rfl, Or.inl rfl, rfl, hr⟩), q2⟩
      · obtain ⟨hr, h1⟩ := pi_g_spec h
        obtain ⟨M', q1, rfl, q2⟩ := pi_cl1_spec h1
        exact ⟨ix, n, 4, n + 1, M', rfl, hl, q1, Or.inr (Or.inr ⟨rfl, Or.inr rfl, rfl, hr⟩), q2⟩
      · split at h
        · exact (go (pi_g_spec h).2).elim
        · cases h
      · cases h
    next => cases h
  · have h9 := pi_g_spec h
    have hb := eq_of_beq h9.1
    subst hb
    replace h := h9.2
    clear h9
    unfold pi_ivs at h
    split at h
    next m' n kd hl =>
      split at h
      · obtain ⟨M', q1, rfl, q2⟩ := pi_cl1_spec h
        exact ⟨ix, n, 1, n, M', rfl, hl, q1, Or.inr (Or.inl ⟨rfl, Or.inl rfl, rfl⟩), q2⟩
      · obtain ⟨M', q1, rfl, q2⟩ := pi_cl1_spec h
        exact ⟨ix, n, 3, n, M', rfl, hl, q1, Or.inr (Or.inl ⟨rfl, Or.inr rfl, rfl⟩), q2⟩
      · split at h
        · split at h
          · exact (go (pi_g_spec h).2).elim
          · cases h
        · cases h
      · cases h
    next => cases h
  · have h9 := pi_g_spec h
    have hb := eq_of_beq h9.1
    subst hb
    replace h := h9.2
    clear h9
    unfold pi_inv at h
    split at h
    next m' n kd hl =>
      obtain ⟨hr, h1⟩ := pi_g_spec h
      rw [Bool.and_eq_true, beq_iff_eq] at hr
      obtain ⟨rfl, hr⟩ := hr
      obtain ⟨M', q1, rfl, q2⟩ := pi_cl1_spec h1
      exact ⟨ix, n, 0, n + 1, M', rfl, hl, q1, Or.inl ⟨rfl, rfl, rfl, hr⟩, q2⟩
    next => cases h
  · have h := (pi_g_spec h).2
    split at h
    · have h := (pi_g_spec h).2
      cases h
    · cases h
  · have h := (pi_g_spec h).2
    split at h <;> cases h
  · have h := (pi_g_spec h).2
    split at h <;> cases h
  · have h := (pi_g_spec h).2
    split at h <;> cases h
end PII
