-- PART 06d: arrays, new cells, constants
section PIA
variable {g : pi_G} {p : Program} {l : Launch} {e : Env} {R : Room} {s : State} {m : MethodId} {args : Array Value} {below : List Frame} {meth : Method} {c : Code} {Q : State → Prop} {M : pi_M} {n0 z0 : Nat}
theorem pi_alx_spec {S S' : List Value} {H : pi_H} {kd : Nat} (h : pi_alx S H kd = some S') : ∃ i a r v, S = .int i :: .ref a :: r ∧ pi_al (pi_get H a) i kd = some v ∧ S' = v :: r := by
  unfold pi_alx at h
  split at h
  next i a r =>
    split at h
    next v hv => cases h; exact ⟨i, a, r, v, rfl, hv, rfl⟩
    next => cases h
  next => cases h
theorem pi_al_spec {o : Option pi_E} {i : Int32} {kd : Nat} {v : Value} (h : pi_al o i kd = some v) :
    (∃ t n f, o = some (.inl (t, n, .inl f)) ∧ pi_in i n = true ∧ v = .int (f i.toNatClampNeg) ∧ ((kd = 0 ∧ (t = 0 ∨ t = 10)) ∨ (kd = 1 ∧ t = 1) ∨ (kd = 2 ∧ t = 11))) ∨
    (∃ t n f, o = some (.inl (t, n, .inr (.inl f))) ∧ pi_in i n = true ∧ v = .long (f i.toNatClampNeg) ∧ kd = 3 ∧ t = 2) ∨
    (∃ t n f k, o = some (.inl (t, n, .inr (.inr (.inr (.inr f))))) ∧ pi_in i n = true ∧ v = .ref k ∧ f i.toNatClampNeg = some k ∧ k < 1000000 ∧ kd = 4 ∧ (t = 3 ∨ t = 4 ∨ t = 5)) := by
  unfold pi_al at h
  split at h
  next t n f =>
    refine Or.inl ⟨t, n, f, rfl, ?_⟩
    split at h
    next hi =>
      split at h
      next =>
        split at h
        next q => cases h; rw [Bool.or_eq_true, beq_iff_eq, beq_iff_eq] at q; exact ⟨hi, rfl, Or.inl ⟨rfl, q⟩⟩
        next => cases h
      next =>
        split at h
        next q => cases h; rw [beq_iff_eq] at q; exact ⟨hi, rfl, Or.inr (Or.inl ⟨rfl, q⟩)⟩
        next => cases h
      next =>
        split at h
        next q => cases h; rw [beq_iff_eq] at q; exact ⟨hi, rfl, Or.inr (Or.inr ⟨rfl, q⟩)⟩
        next => cases h
      next => cases h
    next => cases h
  next t n f =>
    split at h
    next q =>
      cases h
      rw [Bool.and_eq_true, Bool.and_eq_true, beq_iff_eq, beq_iff_eq] at q
      exact Or.inr (Or.inl ⟨t, n, f, rfl, q.1.1, rfl, q.2, q.1.2⟩)
    next => cases h
  next t n f =>
    split at h
    next q =>
      rw [Bool.and_eq_true, Bool.and_eq_true, beq_iff_eq, Bool.or_eq_true, Bool.or_eq_true, beq_iff_eq, beq_iff_eq, beq_iff_eq] at q
      split at h
      next k hk =>
        split at h
        next hl =>
          cases h
          refine Or.inr (Or.inr ⟨t, n, f, k, rfl, q.1.1, rfl, hk, hl, q.2, ?_⟩)
          rcases q.1.2 with (z | z) | z
          · exact Or.inl z
          · exact Or.inr (Or.inl z)
          · exact Or.inr (Or.inr z)
        next => cases h
      next => cases h
    next => cases h
  next => cases h
/-- aaload off an array of arrays or objects -/
theorem pi_aald {H : Heap} {locs : List Loc} {cells slots : Nat} {cc : ByteArray} {pc : Nat} {ls : Array Slot} {rest : List Value} (hexec : p.tables.exec = Jvm.exec) (hb : c.code = cc) {cA : ClassId} {ty : FieldType} {n a : Nat} {f : Nat → Option Nat} (hA : ArrOfT s cA ty) (hr : ty.isReference = true) (ha : H[a]? = some (vp_cell cA (n, .inr (.inr (.inr (.inr f)))))) {i : Int32} (hin : vp_in i n) (hdg : decode cc pc = .ok (.aaload, 1))
    (kk : W p l e R s m args below meth c H locs cells slots Q (F0 m (pc + 1) ls (va_rf (f i.toNatClampNeg) :: rest))) : W p l e R s m args below meth c H locs cells slots Q (F0 m pc ls (.int i :: .ref a :: rest)) := by
  have hlt : i.toNatClampNeg < n := Nat.not_le.mp fun q => hin (Or.inr q)
  exact W.aald (v := va_rf (f i.toNatClampNeg)) (ty := ty) hexec hb ha (hA n (fun j => va_rf (f j))) hr (fun q => by cases q) (by show ¬ (i < 0 ∨ (arrV _ _ _).slots.size ≤ _); rw [arrV_size]; exact hin) (by show (arrV _ _ _).slots[_]? = _; rw [arrV_read _ _ hlt]) rfl rfl hdg kk
theorem pi_n_al {i : Instr} {len pc kd : Nat} {L : pi_L} {S : List Value} {H : pi_H} {F : pi_F} (C : pi_C g p R s m args meth c M n0) (hd : decode (pm_by M) pc = .ok (i, len)) (hi : (kd = 0 ∧ i = .iaload) ∨ (kd = 1 ∧ i = .caload) ∨ (kd = 2 ∧ i = .baload) ∨ (kd = 3 ∧ i = .laload) ∨ (kd = 4 ∧ i = .aaload)) (h : pi_g (len == 1) (pi_nx (pi_alx S H kd) (pc + 1) L H) = some (.inl F))
    (kk : pi_W g p l e R s m args below meth c Q M n0 z0 F) : pi_W g p l e R s m args below meth c Q M n0 z0 (pc, L, S, H) := by
  have h0 := pi_g_spec h
  clear h
  obtain ⟨hb, h⟩ := h0
  rw [beq_iff_eq] at hb
  subst hb
  obtain ⟨S', h1, rfl⟩ := pi_nx_spec h
  obtain ⟨ix, a, r, v, rfl, h2, rfl⟩ := pi_alx_spec h1
  obtain ⟨hx, hbb, hml, -, hts, hE, -⟩ := id C
  intro Hp ls locs cells slots r1 r2 r3 r4 r5 r6
  have k1 := kk Hp ls locs cells slots r1 r2 r3 r4 r5 r6
  rw [show ((pc + 1, L, v :: r, H) : pi_F).2.2.1.map (pi_tv g) = pi_tv g v :: r.map (pi_tv g) from rfl] at k1
  show W p l e R s m args below meth c Hp locs cells slots Q (F0 m pc ls (.int ix :: pi_tv g (.ref a) :: r.map (pi_tv g)))
  rcases pi_al_spec h2 with ⟨t, n, f, e1, e2, rfl, e4⟩ | ⟨t, n, f, e1, e2, rfl, rfl, rfl⟩ | ⟨t, n, f, k, e1, e2, rfl, e3, e5, rfl, e6⟩
  · have dyn : ∀ t', t = t' → t' < 6 → a < 1000000 ∧ va_at g.1 pi_cl (pi_B g + a, .inl (g.2.1 t, n, .inl f)) Hp := fun t' q1 q2 => by
      obtain ⟨-, d2, d3⟩ := pi_dyn_at r1 hE e1 (by subst q1; exact decide_eq_true q2)
      exact ⟨d2, d3⟩
    rcases e4 with ⟨rfl, rfl | rfl⟩ | ⟨rfl, rfl⟩ | ⟨rfl, rfl⟩
    · obtain ⟨d2, d3⟩ := dyn 0 rfl (by decide)
      rw [pi_tv_dyn d2]
      obtain rfl : i = .iaload := by rcases hi with ⟨-, q⟩ | ⟨q, -⟩ | ⟨q, -⟩ | ⟨q, -⟩ | ⟨q, -⟩ <;> first | exact q | cases q
      exact va_iald (D := g.1) hx hbb hE.1 (pi_P1 d3) 0 0 rfl rfl (pi_in_vp e2) hd k1
    · obtain ⟨d2, d3⟩ := pi_sta_at r1 hE e1 rfl
      obtain rfl : i = .iaload := by rcases hi with ⟨-, q⟩ | ⟨q, -⟩ | ⟨q, -⟩ | ⟨q, -⟩ | ⟨q, -⟩ <;> first | exact q | cases q
      rcases d3 with ⟨n', f', a', q1, q2, q3⟩ | ⟨n', f', a', q1, -⟩ | ⟨w, a', av, q1, -⟩
      · cases q1
        rw [pi_tv_st d2 q2]
        exact va_ti hx hbb q3 r4 (pi_in_vp e2) rfl hd k1
      · cases q1
      · cases q1
    · obtain ⟨d2, d3⟩ := dyn 1 rfl (by decide)
      rw [pi_tv_dyn d2]
      obtain rfl : i = .caload := by rcases hi with ⟨q, -⟩ | ⟨-, q⟩ | ⟨q, -⟩ | ⟨q, -⟩ | ⟨q, -⟩ <;> first | exact q | cases q
      exact va_cald (D := g.1) hx hbb hE.1 (pi_P1 d3) 0 1 rfl rfl (pi_in_vp e2) hd k1
    · obtain ⟨d2, d3⟩ := pi_sta_at r1 hE e1 rfl
      obtain rfl : i = .baload := by rcases hi with ⟨q, -⟩ | ⟨q, -⟩ | ⟨-, q⟩ | ⟨q, -⟩ | ⟨q, -⟩ <;> first | exact q | cases q
      rcases d3 with ⟨n', f', a', q1, -⟩ | ⟨n', f', a', q1, q2, q3⟩ | ⟨w, a', av, q1, -⟩
      · cases q1
      · cases q1
        rw [pi_tv_st d2 q2]
        exact va_tb hx hbb q3 r4 (pi_in_vp e2) rfl hd k1
      · cases q1
  · obtain ⟨-, d2, d3⟩ := pi_dyn_at r1 hE e1 rfl
    rw [pi_tv_dyn d2]
    obtain rfl : i = .laload := by rcases hi with ⟨q, -⟩ | ⟨q, -⟩ | ⟨q, -⟩ | ⟨-, q⟩ | ⟨q, -⟩ <;> first | exact q | cases q
    exact va_lald (D := g.1) hx hbb hE.1 (pi_P1 d3) 0 2 rfl rfl (pi_in_vp e2) hd k1
  · obtain rfl : i = .aaload := by rcases hi with ⟨q, -⟩ | ⟨q, -⟩ | ⟨q, -⟩ | ⟨q, -⟩ | ⟨-, q⟩ <;> first | exact q | cases q
    have ht6 : t < 6 := by omega
    obtain ⟨-, d2, d3⟩ := pi_dyn_at r1 hE e1 (decide_eq_true ht6)
    rw [pi_tv_dyn d2]
    rw [pi_tv_dyn e5] at k1
    have k2 := hE.1.2 t _ (pi_tys_at t ht6)
    refine pi_aald hx hbb k2.1 (by rcases e6 with rfl | rfl | rfl <;> rfl) d3 (pi_in_vp e2) hd ?_
    rw [e3]
    exact k1
theorem pi_asx_spec {S : List Value} {H : pi_H} {kd pc : Nat} {L : pi_L} {F : pi_F} (h : pi_asx S H kd pc L = some (.inl F)) : ∃ v i a r H', S = v :: .int i :: .ref a :: r ∧ pi_as H a i v kd = some H' ∧ F = (pc, L, r, H') := by
  unfold pi_asx at h
  split at h
  next v i a r =>
    split at h
    next H' hv => exact ⟨v, i, a, r, H', rfl, hv, pi_go_spec h⟩
    next => cases h
  next => cases h
theorem pi_as_spec {H H' : pi_H} {a : Nat} {i : Int32} {kd : Nat} {v : Value} (h : pi_as H a i v kd = some H') :
    (∃ t n f x, pi_get H a = some (.inl (t, n, .inl f)) ∧ v = .int x ∧ pi_in i n = true ∧ ((kd = 0 ∧ t = 0 ∧ H' = pi_set H a (.inl (t, n, .inl (upd f i.toNatClampNeg x)))) ∨ (kd = 1 ∧ t = 1 ∧ H' = pi_set H a (.inl (t, n, .inl (upd f i.toNatClampNeg (vp_nar .char x))))))) ∨
    (∃ t n f x, pi_get H a = some (.inl (t, n, .inr (.inl f))) ∧ v = .long x ∧ pi_in i n = true ∧ kd = 3 ∧ t = 2 ∧ H' = pi_set H a (.inl (t, n, .inr (.inl (vp_updL f i.toNatClampNeg x))))) ∨
    (∃ t n f x, pi_get H a = some (.inl (t, n, .inr (.inr (.inr (.inr f))))) ∧ v = .ref x ∧ pi_in i n = true ∧ kd = 4 ∧ t = 3 ∧ pi_isO (pi_get H x) 3 = true ∧ H' = pi_set H a (.inl (t, n, .inr (.inr (.inr (.inr (va_up f i.toNatClampNeg (some x)))))))) := by
  unfold pi_as at h
  split at h
  next t n f x hg =>
    refine Or.inl ⟨t, n, f, x, hg, rfl, ?_⟩
    split at h
    next hi =>
      split at h
      next =>
        split at h
        next q => cases h; rw [beq_iff_eq] at q; exact ⟨hi, Or.inl ⟨rfl, q, rfl⟩⟩
        next => cases h
      next =>
        split at h
        next q => cases h; rw [beq_iff_eq] at q; exact ⟨hi, Or.inr ⟨rfl, q, rfl⟩⟩
        next => cases h
      next => cases h
    next => cases h
  next t n f x hg =>
    split at h
    next q =>
      cases h
      rw [Bool.and_eq_true, Bool.and_eq_true, beq_iff_eq, beq_iff_eq] at q
      exact Or.inr (Or.inl ⟨t, n, f, x, hg, rfl, q.1.1, q.2, q.1.2, rfl⟩)
    next => cases h
  next t n f x hg =>
    split at h
    next q =>
      cases h
      rw [Bool.and_eq_true, Bool.and_eq_true, Bool.and_eq_true, beq_iff_eq, beq_iff_eq] at q
      exact Or.inr (Or.inr ⟨t, n, f, x, hg, rfl, q.1.1.1, q.1.2, q.1.1.2, q.2, rfl⟩)
    next => cases h
  next => cases h
theorem pi_st_i (cA : ClassId) (n j : Nat) (f : Nat → Int32) (x : Int32) : some ((vp_cell cA (n, .inl f)).setSlot j (.int x)) = some (vp_cell cA (n, .inl (upd f j x))) := by
  show some ((arrV cA n (fun k => .int (f k))).setSlot j (.int x)) = some (arrV cA n (fun k => .int (upd f j x k)))
  rw [arrV_store]
  congr 2
  funext q
  by_cases hq : q = j <;> simp [updV, upd, hq]
theorem pi_st_c (cA : ClassId) (n j : Nat) (f : Nat → Int32) (x : Int32) : some ((vp_cell cA (n, .inl f)).setSlot j (narrow .char (.int x))) = some (vp_cell cA (n, .inl (upd f j (vp_nar .char x)))) := pi_st_i cA n j f (vp_nar .char x)
theorem pi_st_l (cA : ClassId) (n j : Nat) (f : Nat → Int64) (x : Int64) : some ((vp_cell cA (n, .inr (.inl f))).setSlot j (.long x)) = some (vp_cell cA (n, .inr (.inl (vp_updL f j x)))) := by
  show some ((arrV cA n (fun k => .long (f k))).setSlot j (.long x)) = some (arrV cA n (fun k => .long (vp_updL f j x k)))
  rw [arrV_store]
  congr 2
  funext q
  by_cases hq : q = j <;> simp [updV, vp_updL, hq]
theorem pi_st_q (cA : ClassId) (n j b : Nat) (f : Nat → Option Nat) (x : Nat) : some ((vp_cell cA (n, .inr (.inr (.inr (.inr (fun i => (f i).map (fun k => b + k))))))).setSlot j (.ref (b + x))) = some (vp_cell cA (n, .inr (.inr (.inr (.inr (fun i => (va_up f j (some x) i).map (fun k => b + k))))))) := by
  show some ((arrV cA n (fun k => va_rf ((f k).map (fun k => b + k)))).setSlot j (.ref (b + x))) = some (arrV cA n (fun k => va_rf ((va_up f j (some x) k).map (fun k => b + k))))
  rw [arrV_store]
  congr 2
  funext q
  by_cases hq : q = j
  · subst hq
    simp [updV, va_up, va_rf]
  · simp [updV, va_up, hq]
theorem pi_n_as {i : Instr} {len pc kd : Nat} {L : pi_L} {S : List Value} {H : pi_H} {F : pi_F} (C : pi_C g p R s m args meth c M n0) (hd : decode (pm_by M) pc = .ok (i, len)) (hi : (kd = 0 ∧ i = .iastore) ∨ (kd = 1 ∧ i = .castore) ∨ (kd = 3 ∧ i = .lastore) ∨ (kd = 4 ∧ i = .aastore)) (h : pi_g (len == 1) (pi_asx S H kd (pc + 1) L) = some (.inl F))
    (kk : pi_W g p l e R s m args below meth c Q M n0 z0 F) : pi_W g p l e R s m args below meth c Q M n0 z0 (pc, L, S, H) := by
  have h0 := pi_g_spec h
  clear h
  obtain ⟨hb, h⟩ := h0
  rw [beq_iff_eq] at hb
  subst hb
  obtain ⟨v, ix, a, r, H', rfl, h2, rfl⟩ := pi_asx_spec h
  obtain ⟨hx, hbb, hml, -, hts, hE, -⟩ := id C
  intro Hp ls locs cells slots r1 r2 r3 r4 r5 r6
  show W p l e R s m args below meth c Hp locs cells slots Q (F0 m pc ls (pi_tv g v :: .int ix :: pi_tv g (.ref a) :: r.map (pi_tv g)))
  rcases pi_as_spec h2 with ⟨t, n, f, x, e1, rfl, e2, e3⟩ | ⟨t, n, f, x, e1, rfl, e2, rfl, rfl, rfl⟩ | ⟨t, n, f, x, e1, rfl, e2, rfl, rfl, e4, rfl⟩
  · rcases e3 with ⟨rfl, rfl, rfl⟩ | ⟨rfl, rfl, rfl⟩
    · obtain ⟨d1, d2, d3⟩ := pi_dyn_at r1 hE e1 rfl
      rw [pi_tv_dyn d2]
      obtain rfl : i = .iastore := by rcases hi with ⟨-, q⟩ | ⟨q, -⟩ | ⟨q, -⟩ | ⟨q, -⟩ <;> first | exact q | cases q
      refine W.iast hx hbb d3 ((hE.1.2 0 _ rfl).1 n (fun j => .int (f j))) (fun q => by cases q) (by show ¬ (ix < 0 ∨ (arrV _ _ _).slots.size ≤ _); rw [arrV_size]; exact pi_in_vp e2) rfl rfl hd fun H1 q1 q2 q3 => ?_
      refine kk H1 ls _ cells slots (pi_te_at r1 d1 rfl q2 q3 ?_) r2 r3 (r4.put q2 q3 (pi_dynA a)) r5 r6
      exact q1.trans (pi_st_i _ _ _ _ _)
    · obtain ⟨d1, d2, d3⟩ := pi_dyn_at r1 hE e1 rfl
      rw [pi_tv_dyn d2]
      obtain rfl : i = .castore := by rcases hi with ⟨q, -⟩ | ⟨-, q⟩ | ⟨q, -⟩ | ⟨q, -⟩ <;> first | exact q | cases q
      refine W.cast hx hbb d3 ((hE.1.2 1 _ rfl).1 n (fun j => .int (f j))) (fun q => by cases q) (by show ¬ (ix < 0 ∨ (arrV _ _ _).slots.size ≤ _); rw [arrV_size]; exact pi_in_vp e2) rfl rfl hd fun H1 q1 q2 q3 => ?_
      refine kk H1 ls _ cells slots (pi_te_at r1 d1 rfl q2 q3 ?_) r2 r3 (r4.put q2 q3 (pi_dynA a)) r5 r6
      exact q1.trans (pi_st_c _ _ _ _ _)
  · obtain ⟨d1, d2, d3⟩ := pi_dyn_at r1 hE e1 rfl
    rw [pi_tv_dyn d2]
    obtain rfl : i = .lastore := by rcases hi with ⟨q, -⟩ | ⟨q, -⟩ | ⟨-, q⟩ | ⟨q, -⟩ <;> first | exact q | cases q
    refine W.last hx hbb d3 ((hE.1.2 2 _ rfl).1 n (fun j => .long (f j))) (fun q => by cases q) (by show ¬ (ix < 0 ∨ (arrV _ _ _).slots.size ≤ _); rw [arrV_size]; exact pi_in_vp e2) rfl rfl hd fun H1 q1 q2 q3 => ?_
    refine kk H1 ls _ cells slots (pi_te_at r1 d1 rfl q2 q3 ?_) r2 r3 (r4.put q2 q3 (pi_dynA a)) r5 r6
    exact q1.trans (pi_st_l _ _ _ _ _)
  · obtain ⟨d1, d2, d3⟩ := pi_dyn_at r1 hE e1 rfl
    rw [pi_tv_dyn d2]
    obtain rfl : i = .aastore := by rcases hi with ⟨q, -⟩ | ⟨q, -⟩ | ⟨q, -⟩ | ⟨-, q⟩ <;> first | exact q | cases q
    cases hgx : pi_get H x with
    | none => rw [hgx] at e4; cases e4
    | some y =>
      rw [hgx] at e4
      cases y with
      | inl z => cases e4
      | inr o =>
        obtain ⟨ci, vs⟩ := o
        have e4 : ci = 3 := eq_of_beq e4
        subst e4
        obtain ⟨x1, x2, x3⟩ := pi_dyn_at r1 hE hgx rfl
        rw [pi_tv_dyn x2]
        obtain ⟨r', hr', cellV, g1, g2, g3, -⟩ := x3
        have hr' : r' = ("OrderLevels$Shop", pt_T3, 14) := (Option.some.inj hr').symm
        subst hr'
        have hcls := (hE.1.1 3 _ rfl).2
        obtain ⟨kA, comp, k1, k2, k3, -⟩ := (hE.1.2 3 _ rfl).2
        have hcomp : comp = g.1.1 3 := Option.some.inj (k3.symm.trans hcls.1)
        subst hcomp
        obtain ⟨kC, hkC, -⟩ := hcls.2
        have hvp := pi_in_vp e2
        refine W.aast hx hbb d3 (fun q h => by cases h) (fun h => by cases h) k1 k2 rfl hkC ⟨fun q => hvp (Or.inl q), by show _ < (arrV _ _ _).slots.size; rw [arrV_size]; exact Nat.not_le.mp fun q => hvp (Or.inr q)⟩ g1 (fun q h => by rw [g3] at h; cases h) (by rw [g2]; exact hkC) (by rw [g2]; exact va_assign hcls) rfl rfl hd fun H1 q1 q2 q3 => ?_
        refine kk H1 ls _ cells slots (pi_te_at r1 d1 rfl q2 q3 ?_) r2 r3 (r4.put q2 q3 (pi_dynA a)) r5 r6
        exact q1.trans (pi_st_q _ _ _ _ _ _)
theorem pi_n_len {len pc : Nat} {L : pi_L} {S : List Value} {H : pi_H} {F : pi_F} (C : pi_C g p R s m args meth c M n0) (hd : decode (pm_by M) pc = .ok (.arraylength, len)) (h : pi_ins M .arraylength len pc L S H = some (.inl F))
    (kk : pi_W g p l e R s m args below meth c Q M n0 z0 F) : pi_W g p l e R s m args below meth c Q M n0 z0 (pc, L, S, H) := by
  have h0 := pi_g_spec h
  clear h
  obtain ⟨hb, h⟩ := h0
  rw [beq_iff_eq] at hb
  subst hb
  obtain ⟨hx, hbb, hml, -, hts, hE, -⟩ := id C
  split at h
  next a r =>
    split at h
    next n hn =>
      obtain rfl := pi_go_spec h
      intro Hp ls locs cells slots r1 r2 r3 r4 r5 r6
      have k1 := kk Hp ls locs cells slots r1 r2 r3 r4 r5 r6
      show W p l e R s m args below meth c Hp locs cells slots Q (F0 m pc ls (pi_tv g (.ref a) :: r.map (pi_tv g)))
      unfold pi_len at hn
      split at hn
      next t n' z hg =>
        cases hn
        cases hdy : pi_dyn (.inl (t, n, z)) with
        | true =>
          obtain ⟨d1, d2, d3⟩ := pi_dyn_at r1 hE hg hdy
          rw [pi_tv_dyn d2]
          have ht : t < 6 := of_decide_eq_true hdy
          have d4 : ∃ z' : (Nat → Int32) ⊕ (Nat → Int64) ⊕ (Nat → UInt32) ⊕ (Nat → UInt64) ⊕ (Nat → Option Nat), va_at g.1 pi_cl (pi_B g + a, .inl (g.2.1 t, (n, z'))) Hp := by
            rcases z with f | f | f | f | f
            · exact ⟨_, d3⟩
            · exact ⟨_, d3⟩
            · exact ⟨_, d3⟩
            · exact ⟨_, d3⟩
            · exact ⟨_, d3⟩
          obtain ⟨z', d4⟩ := d4
          exact va_alen (D := g.1) hx hbb hE.1 (pi_P1 d4) 0 t rfl (pi_tys_at t ht) rfl hd k1
        | false =>
          obtain ⟨d2, d3⟩ := pi_sta_at r1 hE hg hdy
          rcases d3 with ⟨n', f', a', q1, q2, q3⟩ | ⟨n', f', a', q1, q2, q3⟩ | ⟨w, a', av, q1, -⟩
          · cases q1
            rw [pi_tv_st d2 q2]
            exact va_tlen hx hbb q3 r4 rfl hd k1
          · cases q1
            rw [pi_tv_st d2 q2]
            exact va_tlen hx hbb q3 r4 rfl hd k1
          · cases q1
      next => cases hn
    next => cases h
  next => cases h
end PIA
