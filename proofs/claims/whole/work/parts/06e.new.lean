-- PART 06e: new cells, constants, the dispatcher of what stays in the frame
section PIE2
variable {g : pi_G} {p : Program} {l : Launch} {e : Env} {R : Room} {s : State} {m : MethodId} {args : Array Value} {below : List Frame} {meth : Method} {c : Code} {Q : State → Prop} {M : pi_M} {n0 z0 : Nat}
theorem pi_S_new {Hp H1 : Heap} {locs : List Loc} {k : Nat} (h : va_S (pi_A g) s.heap Hp locs) (z : H1.size = Hp.size + k) (ho : ∀ q : Nat, q < Hp.size → H1[q]? = Hp[q]?) : va_S (pi_A g) s.heap H1 locs :=
  ⟨Nat.le_trans h.1 (by omega), fun q h1 h2 => (ho q (Nat.lt_of_lt_of_le h1 h.1)).trans (h.2.1 q h1 h2), h.2.2⟩
theorem pi_n_new {ix len pc : Nat} {L : pi_L} {S : List Value} {H : pi_H} {F : pi_F} (C : pi_C g p R s m args meth c M n0) (hd : decode (pm_by M) pc = .ok (.new ix, len)) (h : pi_ins M (.new ix) len pc L S H = some (.inl F)) (hb1 : F.2.2.2.2.1 ≤ n0 + R.cells) (hb2 : F.2.2.2.2.2 ≤ z0 + R.slots)
    (kk : pi_W g p l e R s m args below meth c Q M n0 z0 F) : pi_W g p l e R s m args below meth c Q M n0 z0 (pc, L, S, H) := by
  have h0 := pi_g_spec h
  clear h
  obtain ⟨hb, h⟩ := h0
  rw [beq_iff_eq] at hb
  subst hb
  obtain ⟨hx, hbb, hml, ⟨own, ho1, ho2⟩, hts, hE, -⟩ := id C
  split at h
  next ci hci =>
    split at h
    next fs hfs =>
      have h0 := pi_g_spec h
      clear h
      obtain ⟨hb, h⟩ := h0
      rw [decide_eq_true_eq] at hb
      obtain rfl := pi_go_spec h
      have hq := List.all_eq_true.mp pi_nlk_ok _ (pi_lk_mem hci)
      unfold pi_nlc at hq
      dsimp only at hq
      rw [ho1, hfs] at hq
      cases hcl : pi_cl[ci]? with
      | none => rw [hcl] at hq; cases hq
      | some y =>
        obtain ⟨Cn, T, N⟩ := y
        rw [hcl] at hq
        dsimp only at hq
        rw [Bool.and_eq_true, Bool.and_eq_true, Bool.and_eq_true, Bool.and_eq_true, decide_eq_true_eq] at hq
        obtain ⟨w1, w2, w3, hN, hdf⟩ := hq
        subst hN
        intro Hp ls locs cells slots r1 r2 r3 r4 r5 r6
        obtain ⟨q1, ⟨ty0, q2⟩, q3⟩ := pi_cl_at hcl
        have hci6 : ci < 6 := (List.getElem?_eq_some_iff.mp hcl).1
        have hdy : pi_dyn (.inr (ci, fs)) = true := decide_eq_true hci6
        have hKn := hE.1.1 ci _ hcl
        have b1 : H.2.1 + 1 ≤ n0 + R.cells := hb1
        have b2 : H.2.2 + fs.length ≤ z0 + R.slots := hb2
        have r5' : H.2.1 = n0 + cells := r5
        have r6' : H.2.2 = z0 + slots := r6
        refine W.newcK hx hbb ho2 (hts _ (pi_t_in w1).1 (pi_t_in w1).2) (hts _ (pi_t_in w2).1 (pi_t_in w2).2) (hts _ (pi_t_in w3).1 (pi_t_in w3).2) rfl hd (by omega) (by omega) hKn.2.1 r1.1 fun H1 kC hkC e1 z1 o1 => ?_
        have z1' : H1.size = Hp.size + 1 := by rw [z1, r1.1]
        have o1' : ∀ q : Nat, q < Hp.size → H1[q]? = Hp[q]? := fun q hq => o1 q (by rw [← r1.1]; exact hq)
        have hat : va_at g.1 pi_cl (pi_B g + H.2.1, pi_te g (.inr (ci, fs))) H1 := by
          refine ⟨_, hcl, (u_born (ws := u_ws Cn T fs.length) ty0 (fun w hw => hts w (q1 w hw).1 (q1 w hw).2) (fun w hw => hw) hKn hkC e1 q2).to fun j hj => ?_⟩
          have hj2 := List.all_eq_true.mp hdf j (List.mem_range.mpr hj)
          rw [decide_eq_true_eq, q2 j hj, Option.map_some] at hj2
          rw [Option.some.inj hj2]
          show vp_V fs j = vp_V (fs.map (pi_tv g)) j
          have hj3 : ∃ d, fs[j]? = some d ∧ pi_tv g d = d := by
            have hd0 : defaultValue (ty0 j) = vp_V fs j := Option.some.inj hj2
            refine ⟨fs[j], List.getElem?_eq_getElem hj, ?_⟩
            have hv : vp_V fs j = fs[j] := by simp [vp_V, hj]
            rw [← hv, ← hd0]
            cases ty0 j <;> rfl
          obtain ⟨d, hd1, hd2⟩ := hj3
          simp only [vp_V, List.getD_eq_getElem?_getD, List.getElem?_map, hd1, Option.map_some, Option.getD_some, hd2]
        have k1 := kk H1 ls locs (cells + 1) (slots + fs.length) (pi_te_new r1 hb hdy z1' o1' hat) r2 r3 (pi_S_new r4 z1' o1') (by show H.2.1 + 1 = _; omega) (by show H.2.2 + fs.length = _; omega)
        have e2 : pi_tv g (.ref H.2.1) = .ref (pi_B g + H.2.1) := pi_tv_dyn hb
        have k2 : W p l e R s m args below meth c H1 locs (cells + 1) (slots + fs.length) Q (F0 m (pc + 3) ls (pi_tv g (.ref H.2.1) :: S.map (pi_tv g))) := k1
        rw [e2] at k2
        exact k2
    next => cases h
  next => cases h
theorem pi_zer_spec {t n : Nat} {z : vp_A} (h : pi_zer t n = some z) : z.1 = n ∧ t < 6 ∧ pi_te g (.inl (t, z)) = .inl (g.2.1 t, z) ∧ vp_cell (g.2.1 t) z = arrV (g.2.1 t) n (fun _ => defaultValue ((pi_tys[t]?).getD .int)) := by
  unfold pi_zer at h
  split at h
  · cases h; exact ⟨rfl, by decide, rfl, rfl⟩
  · cases h; exact ⟨rfl, by decide, rfl, rfl⟩
  · cases h; exact ⟨rfl, by decide, rfl, rfl⟩
  · cases h
theorem pi_cls_uq {g : pi_G} (hE : pi_Env g s) {t : Nat} (ht : t < 6) {cA : ClassId} (hn : ∀ C, (pi_tys[t]?).getD .int ≠ .object C) (h : s.vm.findClass ("[" ++ ((pi_tys[t]?).getD .int).toString) = some cA) : cA = g.2.1 t := by
  have h2 := (hE.1.2 t _ (pi_tys_at t ht)).2
  have h3 : s.vm.findClass ("[" ++ ((pi_tys[t]?).getD .int).toString) = some (g.2.1 t) := by
    revert h2 hn
    generalize (pi_tys[t]?).getD .int = ty
    intro hn h2
    cases ty <;> first | exact h2 | exact absurd rfl (hn _)
  exact Option.some.inj (h.symm.trans h3)
theorem pi_n_newarray {at_ : ArrayType} {len pc : Nat} {L : pi_L} {S : List Value} {H : pi_H} {F : pi_F} (C : pi_C g p R s m args meth c M n0) (hd : decode (pm_by M) pc = .ok (.newarray at_, len)) (h : pi_ins M (.newarray at_) len pc L S H = some (.inl F)) (hb1 : F.2.2.2.2.1 ≤ n0 + R.cells) (hb2 : F.2.2.2.2.2 ≤ z0 + R.slots)
    (kk : pi_W g p l e R s m args below meth c Q M n0 z0 F) : pi_W g p l e R s m args below meth c Q M n0 z0 (pc, L, S, H) := by
  have h0 := pi_g_spec h
  clear h
  obtain ⟨hb, h⟩ := h0
  rw [beq_iff_eq] at hb
  subst hb
  obtain ⟨hx, hbb, hml, -, hts, hE, -⟩ := id C
  split at h
  next n r =>
    split at h
    next z hz =>
      have h0 := pi_g_spec h
      clear h
      obtain ⟨hb, h⟩ := h0
      rw [Bool.and_eq_true, Bool.and_eq_true, Bool.not_eq_true', decide_eq_false_iff_not, decide_eq_true_eq, decide_eq_true_eq] at hb
      obtain ⟨⟨hn, hn2⟩, hl⟩ := hb
      obtain rfl := pi_go_spec h
      intro Hp ls locs cells slots r1 r2 r3 r4 r5 r6
      obtain ⟨y1, y2, y3, y4⟩ := pi_zer_spec (g := g) hz
      have b1 : H.2.1 + 1 ≤ n0 + R.cells := hb1
      have b2 : H.2.2 + n.toNatClampNeg ≤ z0 + R.slots := hb2
      have r5' : H.2.1 = n0 + cells := r5
      have r6' : H.2.2 = z0 + slots := r6
      have hty : (Cond.arrayClass (newarray.typeOf at_)).before args s = true ∧ newarray.typeOf at_ = (pi_tys[pi_aty at_]?).getD .int ∧ ∀ C, newarray.typeOf at_ ≠ .object C := by
        have ha := pi_arr_ok
        rw [Bool.and_eq_true, Bool.and_eq_true] at ha
        cases at_ <;> first | (simp [pi_zer, pi_aty] at hz; done) | exact ⟨hts _ (pi_t_in ha.1).1 (pi_t_in ha.1).2, rfl, fun _ q => by cases q⟩ | exact ⟨hts _ (pi_t_in ha.2.1).1 (pi_t_in ha.2.1).2, rfl, fun _ q => by cases q⟩ | exact ⟨hts _ (pi_t_in ha.2.2).1 (pi_t_in ha.2.2).2, rfl, fun _ q => by cases q⟩
      obtain ⟨t1, t2, t3⟩ := hty
      refine va_newaK hx hbb t1 rfl hd rfl hn rfl (by have : componentBytes (newarray.typeOf at_) ≤ 8 := by (cases at_ <;> decide)
                                                      have := Nat.mul_le_mul hn2 this; omega) (by omega) (by omega) r1.1 fun H1 cA e1 z1 o1 hAr hNm => ?_
      have z1' : H1.size = Hp.size + 1 := by rw [z1, r1.1]
      have o1' : ∀ q : Nat, q < Hp.size → H1[q]? = Hp[q]? := fun q hq => o1 q (by rw [← r1.1]; exact hq)
      have hcA : cA = g.2.1 (pi_aty at_) := pi_cls_uq hE y2 (by rw [← t2]; exact t3) (by rw [← t2]; exact hNm)
      subst hcA
      have hat : va_at g.1 pi_cl (pi_B g + H.2.1, pi_te g (.inl (pi_aty at_, z))) H1 := by
        rw [y3]
        show H1[pi_B g + H.2.1]? = some (vp_cell _ z)
        rw [y4, e1, t2]
      have k2 : W p l e R s m args below meth c H1 locs (cells + 1) (slots + n.toNatClampNeg) Q (F0 m (pc + 2) ls (pi_tv g (.ref H.2.1) :: r.map (pi_tv g))) := kk H1 ls locs (cells + 1) (slots + n.toNatClampNeg) (pi_te_new r1 hl (decide_eq_true y2) z1' o1' hat) r2 r3 (pi_S_new r4 z1' o1') (by show H.2.1 + 1 = _; omega) (by show H.2.2 + n.toNatClampNeg = _; omega)
      rw [pi_tv_dyn hl] at k2
      exact k2
    next => cases h
  next => cases h
theorem pi_n_anew {ix len pc : Nat} {L : pi_L} {S : List Value} {H : pi_H} {F : pi_F} (C : pi_C g p R s m args meth c M n0) (hd : decode (pm_by M) pc = .ok (.anewarray ix, len)) (h : pi_ins M (.anewarray ix) len pc L S H = some (.inl F)) (hb1 : F.2.2.2.2.1 ≤ n0 + R.cells) (hb2 : F.2.2.2.2.2 ≤ z0 + R.slots)
    (kk : pi_W g p l e R s m args below meth c Q M n0 z0 F) : pi_W g p l e R s m args below meth c Q M n0 z0 (pc, L, S, H) := by
  have h0 := pi_g_spec h
  clear h
  obtain ⟨hb, h⟩ := h0
  rw [beq_iff_eq] at hb
  subst hb
  obtain ⟨hx, hbb, hml, ⟨own, ho1, ho2⟩, hts, hE, -⟩ := id C
  split at h
  next n r hal =>
    have h0 := pi_g_spec h
    clear h
    obtain ⟨hb, h⟩ := h0
    rw [Bool.and_eq_true, Bool.and_eq_true, Bool.not_eq_true', decide_eq_false_iff_not, decide_eq_true_eq, decide_eq_true_eq] at hb
    obtain ⟨⟨hn, hn2⟩, hl⟩ := hb
    obtain rfl := pi_go_spec h
    have hq := List.all_eq_true.mp pi_alk_ok _ (pi_lk_mem hal)
    unfold pi_alc at hq
    dsimp only at hq
    rw [ho1] at hq
    obtain ⟨w1, w2⟩ := pi_t_in hq
    intro Hp ls locs cells slots r1 r2 r3 r4 r5 r6
    have b1 : H.2.1 + 1 ≤ n0 + R.cells := hb1
    have b2 : H.2.2 + n.toNatClampNeg ≤ z0 + R.slots := hb2
    have r5' : H.2.1 = n0 + cells := r5
    have r6' : H.2.2 = z0 + slots := r6
    refine W.anew hx hbb ho2 (hts _ w1 w2) (va_AO.use hE.2.2.2.1) rfl hd rfl hn (by omega) (by omega) (by omega) fun cA kA comp f1 f2 f3 f4 => ?_
    generalize hH1 : Hp.push ({ cls := cA, slots := Array.replicate n.toNatClampNeg .null, vm := .none } : Cell) = H1
    have z1 : H1.size = Hp.size + 1 := by rw [← hH1, Array.size_push]
    have e1 : H1[Hp.size]? = some (arrV cA n.toNatClampNeg (fun _ => .null)) := by rw [← hH1, Array.getElem?_push_size, ← arrV_new]
    have o1 : ∀ q : Nat, q < Hp.size → H1[q]? = Hp[q]? := fun q hq => by rw [← hH1, Array.getElem?_push, if_neg (Nat.ne_of_lt hq)]
    obtain ⟨kA', comp', -, -, -, h4⟩ := (hE.1.2 3 _ rfl).2
    have hcA : cA = g.2.1 3 := Option.some.inj (f1.symm.trans h4)
    subst hcA
    have hat : va_at g.1 pi_cl (pi_B g + H.2.1, pi_te g (.inl (3, n.toNatClampNeg, .inr (.inr (.inr (.inr (fun _ => none))))))) H1 := by
      show H1[pi_B g + H.2.1]? = some (vp_cell _ _)
      rw [← r1.1, e1]
      rfl
    have k2 : W p l e R s m args below meth c H1 locs (cells + 1) (slots + n.toNatClampNeg) Q (F0 m (pc + 3) ls (pi_tv g (.ref H.2.1) :: r.map (pi_tv g))) := kk H1 ls locs (cells + 1) (slots + n.toNatClampNeg) (pi_te_new r1 hl rfl z1 o1 hat) r2 r3 (pi_S_new r4 z1 o1) (by show H.2.1 + 1 = _; omega) (by show H.2.2 + n.toNatClampNeg = _; omega)
    rw [pi_tv_dyn hl, ← r1.1] at k2
    exact k2
  next => cases h
theorem pi_R_mul {H : pi_H} {Hp H1 : Heap} {t ti N : Nat} {z : vp_A} (r1 : pi_R g H Hp) (hl : H.2.1 + 1 + N < 1000000) (ht : t = 4 ∨ t = 5) (hti : ti < 6) (hz : H1.size = Hp.size + 1 + N) (ho : ∀ q, q < Hp.size → H1[q]? = Hp[q]?)
    (h1 : H1[Hp.size]? = some (vp_cell (g.2.1 t) (N, .inr (.inr (.inr (.inr (fun i => if i < N then some (Hp.size + 1 + i) else none))))))) (hte : pi_te g (.inl (ti, z)) = .inl (g.2.1 ti, z)) (h2 : ∀ j, j < N → H1[Hp.size + 1 + j]? = some (vp_cell (g.2.1 ti) z)) : pi_R g (pi_mul H t ti N z) H1 := by
  have hs : Hp.size = pi_B g + H.2.1 := r1.1
  refine ⟨by rw [hz, hs]; show _ = pi_B g + (H.2.1 + 1 + N); omega, Nat.le_of_lt hl, fun k x hk => ?_⟩
  have hk : (if k = H.2.1 then some (Sum.inl (t, N, .inr (.inr (.inr (.inr (fun i => if i < N then some (H.2.1 + 1 + i) else none)))))) else if H.2.1 < k ∧ k ≤ H.2.1 + N then some (Sum.inl (ti, z)) else H.1 k) = some x := hk
  by_cases q : k = H.2.1
  · rw [if_pos q] at hk
    cases hk
    refine Or.inl ⟨by show k < H.2.1 + 1 + N; omega, ?_, ?_⟩
    · rcases ht with rfl | rfl <;> rfl
    · show H1[pi_B g + k]? = some (vp_cell (g.2.1 t) _)
      rw [q, ← hs, h1]
      have e : ((fun i => if i < N then some (Hp.size + 1 + i) else none) : Nat → Option Nat) = fun i => Option.map (fun k => pi_B g + k) (if i < N then some (H.2.1 + 1 + i) else none) := by
        funext i
        by_cases z : i < N
        · rw [if_pos z, if_pos z, Option.map_some]; congr 1; omega
        · rw [if_neg z, if_neg z]; rfl
      rw [e]
  · rw [if_neg q] at hk
    by_cases q2 : H.2.1 < k ∧ k ≤ H.2.1 + N
    · rw [if_pos q2] at hk
      cases hk
      refine Or.inl ⟨by show k < H.2.1 + 1 + N; omega, decide_eq_true hti, ?_⟩
      rw [hte]
      show H1[pi_B g + k]? = some (vp_cell (g.2.1 ti) z)
      rw [← h2 (k - H.2.1 - 1) (by omega)]
      congr 1
      omega
    · rw [if_neg q2] at hk
      rcases r1.2.2 k x hk with ⟨a1, a2, a3⟩ | a1
      · exact Or.inl ⟨by show k < H.2.1 + 1 + N; omega, a2, a3.kept (ho _ a3.lt)⟩
      · exact Or.inr a1
theorem pi_n_mul {ix dm len pc : Nat} {L : pi_L} {S : List Value} {H : pi_H} {F : pi_F} (C : pi_C g p R s m args meth c M n0) (hd : decode (pm_by M) pc = .ok (.multianewarray ix dm, len)) (h : pi_ins M (.multianewarray ix dm) len pc L S H = some (.inl F)) (hb1 : F.2.2.2.2.1 ≤ n0 + R.cells) (hb2 : F.2.2.2.2.2 ≤ z0 + R.slots)
    (kk : pi_W g p l e R s m args below meth c Q M n0 z0 F) : pi_W g p l e R s m args below meth c Q M n0 z0 (pc, L, S, H) := by
  have h0 := pi_g_spec h
  clear h
  obtain ⟨hb, h⟩ := h0
  rw [Bool.and_eq_true, beq_iff_eq, beq_iff_eq] at hb
  obtain ⟨rfl, rfl⟩ := hb
  obtain ⟨hx, hbb, hml, ⟨own, ho1, ho2⟩, hts, hE, -⟩ := id C
  split at h
  next k n r t0 hal =>
    split at h
    next t ti hmf =>
      split at h
      next z hz =>
        have h0 := pi_g_spec h
        clear h
        obtain ⟨hb, h⟩ := h0
        rw [Bool.and_eq_true, Bool.and_eq_true, Bool.and_eq_true, Bool.and_eq_true, Bool.not_eq_true', Bool.not_eq_true', decide_eq_false_iff_not, decide_eq_false_iff_not, decide_eq_true_eq, decide_eq_true_eq, decide_eq_true_eq] at hb
        obtain ⟨⟨⟨⟨hn, hk⟩, hn2⟩, hk2⟩, hl⟩ := hb
        obtain rfl := pi_go_spec h
        obtain ⟨y1, y2, y3, y4⟩ := pi_zer_spec (g := g) hz
        have hq := List.all_eq_true.mp pi_alk_ok _ (pi_lk_mem hal)
        unfold pi_alc at hq
        dsimp only at hq
        rw [ho1] at hq
        have ha := pi_arr_ok
        rw [Bool.and_eq_true, Bool.and_eq_true] at ha
        intro Hp ls locs cells slots r1 r2 r3 r4 r5 r6
        have b1 : H.2.1 + 1 + n.toNatClampNeg ≤ n0 + R.cells := hb1
        have b2 : H.2.2 + n.toNatClampNeg + n.toNatClampNeg * z.1 ≤ z0 + R.slots := hb2
        rw [y1] at b2
        have r5' : H.2.1 = n0 + cells := r5
        have r6' : H.2.2 = z0 + slots := r6
        have fin : ∀ (H1 : Heap), pi_R g (pi_mul H t ti n.toNatClampNeg z) H1 → H1.size = Hp.size + 1 + n.toNatClampNeg → (∀ q, q < Hp.size → H1[q]? = Hp[q]?) → W p l e R s m args below meth c H1 locs (cells + 1 + n.toNatClampNeg) (slots + n.toNatClampNeg + n.toNatClampNeg * k.toNatClampNeg) Q (F0 m (pc + 4) ls (.ref Hp.size :: r.map (pi_tv g))) := by
          intro H1 g1 g2 g3
          have k2 : W p l e R s m args below meth c H1 locs (cells + 1 + n.toNatClampNeg) (slots + n.toNatClampNeg + n.toNatClampNeg * k.toNatClampNeg) Q (F0 m (pc + 4) ls (pi_tv g (.ref H.2.1) :: r.map (pi_tv g))) := kk H1 ls locs _ _ g1 r2 r3 (pi_S_new (k := 1 + n.toNatClampNeg) r4 (by omega) g3) (by show H.2.1 + 1 + n.toNatClampNeg = _; omega) (by show H.2.2 + n.toNatClampNeg + n.toNatClampNeg * z.1 = _; rw [y1]; omega)
          rw [pi_tv_dyn (by omega), ← r1.1] at k2
          exact k2
        unfold pi_mfit at hmf
        split at hmf
        · cases hmf
          obtain ⟨w1, w2⟩ := pi_t_in hq
          refine pi_mnaK (ty := .int) hx hbb ho2 (hts _ w1 w2) hE.2.2.2.2.1 (hts _ (pi_t_in ha.1).1 (pi_t_in ha.1).2) hn hk (by omega) (by show _ * 4 ≤ _; omega) (by omega) rfl rfl (by omega) (by omega) hd fun H1 cA cy f1 f2 f3 f4 f5 f6 => ?_
          have e1 : cA = g.2.1 4 := pi_cls_uq hE (t := 4) (by decide) (fun C q => by cases q) f1
          have e2 : cy = g.2.1 0 := pi_cls_uq hE (t := 0) (by decide) (fun C q => by cases q) f2
          subst e1; subst e2
          exact fin H1 (pi_R_mul r1 hl (Or.inl rfl) (by decide) f3 f4 f5 y3 (fun j hj => by rw [f6 j hj, y4]; rfl)) f3 f4
        · cases hmf
          obtain ⟨w1, w2⟩ := pi_t_in hq
          refine pi_mnaK (ty := .long) hx hbb ho2 (hts _ w1 w2) hE.2.2.2.2.2.1 (hts _ (pi_t_in ha.2.2).1 (pi_t_in ha.2.2).2) hn hk (by omega) (by show _ * 8 ≤ _; omega) (by omega) rfl rfl (by omega) (by omega) hd fun H1 cA cy f1 f2 f3 f4 f5 f6 => ?_
          have e1 : cA = g.2.1 5 := pi_cls_uq hE (t := 5) (by decide) (fun C q => by cases q) f1
          have e2 : cy = g.2.1 2 := pi_cls_uq hE (t := 2) (by decide) (fun C q => by cases q) f2
          subst e1; subst e2
          exact fin H1 (pi_R_mul r1 hl (Or.inr rfl) (by decide) f3 f4 f5 y3 (fun j hj => by rw [f6 j hj, y4]; rfl)) f3 f4
        · cases hmf
      next => cases h
    next => cases h
  next => cases h
end PIE2
