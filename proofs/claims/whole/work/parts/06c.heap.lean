-- PART 06c: fields, arrays, new cells
theorem pi_cl_at {ci : Nat} {C : String} {T : u_T} {N : Nat} (h : pi_cl[ci]? = some (C, T, N)) : (∀ w ∈ u_ws C T N, w ∈ lw_tbl ∧ goodWord w = true) ∧ (∃ ty0 : Nat → FieldType, ∀ k, k < N → parseFieldDescriptor (T k).2.2.1 = some (ty0 k)) ∧ (∀ a, a < N → ∀ b, b < N → a ≠ b → (T a).2.1 ≠ (T b).2.1) := by
  have h0 := List.all_eq_true.mp pi_cl_ok _ (List.mem_of_getElem? h)
  unfold pi_clc at h0
  rw [Bool.and_eq_true, Bool.and_eq_true] at h0
  obtain ⟨h1, h2, h3⟩ := h0
  refine ⟨fun w hw => pi_t_in (List.all_eq_true.mp h1 w hw), ⟨fun k => (parseFieldDescriptor (T k).2.2.1).getD .int, fun k hk => ?_⟩, fun a ha b hb hab => ?_⟩
  · have := List.all_eq_true.mp h2 k (List.mem_range.mpr hk)
    cases hq : parseFieldDescriptor (T k).2.2.1 with
    | none => rw [hq] at this; cases this
    | some y => show some y = some ((parseFieldDescriptor (T k).2.2.1).getD .int); rw [hq]; rfl
  · have := List.all_eq_true.mp (List.all_eq_true.mp h3 a (List.mem_range.mpr ha)) b (List.mem_range.mpr hb)
    rw [Bool.or_eq_true, beq_iff_eq, decide_eq_true_eq] at this
    exact this.resolve_left hab
theorem pi_lk_mem {α β : Type} [BEq α] [LawfulBEq α] {l : List (α × β)} {a : α} {b : β} (h : l.lookup a = some b) : (a, b) ∈ l := by
  induction l with
  | nil => cases h
  | cons q l ih =>
    obtain ⟨x, y⟩ := q
    rw [List.lookup_cons] at h
    split at h
    next hq =>
      have := eq_of_beq hq
      cases h
      rw [this]
      exact List.mem_cons_self
    next => exact List.mem_cons_of_mem _ (ih h)
section PIH
variable {g : pi_G} {p : Program} {l : Launch} {e : Env} {R : Room} {s : State} {m : MethodId} {args : Array Value} {below : List Frame} {meth : Method} {c : Code} {Q : State → Prop} {M : pi_M} {n0 z0 : Nat}
theorem pi_dyn_at {H : pi_H} {Hp : Heap} {a : Nat} {x : pi_E} (r1 : pi_R g H Hp) (E : pi_Env g s) (h : pi_get H a = some x) (hd : pi_dyn x = true) : a < H.2.1 ∧ a < 1000000 ∧ va_at g.1 pi_cl (pi_B g + a, pi_te g x) Hp := by
  rcases r1.2.2 a x h with ⟨h1, -, h3⟩ | h1
  · exact ⟨h1, Nat.lt_of_lt_of_le h1 r1.2.1, h3⟩
  · exfalso
    rcases (E.2.2.2.2.2.2.2.2.2.2.1 a x h1).2 with ⟨n, f, a', e1, -⟩ | ⟨n, f, a', e1, -⟩ | ⟨v, a', av, e1, -⟩ <;> (subst e1; revert hd; simp [pi_dyn])
theorem pi_sta_at {H : pi_H} {Hp : Heap} {a : Nat} {x : pi_E} (r1 : pi_R g H Hp) (E : pi_Env g s) (h : pi_get H a = some x) (hd : pi_dyn x = false) : 1000000 ≤ a ∧ pi_sat g a x s := by
  rcases r1.2.2 a x h with ⟨-, h2, -⟩ | h1
  · rw [h2] at hd; cases hd
  · exact E.2.2.2.2.2.2.2.2.2.2.1 a x h1
theorem pi_tys_at {g : pi_G} : ∀ t, t < 6 → (pi_tysA g)[t]? = some (g.2.1 t, (pi_tys[t]?).getD .int) := by
  intro t ht
  match t, ht with
  | 0, _ => rfl
  | 1, _ => rfl
  | 2, _ => rfl
  | 3, _ => rfl
  | 4, _ => rfl
  | 5, _ => rfl
theorem pi_n_getfield {ix len pc : Nat} {L : pi_L} {S : List Value} {H : pi_H} {F : pi_F} (C : pi_C g p R s m args meth c M n0) (hd : decode (pm_by M) pc = .ok (.getfield ix, len)) (h : pi_ins M (.getfield ix) len pc L S H = some (.inl F))
    (kk : pi_W g p l e R s m args below meth c Q M n0 z0 F) : pi_W g p l e R s m args below meth c Q M n0 z0 (pc, L, S, H) := by
  have h0 := pi_g_spec h
  clear h
  obtain ⟨hb, h⟩ := h0
  rw [beq_iff_eq] at hb
  subst hb
  split at h
  next a r ci k fin tc hfl =>
    have hq := List.all_eq_true.mp pi_flk_ok _ (pi_lk_mem hfl)
    obtain ⟨hx, hbb, hml, ⟨own, ho1, ho2⟩, hts, hE, hin, hrt, hlk, hfr, hlo, hsz⟩ := id C
    unfold pi_flc at hq
    dsimp only at hq
    rw [ho1] at hq
    dsimp only at hq
    cases hg : pi_get H a with
    | none => rw [hg] at h; cases h
    | some x =>
      rw [hg] at h
      cases x with
      | inl z => cases h
      | inr o =>
        obtain ⟨c', fs⟩ := o
        unfold pi_ld1 pi_fv at h
        dsimp only at h
        split at h
        next v hv =>
          split at hv
          next hc =>
            have hc := eq_of_beq hc
            subst hc
            obtain rfl := pi_go_spec h
            intro Hp ls locs cells slots r1 r2 r3 r4 r5 r6
            have k1 := kk Hp ls locs cells slots r1 r2 r3 r4 r5 r6
            cases hcl : pi_cl[c']? with
            | some y =>
              obtain ⟨Cn, T, N⟩ := y
              rw [hcl] at hq
              dsimp only at hq
              rw [Bool.and_eq_true, Bool.and_eq_true, decide_eq_true_eq] at hq
              obtain ⟨hk, hw, -⟩ := hq
              obtain ⟨w1, w2⟩ := pi_t_in hw
              have hdy : pi_dyn (.inr (c', fs)) = true := by
                have : c' < pi_cl.length := (List.getElem?_eq_some_iff.mp hcl).1
                exact decide_eq_true this
              obtain ⟨d1, d2, d3⟩ := pi_dyn_at r1 hE hg hdy
              show W p l e R s m args below meth c Hp locs cells slots Q (F0 m pc ls (pi_tv g (.ref a) :: r.map (pi_tv g)))
              rw [pi_tv_dyn d2]
              obtain ⟨q1, -⟩ := pi_cl_at hcl
              exact va_get (D := g.1) (ci := c') (v := pi_tv g v) (C := Cn) (T := T) (N := N) (Ts := u_ws Cn T N) hx hbb (fun w hw => hts w (q1 w hw).1 (q1 w hw).2) (fun w hw => hw) ho2 hE.1 (pi_P1 d3) 0 rfl hcl k hk (hts _ w1 w2) (fun _ h9 => h9) (by rw [List.getElem?_map, hv]; rfl) hd k1
            | none =>
              rw [hcl] at hq
              dsimp only at hq
              rw [Bool.and_eq_true, beq_iff_eq] at hq
              obtain ⟨rfl, hq⟩ := hq
              obtain ⟨s1, s2⟩ := pi_sta_at r1 hE hg rfl
              rcases s2 with ⟨_, _, _, e1, -⟩ | ⟨_, _, _, e1, -⟩ | ⟨w, a', av, e1, e2, e3, e4, e5, e6, e7⟩
              · cases e1
              · cases e1
              cases e1
              show W p l e R s m args below meth c Hp locs cells slots Q (F0 m pc ls (pi_tv g (.ref a) :: r.map (pi_tv g)))
              rw [pi_tv_st s1 e2]
              rw [Bool.or_eq_true, Bool.and_eq_true, Bool.and_eq_true, beq_iff_eq, beq_iff_eq] at hq
              rcases hq with ⟨rfl, hq⟩ | ⟨rfl, hq⟩
              · obtain ⟨w1, w2⟩ := pi_t_in hq
                cases hv
                have k2 : W p l e R s m args below meth c Hp locs cells slots Q (F0 m (pc + 3) ls (pi_tv g (.ref w) :: r.map (pi_tv g))) := k1
                rw [pi_tv_st e3 e4] at k2
                exact vk_getf hx hbb e6 r4 ho2 (hts _ w1 w2) (fun _ h9 => h9) hd k2
              · obtain ⟨w1, w2⟩ := pi_t_in hq
                cases hv
                exact vk_getf hx hbb e7 r4 ho2 (hts _ w1 w2) (fun _ h9 => h9) hd k1
          next => cases hv
        next => cases h
  next => cases h
/-- putfield on the machine, final or not: the new cell, the rest as it was -/
theorem pi_putK {H : Heap} {locs : List Loc} {cells slots : Nat} {cc : ByteArray} {pc index : Nat} {ls : Array Slot} {rest : List Value} (hexec : p.tables.exec = Jvm.exec) (hb : c.code = cc) {own C : String} {T : u_T} {N ci : Nat} {D : va_G} {tys : List (ClassId × FieldType)} (hts : ∀ w ∈ u_ws C T N, w.before args s = true) (ty0 : Nat → FieldType) (hty : ∀ k, k < N → parseFieldDescriptor (T k).2.2.1 = some (ty0 k)) (hnm : ∀ a, a < N → ∀ b, b < N → a ≠ b → (T a).2.1 ≠ (T b).2.1) (hown : s.vm.findClass own = some m.cls) (hK : va_K D pi_cl tys s) {a : Nat} {fs : List Value} (hP : va_at D pi_cl (a, .inr (ci, fs)) H) (hc : pi_cl[ci]? = some (C, T, N)) (k : Nat) (hk : k < N) (hlink : (Cond.fieldLink own index (T k).1 (T k).2.1 (T k).2.2.1).before args s = true)
    (hfin : (T k).2.2.2 = true → meth.name = "<init>" ∧ (T k).1 = own) {ty : FieldType} {v : Value} (hd : parseFieldDescriptor (T k).2.2.1 = some ty) (hn : narrow ty v = v) (hfit : fits ty v = true) (hl : k < fs.length)
    (hdg : decode cc pc = .ok (.putfield index, 3)) (kk : ∀ (H1 : Heap) (i : Nat), va_at D pi_cl (a, .inr (ci, fs.set k v)) H1 → H1.size = H.size → (∀ q : Nat, q ≠ a → H1[q]? = H[q]?) → W p l e R s m args below meth c H1 (locs ++ [⟨a, i⟩]) cells slots Q (F0 m (pc + 3) ls rest)) : W p l e R s m args below meth c H locs cells slots Q (F0 m pc ls (v :: .ref a :: rest)) := by
  have hap := va_apart (own := own) (Ts := u_ws C T N) hts (fun w hw => hw) ty0 hty hnm hK hc
  obtain ⟨r, h1, cell, q1, q2, q3, q4⟩ := hP
  have hr : r = (C, T, N) := Option.some.inj (h1.symm.trans hc)
  subst hr
  obtain ⟨hS, hfc, kC, hkC, hkind⟩ := hK.1 ci _ hc
  obtain ⟨cf, kf, fi, f, hi, hsl⟩ := hS k hk
  have hlay := hts _ (u_in_lay hk)
  have hst := (u_facts hfc hkC (u_lays (ws := u_ws C T N) hts (fun w hw => hw) hk) hi).1
  by_cases hz : (T k).2.2.2 = true
  · obtain ⟨hin2, hdecl⟩ := hfin hz
    unfold u_lay at hlay
    rw [if_pos hz] at hlay
    have hcf : m.cls = cf := by
      obtain ⟨_, _, c', _, _, _, -, -, hf', -, -, -, hown2, -⟩ := Cond.laysFinal_spec hlay
      have e1 : c' = cf := by have := hi.symm.trans hf'; simp at this; exact this.1.symm
      rw [hdecl] at hown2
      rw [← e1]; exact Option.some.inj (hown.symm.trans hown2)
    have h6 := u_fits hfc hkC hkind (Or.inr hlay) hi hd hn hfit
    refine W.putFinK hexec hb hown hlink hi hst hcf hin2 (by rw [q2]; exact h6) q1 q3 (by rw [hsl]; exact k2_hasslot (q4 k hk)) rfl rfl hdg fun H' e1 e2 e3 => ?_
    rw [hsl] at e1 ⊢
    exact kk H' _ ⟨_, hc, t_OB.to (V := updV (vp_V fs) k v) ⟨_, e1, q2, q3, t_set q4 hap hk v⟩ (fun j _ => vp_updV_set hl v j)⟩ e2 e3
  · unfold u_lay at hlay
    rw [if_neg hz] at hlay
    have h6 := u_store hfc hkC hkind hlay hi hd hn hfit
    refine W.putK hexec hb (f := f) ⟨hown, hlink, ⟨_, _, _, hi⟩, hst⟩ (by rw [q2]; exact h6) q1 q3 (by rw [hsl]; exact k2_hasslot (q4 k hk)) rfl rfl hdg fun H' e1 e2 e3 => ?_
    rw [hsl] at e1 ⊢
    exact kk H' _ ⟨_, hc, t_OB.to (V := updV (vp_V fs) k v) ⟨_, e1, q2, q3, t_set q4 hap hk v⟩ (fun j _ => vp_updV_set hl v j)⟩ e2 e3
theorem pi_tv_fits {g : pi_G} {k : Nat} {ty : FieldType} (h : (∃ n, ty = .object n) ∨ ∃ n, ty = .array n) : narrow ty (pi_tv g (.ref k)) = pi_tv g (.ref k) ∧ fits ty (pi_tv g (.ref k)) = true := by
  have hv : (∃ b, pi_tv g (.ref k) = .ref b) ∨ pi_tv g (.ref k) = .null := by
    unfold pi_tv
    dsimp only
    split
    · exact Or.inl ⟨_, rfl⟩
    · unfold va_rf
      split
      · exact Or.inr rfl
      · exact Or.inl ⟨_, rfl⟩
  rcases hv with ⟨b, hb⟩ | hb <;> rw [hb] <;> rcases h with ⟨n, rfl⟩ | ⟨n, rfl⟩ <;> exact ⟨rfl, rfl⟩
theorem pi_okv_ty {tc : Nat} {d : String} {v : Value} (h1 : pi_tck tc d = true) (h2 : pi_okv tc v = true) : ∃ ty, parseFieldDescriptor d = some ty ∧ narrow ty (pi_tv g v) = pi_tv g v ∧ fits ty (pi_tv g v) = true := by
  unfold pi_tck at h1
  split at h1
  next e1 =>
    rw [beq_iff_eq] at h1
    subst h1
    cases v <;> first | (cases h2; done) | exact ⟨_, e1, rfl, rfl⟩
  next e1 =>
    rw [beq_iff_eq] at h1
    subst h1
    cases v <;> first | (cases h2; done) | exact ⟨_, e1, rfl, rfl⟩
  next e1 =>
    rw [beq_iff_eq] at h1
    subst h1
    cases v <;> first | (cases h2; done) | skip
    rename_i x
    have h2 : (decide (x = 0) || decide (x = 1)) = true := h2
    rw [Bool.or_eq_true, decide_eq_true_eq, decide_eq_true_eq] at h2
    have e2 : narrow .boolean (.int x) = .int x ∧ fits .boolean (.int x) = true := by
      rcases h2 with rfl | rfl <;> decide +kernel
    exact ⟨_, e1, e2.1, e2.2⟩
  next nm e1 =>
    rw [beq_iff_eq] at h1
    subst h1
    cases v <;> first | (cases h2; done) | skip
    exact ⟨_, e1, pi_tv_fits (Or.inl ⟨_, rfl⟩)⟩
  next nm e1 =>
    rw [beq_iff_eq] at h1
    subst h1
    cases v <;> first | (cases h2; done) | skip
    exact ⟨_, e1, pi_tv_fits (Or.inr ⟨_, rfl⟩)⟩
  next => cases h1
theorem pi_dynA (q : Nat) : pi_A g (pi_B g + q) := Nat.le_add_right _ _
theorem pi_n_putfield {ix len pc : Nat} {L : pi_L} {S : List Value} {H : pi_H} {F : pi_F} (C : pi_C g p R s m args meth c M n0) (hd : decode (pm_by M) pc = .ok (.putfield ix, len)) (h : pi_ins M (.putfield ix) len pc L S H = some (.inl F))
    (kk : pi_W g p l e R s m args below meth c Q M n0 z0 F) : pi_W g p l e R s m args below meth c Q M n0 z0 (pc, L, S, H) := by
  have h0 := pi_g_spec h
  clear h
  obtain ⟨hb, h⟩ := h0
  rw [beq_iff_eq] at hb
  subst hb
  split at h
  next v a r ci k fin tc hfl =>
    have hq := List.all_eq_true.mp pi_flk_ok _ (pi_lk_mem hfl)
    obtain ⟨hx, hbb, hml, ⟨own, ho1, ho2⟩, hts, hE, hin, hrt, hlk, hfr, hlo, hsz⟩ := id C
    unfold pi_flc at hq
    dsimp only at hq
    rw [ho1] at hq
    dsimp only at hq
    have h0 := pi_g_spec h
    clear h
    obtain ⟨hb, h⟩ := h0
    rw [Bool.and_eq_true] at hb
    obtain ⟨hok, hfi⟩ := hb
    cases hpf : pi_pf H a ci k v with
    | none => rw [hpf] at h; cases h
    | some H' =>
      rw [hpf] at h
      obtain rfl := pi_go_spec h
      unfold pi_pf at hpf
      split at hpf
      next c' fs hg =>
        split at hpf
        next hc =>
          cases hpf
          rw [Bool.and_eq_true, Bool.and_eq_true, beq_iff_eq, decide_eq_true_eq, decide_eq_true_eq] at hc
          obtain ⟨⟨rfl, hk1⟩, hc6⟩ := hc
          intro Hp ls locs cells slots r1 r2 r3 r4 r5 r6
          cases hcl : pi_cl[c']? with
          | none =>
            have : pi_cl.length ≤ c' := List.getElem?_eq_none_iff.mp hcl
            have e6 : pi_cl.length = 6 := rfl
            omega
          | some y =>
            obtain ⟨Cn, T, N⟩ := y
            rw [hcl] at hq
            dsimp only at hq
            rw [Bool.and_eq_true, Bool.and_eq_true, Bool.and_eq_true, Bool.and_eq_true, decide_eq_true_eq] at hq
            obtain ⟨hk, hw, hf1, hf2, htk⟩ := hq
            obtain ⟨w1, w2⟩ := pi_t_in hw
            have hdy : pi_dyn (.inr (c', fs)) = true := decide_eq_true hc6
            obtain ⟨d1, d2, d3⟩ := pi_dyn_at r1 hE hg hdy
            obtain ⟨q1, ⟨ty0, q2⟩, q3⟩ := pi_cl_at hcl
            obtain ⟨ty, t1, t2, t3⟩ := pi_okv_ty (g := g) htk hok
            show W p l e R s m args below meth c Hp locs cells slots Q (F0 m pc ls (pi_tv g v :: pi_tv g (.ref a) :: r.map (pi_tv g)))
            rw [pi_tv_dyn d2]
            refine pi_putK (D := g.1) hx hbb (fun w hw => hts w (q1 w hw).1 (q1 w hw).2) ty0 q2 q3 ho2 hE.1 d3 hcl k hk (hts _ w1 w2) (fun hz => ?_) t1 t2 t3 (by rw [List.length_map]; exact hk1) hd (fun H1 i k1 k2 k3 => ?_)
            · rw [hz] at hf2
              have hf : fin = true := by rw [eq_of_beq hf1]; exact hz
              rw [hf] at hfi
              exact ⟨hin (by simpa using hfi), by simpa using hf2⟩
            · refine kk H1 ls _ cells slots (pi_te_at r1 d1 hdy k2 k3 ?_) r2 r3 (r4.put k2 k3 (pi_dynA a)) r5 r6
              show va_at g.1 pi_cl (pi_B g + a, .inr (c', (fs.set k v).map (pi_tv g))) H1
              rw [List.map_set]
              exact k1
        next => cases hpf
      next => cases hpf
  next => cases h
end PIH
