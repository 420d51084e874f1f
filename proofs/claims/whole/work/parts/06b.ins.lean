-- PART 06b: one instruction of the machine as the pure interpreter has it: what stays in the frame
def pi_W (g : pi_G) (p : Program) (l : Launch) (e : Env) (R : Room) (s : State) (m : MethodId) (args : Array Value) (below : List Frame) (meth : Method) (c : Code) (Q : State → Prop) (M : pi_M) (n0 z0 : Nat) (F : pi_F) : Prop :=
  ∀ (Hp : Heap) (ls : Array Slot) (locs : List Loc) (cells slots : Nat), pi_R g F.2.2.2 Hp → lv_has ls (pm_ml M) (pi_lv g F.2.1) → F.2.1.length = pm_ml M → va_S (pi_A g) s.heap Hp locs → F.2.2.2.2.1 = n0 + cells → F.2.2.2.2.2 = z0 + slots → W p l e R s m args below meth c Hp locs cells slots Q (F0 m F.1 ls (F.2.2.1.map (pi_tv g)))
/-- what a method's walk knows from its start on -/
def pi_C (g : pi_G) (p : Program) (R : Room) (s : State) (m : MethodId) (args : Array Value) (meth : Method) (c : Code) (M : pi_M) (n0 : Nat) : Prop :=
  p.tables.exec = Jvm.exec ∧ c.code = pm_by M ∧ c.maxLocals = pm_ml M ∧ (∃ own, pi_own[pm_ow M]? = some own ∧ s.vm.findClass own = some m.cls) ∧ (∀ w ∈ lw_tbl, goodWord w = true → w.before args s = true) ∧ pi_Env g s ∧ (pm_in M = true → meth.name = "<init>") ∧ meth.sig.returnType = pm_rt M ∧ meth.locks = false ∧ pm_rk M ≤ R.frames ∧ 35 * pm_rk M ≤ R.locals ∧ s.heap.size = pi_B g + n0
section PIN
variable {g : pi_G} {p : Program} {l : Launch} {e : Env} {R : Room} {s : State} {m : MethodId} {args : Array Value} {below : List Frame} {meth : Method} {c : Code} {Q : State → Prop} {M : pi_M} {n0 z0 : Nat}
theorem pi_g_spec {b : Bool} {o : pi_O} {x} (h : pi_g b o = some x) : b = true ∧ o = some x := by
  unfold pi_g at h
  split at h
  next q => exact ⟨q, h⟩
  next => cases h
theorem pi_go_spec {pc : Nat} {L : pi_L} {S : List Value} {H : pi_H} {F : pi_F} (h : pi_go pc L S H = some (.inl F)) : F = (pc, L, S, H) := by
  unfold pi_go at h
  cases h
  rfl
theorem pi_gi_spec {pc : Nat} {off : Int} {L : pi_L} {S : List Value} {H : pi_H} {F : pi_F} (h : pi_gi pc off L S H = some (.inl F)) : ∃ tgt : Nat, (pc : Int) + off = (tgt : Int) ∧ F = (tgt, L, S, H) := by
  unfold pi_gi at h
  split at h
  next q => exact ⟨((pc : Int) + off).toNat, by omega, pi_go_spec h⟩
  next => cases h
theorem pi_n_iload {i : Instr} {len k pc w : Nat} {L : pi_L} {S : List Value} {H : pi_H} {F : pi_F} (C : pi_C g p R s m args meth c M n0) (hd : decode (pm_by M) pc = .ok (i, len)) (hi : (i = .iload k ∧ w = 2) ∨ (∃ n : Fin 4, i = .iload_n n ∧ n.val = k ∧ w = 1)) (h : pi_g (len == w && pi_isI (pi_ld L k)) (pi_ld1 (pi_ld L k) (pc + w) L S H) = some (.inl F))
    (kk : pi_W g p l e R s m args below meth c Q M n0 z0 F) : pi_W g p l e R s m args below meth c Q M n0 z0 (pc, L, S, H) := by
  have h0 := pi_g_spec h
  clear h
  obtain ⟨hb, h⟩ := h0
  rw [Bool.and_eq_true, beq_iff_eq] at hb
  obtain ⟨rfl, hb⟩ := hb
  cases hl : pi_ld L k with
  | none => rw [hl] at hb; cases hb
  | some v =>
    rw [hl] at hb h
    cases v <;> first | cases hb | skip
    rename_i x
    obtain rfl := pi_go_spec h
    intro Hp ls locs cells slots r1 r2 r3 r4 r5 r6
    have ha := pi_lv_at r2 hl
    have k1 := kk Hp ls locs cells slots r1 r2 r3 r4 r5 r6
    rcases hi with ⟨rfl, rfl⟩ | ⟨n, rfl, rfl, rfl⟩
    · exact lv_iload C.1 C.2.1 hd ha k1
    · exact lv_iload_n C.1 C.2.1 hd rfl ha k1
theorem pi_n_lload {i : Instr} {len k pc w : Nat} {L : pi_L} {S : List Value} {H : pi_H} {F : pi_F} (C : pi_C g p R s m args meth c M n0) (hd : decode (pm_by M) pc = .ok (i, len)) (hi : (i = .lload k ∧ w = 2) ∨ (∃ n : Fin 4, i = .lload_n n ∧ n.val = k ∧ w = 1)) (h : pi_g (len == w && pi_isJ (pi_ld L k)) (pi_ld1 (pi_ld L k) (pc + w) L S H) = some (.inl F))
    (kk : pi_W g p l e R s m args below meth c Q M n0 z0 F) : pi_W g p l e R s m args below meth c Q M n0 z0 (pc, L, S, H) := by
  have h0 := pi_g_spec h
  clear h
  obtain ⟨hb, h⟩ := h0
  rw [Bool.and_eq_true, beq_iff_eq] at hb
  obtain ⟨rfl, hb⟩ := hb
  cases hl : pi_ld L k with
  | none => rw [hl] at hb; cases hb
  | some v =>
    rw [hl] at hb h
    cases v <;> first | cases hb | skip
    rename_i x
    obtain rfl := pi_go_spec h
    intro Hp ls locs cells slots r1 r2 r3 r4 r5 r6
    have ha := pi_lv_at r2 hl
    have k1 := kk Hp ls locs cells slots r1 r2 r3 r4 r5 r6
    rcases hi with ⟨rfl, rfl⟩ | ⟨n, rfl, rfl, rfl⟩
    · exact lv_lload C.1 C.2.1 hd ha k1
    · exact lv_lload_n C.1 C.2.1 hd rfl ha k1
theorem pi_ref (C : pi_C g p R s m args meth c M n0) {k : Nat} (hk : pi_isA (some (.ref k)) = true) : ∃ a, pi_tv g (.ref k) = .ref a := by
  have hk : k ≠ 1000030 := by simpa [pi_isA] using hk
  by_cases q : k < 1000000
  · exact ⟨_, pi_tv_dyn q⟩
  · obtain ⟨a, ha⟩ := C.2.2.2.2.2.1.2.2.2.2.2.2.2.2.2.2.2 (k - 1000000) (by omega)
    exact ⟨a, pi_tv_st (by omega) ha⟩
theorem pi_n_aload {i : Instr} {len k pc w : Nat} {L : pi_L} {S : List Value} {H : pi_H} {F : pi_F} (C : pi_C g p R s m args meth c M n0) (hd : decode (pm_by M) pc = .ok (i, len)) (hi : (i = .aload k ∧ w = 2) ∨ (∃ n : Fin 4, i = .aload_n n ∧ n.val = k ∧ w = 1)) (h : pi_g (len == w && pi_isA (pi_ld L k)) (pi_ld1 (pi_ld L k) (pc + w) L S H) = some (.inl F))
    (kk : pi_W g p l e R s m args below meth c Q M n0 z0 F) : pi_W g p l e R s m args below meth c Q M n0 z0 (pc, L, S, H) := by
  have h0 := pi_g_spec h
  clear h
  obtain ⟨hb, h⟩ := h0
  rw [Bool.and_eq_true, beq_iff_eq] at hb
  obtain ⟨rfl, hb⟩ := hb
  cases hl : pi_ld L k with
  | none => rw [hl] at hb; cases hb
  | some v =>
    rw [hl] at hb h
    cases v <;> first | cases hb | skip
    rename_i x
    obtain rfl := pi_go_spec h
    intro Hp ls locs cells slots r1 r2 r3 r4 r5 r6
    have ha := pi_lv_at r2 hl
    have k1 := kk Hp ls locs cells slots r1 r2 r3 r4 r5 r6
    obtain ⟨a, ea⟩ := pi_ref (g := g) C hb
    rw [List.map_cons, ea] at k1
    rw [ea] at ha
    rcases hi with ⟨rfl, rfl⟩ | ⟨n, rfl, rfl, rfl⟩
    · exact lv_aload C.1 C.2.1 hd ha k1
    · exact lv_aload_n C.1 C.2.1 hd rfl ha k1
theorem pi_n_istore {i : Instr} {len k pc w : Nat} {L : pi_L} {S : List Value} {H : pi_H} {F : pi_F} (C : pi_C g p R s m args meth c M n0) (hd : decode (pm_by M) pc = .ok (i, len)) (hi : (i = .istore k ∧ w = 2) ∨ (∃ n : Fin 4, i = .istore_n n ∧ n.val = k ∧ w = 1)) (h : pi_g (len == w) (pi_sti M k (pc + w) L S H) = some (.inl F))
    (kk : pi_W g p l e R s m args below meth c Q M n0 z0 F) : pi_W g p l e R s m args below meth c Q M n0 z0 (pc, L, S, H) := by
  have h0 := pi_g_spec h
  clear h
  obtain ⟨hb, h⟩ := h0
  rw [beq_iff_eq] at hb
  subst hb
  unfold pi_sti at h
  split at h
  next x r =>
    obtain ⟨hk, h⟩ := pi_g_spec h
    obtain rfl := pi_go_spec h
    intro Hp ls locs cells slots r1 r2 r3 r4 r5 r6
    have k1 : ∀ ls' : Array Slot, lv_has ls' (pm_ml M) ((k, pi_tv g (.int x)) :: (pi_lv g L).filter (fun q => !(q.1 == k) && !(q.1 + 1 == k && q.2.category == 2))) → W p l e R s m args below meth c Hp locs cells slots Q (F0 m (pc + len) ls' (r.map (pi_tv g))) :=
      fun ls' hl' => kk Hp ls' locs cells slots r1 (pi_lv_s1 hl') (by rw [← r3]; exact pi_s1_len _ _ _) r4 r5 r6
    rcases hi with ⟨rfl, rfl⟩ | ⟨n, rfl, rfl, rfl⟩
    · exact lv_istore C.1 C.2.1 hd r2 (of_decide_eq_true hk) rfl k1
    · exact lv_istore_n C.1 C.2.1 hd rfl r2 (of_decide_eq_true hk) rfl k1
  next => cases h
theorem pi_n_lstore {i : Instr} {len k pc w : Nat} {L : pi_L} {S : List Value} {H : pi_H} {F : pi_F} (C : pi_C g p R s m args meth c M n0) (hd : decode (pm_by M) pc = .ok (i, len)) (hi : (i = .lstore k ∧ w = 2) ∨ (∃ n : Fin 4, i = .lstore_n n ∧ n.val = k ∧ w = 1)) (h : pi_g (len == w) (pi_stl M k (pc + w) L S H) = some (.inl F))
    (kk : pi_W g p l e R s m args below meth c Q M n0 z0 F) : pi_W g p l e R s m args below meth c Q M n0 z0 (pc, L, S, H) := by
  have h0 := pi_g_spec h
  clear h
  obtain ⟨hb, h⟩ := h0
  rw [beq_iff_eq] at hb
  subst hb
  unfold pi_stl at h
  split at h
  next x r =>
    obtain ⟨hk, h⟩ := pi_g_spec h
    obtain rfl := pi_go_spec h
    intro Hp ls locs cells slots r1 r2 r3 r4 r5 r6
    have k1 : ∀ ls' : Array Slot, lv_has ls' (pm_ml M) ((k, pi_tv g (.long x)) :: (pi_lv g L).filter (fun q => !(q.1 == k) && (!(q.1 == k + 1) && !(q.1 + 1 == k && q.2.category == 2)))) → W p l e R s m args below meth c Hp locs cells slots Q (F0 m (pc + len) ls' (r.map (pi_tv g))) :=
      fun ls' hl' => kk Hp ls' locs cells slots r1 (pi_lv_s2 hl') (by rw [← r3]; exact pi_s2_len _ _ _) r4 r5 r6
    rcases hi with ⟨rfl, rfl⟩ | ⟨n, rfl, rfl, rfl⟩
    · exact lv_lstore C.1 C.2.1 hd r2 (of_decide_eq_true hk) rfl k1
    · exact lv_lstore_n C.1 C.2.1 hd rfl r2 (of_decide_eq_true hk) rfl k1
  next => cases h
theorem pi_n_astore {i : Instr} {len k pc w : Nat} {L : pi_L} {S : List Value} {H : pi_H} {F : pi_F} (C : pi_C g p R s m args meth c M n0) (hd : decode (pm_by M) pc = .ok (i, len)) (hi : (i = .astore k ∧ w = 2) ∨ (∃ n : Fin 4, i = .astore_n n ∧ n.val = k ∧ w = 1)) (h : pi_g (len == w) (pi_sta M k (pc + w) L S H) = some (.inl F))
    (kk : pi_W g p l e R s m args below meth c Q M n0 z0 F) : pi_W g p l e R s m args below meth c Q M n0 z0 (pc, L, S, H) := by
  have h0 := pi_g_spec h
  clear h
  obtain ⟨hb, h⟩ := h0
  rw [beq_iff_eq] at hb
  subst hb
  unfold pi_sta at h
  split at h
  next x r =>
    obtain ⟨hk, h⟩ := pi_g_spec h
    rw [Bool.and_eq_true, decide_eq_true_eq] at hk
    obtain ⟨hk, hr⟩ := hk
    obtain rfl := pi_go_spec h
    intro Hp ls locs cells slots r1 r2 r3 r4 r5 r6
    obtain ⟨a, ea⟩ := pi_ref (g := g) (k := x) C hr
    have k1 : ∀ ls' : Array Slot, lv_has ls' (pm_ml M) ((k, .ref a) :: (pi_lv g L).filter (fun q => !(q.1 == k) && !(q.1 + 1 == k && q.2.category == 2))) → W p l e R s m args below meth c Hp locs cells slots Q (F0 m (pc + len) ls' (r.map (pi_tv g))) :=
      fun ls' hl' => kk Hp ls' locs cells slots r1 (pi_lv_s1 (by rw [ea]; exact hl')) (by rw [← r3]; exact pi_s1_len _ _ _) r4 r5 r6
    show W p l e R s m args below meth c Hp locs cells slots Q (F0 m pc ls (pi_tv g (.ref x) :: r.map (pi_tv g)))
    rw [ea]
    rcases hi with ⟨rfl, rfl⟩ | ⟨n, rfl, rfl, rfl⟩
    · exact lv_astore C.1 C.2.1 hd r2 hk rfl k1
    · exact lv_astore_n C.1 C.2.1 hd rfl r2 hk rfl k1
  next => cases h
theorem pi_n_iinc {len k pc : Nat} {n : Int} {L : pi_L} {S : List Value} {H : pi_H} {F : pi_F} (C : pi_C g p R s m args meth c M n0) (hd : decode (pm_by M) pc = .ok (.iinc k n, len)) (h : pi_ins M (.iinc k n) len pc L S H = some (.inl F))
    (kk : pi_W g p l e R s m args below meth c Q M n0 z0 F) : pi_W g p l e R s m args below meth c Q M n0 z0 (pc, L, S, H) := by
  have h0 := pi_g_spec h
  clear h
  obtain ⟨hb, h⟩ := h0
  rw [Bool.and_eq_true, beq_iff_eq, decide_eq_true_eq] at hb
  obtain ⟨rfl, hk⟩ := hb
  split at h
  next x hx =>
    obtain rfl := pi_go_spec h
    intro Hp ls locs cells slots r1 r2 r3 r4 r5 r6
    obtain ⟨j, hj⟩ := List.getElem?_of_mem (pi_lv_mem (q := (k, pi_tv g (.int x))).mpr ⟨_, hx, rfl⟩)
    exact lv_iinc C.1 C.2.1 hd r2 (k := j) hj rfl hk rfl fun ls' hl' => kk Hp ls' locs cells slots r1 (pi_lv_s1 hl') (by rw [← r3]; exact pi_s1_len _ _ _) r4 r5 r6
  next => cases h
/-- instructions that touch the operands alone -/
theorem pi_n_op {len pc : Nat} {L : pi_L} {S S' : List Value} {H : pi_H}
    (row : ∀ (Hp : Heap) (ls : Array Slot) (locs : List Loc) (cells slots : Nat), W p l e R s m args below meth c Hp locs cells slots Q (F0 m (pc + len) ls (S'.map (pi_tv g))) → W p l e R s m args below meth c Hp locs cells slots Q (F0 m pc ls (S.map (pi_tv g))))
    (kk : pi_W g p l e R s m args below meth c Q M n0 z0 (pc + len, L, S', H)) : pi_W g p l e R s m args below meth c Q M n0 z0 (pc, L, S, H) := by
  intro Hp ls locs cells slots r1 r2 r3 r4 r5 r6
  exact row Hp ls locs cells slots (kk Hp ls locs cells slots r1 r2 r3 r4 r5 r6)
theorem pi_iop_spec {S S' : List Value} {f : Int32 → Int32 → Int32} (h : pi_iop S f = some S') : ∃ x y r, S = .int y :: .int x :: r ∧ S' = .int (f x y) :: r := by
  unfold pi_iop at h
  split at h
  next y x r => cases h; exact ⟨x, y, r, rfl, rfl⟩
  next => cases h
theorem pi_lop_spec {S S' : List Value} {f : Int64 → Int64 → Int64} (h : pi_lop S f = some S') : ∃ x y r, S = .long y :: .long x :: r ∧ S' = .long (f x y) :: r := by
  unfold pi_lop at h
  split at h
  next y x r => cases h; exact ⟨x, y, r, rfl, rfl⟩
  next => cases h
theorem pi_nx_spec {S' : Option (List Value)} {pc : Nat} {L : pi_L} {H : pi_H} {F : pi_F} (h : pi_nx S' pc L H = some (.inl F)) : ∃ S, S' = some S ∧ F = (pc, L, S, H) := by
  unfold pi_nx at h
  split at h
  next S => exact ⟨S, rfl, pi_go_spec h⟩
  next => cases h
theorem pi_n_iop {i : Instr} {len pc : Nat} {f : Int32 → Int32 → Int32} {L : pi_L} {S : List Value} {H : pi_H} {F : pi_F} (h : pi_g (len == 1) (pi_nx (pi_iop S f) (pc + 1) L H) = some (.inl F)) (hd : decode (pm_by M) pc = .ok (i, len))
    (row : ∀ (x y : Int32) (rest : List Value) (Hp : Heap) (ls : Array Slot) (locs : List Loc) (cells slots : Nat), decode (pm_by M) pc = .ok (i, 1) → W p l e R s m args below meth c Hp locs cells slots Q (F0 m (pc + 1) ls (.int (f x y) :: rest)) → W p l e R s m args below meth c Hp locs cells slots Q (F0 m pc ls (.int y :: .int x :: rest)))
    (kk : pi_W g p l e R s m args below meth c Q M n0 z0 F) : pi_W g p l e R s m args below meth c Q M n0 z0 (pc, L, S, H) := by
  have h0 := pi_g_spec h
  clear h
  obtain ⟨hb, h⟩ := h0
  rw [beq_iff_eq] at hb
  subst hb
  obtain ⟨S', h1, rfl⟩ := pi_nx_spec h
  obtain ⟨x, y, r, rfl, rfl⟩ := pi_iop_spec h1
  intro Hp ls locs cells slots r1 r2 r3 r4 r5 r6
  exact row x y (r.map (pi_tv g)) Hp ls locs cells slots hd (kk Hp ls locs cells slots r1 r2 r3 r4 r5 r6)
theorem pi_n_lop {i : Instr} {len pc : Nat} {f : Int64 → Int64 → Int64} {L : pi_L} {S : List Value} {H : pi_H} {F : pi_F} (h : pi_g (len == 1) (pi_nx (pi_lop S f) (pc + 1) L H) = some (.inl F)) (hd : decode (pm_by M) pc = .ok (i, len))
    (row : ∀ (x y : Int64) (rest : List Value) (Hp : Heap) (ls : Array Slot) (locs : List Loc) (cells slots : Nat), decode (pm_by M) pc = .ok (i, 1) → W p l e R s m args below meth c Hp locs cells slots Q (F0 m (pc + 1) ls (.long (f x y) :: rest)) → W p l e R s m args below meth c Hp locs cells slots Q (F0 m pc ls (.long y :: .long x :: rest)))
    (kk : pi_W g p l e R s m args below meth c Q M n0 z0 F) : pi_W g p l e R s m args below meth c Q M n0 z0 (pc, L, S, H) := by
  have h0 := pi_g_spec h
  clear h
  obtain ⟨hb, h⟩ := h0
  rw [beq_iff_eq] at hb
  subst hb
  obtain ⟨S', h1, rfl⟩ := pi_nx_spec h
  obtain ⟨x, y, r, rfl, rfl⟩ := pi_lop_spec h1
  intro Hp ls locs cells slots r1 r2 r3 r4 r5 r6
  exact row x y (r.map (pi_tv g)) Hp ls locs cells slots hd (kk Hp ls locs cells slots r1 r2 r3 r4 r5 r6)
theorem pi_n_br {pc : Nat} {b : Bool} {cond : Prop} {off : Int} {L : pi_L} {S S0 : List Value} {H : pi_H} {F : pi_F} (h : pi_br b pc off L S H = some (.inl F)) (hc : b = true ↔ cond)
    (row : ∀ (tgt : Nat) (Hp : Heap) (ls : Array Slot) (locs : List Loc) (cells slots : Nat), (pc : Int) + off = (tgt : Int) → (cond → W p l e R s m args below meth c Hp locs cells slots Q (F0 m tgt ls (S.map (pi_tv g)))) → (¬ cond → W p l e R s m args below meth c Hp locs cells slots Q (F0 m (pc + 3) ls (S.map (pi_tv g)))) → W p l e R s m args below meth c Hp locs cells slots Q (F0 m pc ls (S0.map (pi_tv g))))
    (kk : pi_W g p l e R s m args below meth c Q M n0 z0 F) : pi_W g p l e R s m args below meth c Q M n0 z0 (pc, L, S0, H) := by
  unfold pi_br at h
  intro Hp ls locs cells slots r1 r2 r3 r4 r5 r6
  split at h
  next q0 =>
    have ht : (pc : Int) + off = ((((pc : Int) + off).toNat : Nat) : Int) := by omega
    split at h
    next q =>
      obtain rfl := pi_go_spec h
      exact row _ Hp ls locs cells slots ht (fun _ => kk Hp ls locs cells slots r1 r2 r3 r4 r5 r6) (fun z => absurd (hc.mp q) z)
    next q =>
      obtain rfl := pi_go_spec h
      exact row _ Hp ls locs cells slots ht (fun z => absurd (hc.mpr z) q) (fun _ => kk Hp ls locs cells slots r1 r2 r3 r4 r5 r6)
  next => cases h
end PIN
