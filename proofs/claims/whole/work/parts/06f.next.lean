-- PART 06f: the dispatcher of what stays in the frame
section PIF
variable {g : pi_G} {p : Program} {l : Launch} {e : Env} {R : Room} {s : State} {m : MethodId} {args : Array Value} {below : List Frame} {meth : Method} {c : Code} {Q : State → Prop} {M : pi_M} {n0 z0 : Nat}
theorem pi_n_ldc {ix len pc : Nat} {L : pi_L} {S : List Value} {H : pi_H} {F : pi_F} (C : pi_C g p R s m args meth c M n0) (hd : decode (pm_by M) pc = .ok (.ldc ix, len)) (h : pi_ins M (.ldc ix) len pc L S H = some (.inl F))
    (kk : pi_W g p l e R s m args below meth c Q M n0 z0 F) : pi_W g p l e R s m args below meth c Q M n0 z0 (pc, L, S, H) := by
  have h0 := pi_g_spec h
  clear h
  obtain ⟨hb, h⟩ := h0
  rw [beq_iff_eq] at hb
  subst hb
  obtain ⟨hx, hbb, hml, ⟨own, ho1, ho2⟩, hts, hE, -⟩ := id C
  split at h
  next v hl =>
    have hq := List.all_eq_true.mp pi_klk_ok _ (pi_lk_mem hl)
    unfold pi_klc at hq
    dsimp only at hq
    rw [ho1] at hq
    obtain ⟨w1, w2⟩ := pi_t_in hq
    obtain rfl := pi_go_spec h
    exact pi_n_op (len := 2) (S' := .int (Int32.ofInt v) :: S) (fun Hp ls locs cells slots k => lv_ldc hx hbb ho2 (hts _ w1 w2) hd k) kk
  next v hl =>
    have hq := List.all_eq_true.mp pi_klk_ok _ (pi_lk_mem hl)
    unfold pi_klc at hq
    dsimp only at hq
    rw [ho1] at hq
    have hq : (decide (own = "OrderLevels$Script") && (match pi_str[v.toNat]? with
      | some (ix', _) => ix' == ix
      | none => false)) = true := hq
    rw [Bool.and_eq_true, decide_eq_true_eq] at hq
    obtain ⟨rfl, hq⟩ := hq
    cases hs : pi_str[v.toNat]? with
    | some y =>
      obtain ⟨ix', tx⟩ := y
      rw [hs] at hq
      have hq : ix' = ix := eq_of_beq hq
      subst hq
      obtain ⟨a, ha, hr⟩ := hE.2.2.2.2.2.2.1 v.toNat _ hs
      obtain rfl := pi_go_spec h
      refine pi_n_op (len := 2) (S' := .ref (1000001 + v.toNat) :: S) (fun Hp ls locs cells slots k => ?_) kk
      have e0 : 1000001 + v.toNat - 1000000 = 1 + v.toNat := by omega
      have e1 : pi_tv g (.ref (1000001 + v.toNat)) = .ref a := pi_tv_st (Nat.le_trans (by decide) (Nat.le_add_right 1000001 _)) (by rw [e0]; exact ha)
      rw [List.map_cons, e1] at k
      exact va_ldcS hx hbb ho2 hr hd k
    | none => rw [hs] at hq; cases hq
  next => cases h
theorem pi_n_ldc2 {ix len pc : Nat} {L : pi_L} {S : List Value} {H : pi_H} {F : pi_F} (C : pi_C g p R s m args meth c M n0) (hd : decode (pm_by M) pc = .ok (.ldc2_w ix, len)) (h : pi_ins M (.ldc2_w ix) len pc L S H = some (.inl F))
    (kk : pi_W g p l e R s m args below meth c Q M n0 z0 F) : pi_W g p l e R s m args below meth c Q M n0 z0 (pc, L, S, H) := by
  have h0 := pi_g_spec h
  clear h
  obtain ⟨hb, h⟩ := h0
  rw [beq_iff_eq] at hb
  subst hb
  obtain ⟨hx, hbb, hml, ⟨own, ho1, ho2⟩, hts, hE, -⟩ := id C
  split at h
  next v hl =>
    have hq := List.all_eq_true.mp pi_klk_ok _ (pi_lk_mem hl)
    unfold pi_klc at hq
    dsimp only at hq
    rw [ho1] at hq
    obtain ⟨w1, w2⟩ := pi_t_in hq
    obtain rfl := pi_go_spec h
    exact pi_n_op (len := 3) (S' := .long (Int64.ofInt v) :: S) (fun Hp ls locs cells slots k => lv_ldc2 hx hbb ho2 (hts _ w1 w2) hd k) kk
  next => cases h
theorem pi_n_getstatic {ix len pc : Nat} {L : pi_L} {S : List Value} {H : pi_H} {F : pi_F} (C : pi_C g p R s m args meth c M n0) (hd : decode (pm_by M) pc = .ok (.getstatic ix, len)) (h : pi_ins M (.getstatic ix) len pc L S H = some (.inl F))
    (kk : pi_W g p l e R s m args below meth c Q M n0 z0 F) : pi_W g p l e R s m args below meth c Q M n0 z0 (pc, L, S, H) := by
  have h0 := pi_g_spec h
  clear h
  obtain ⟨hb, h⟩ := h0
  rw [beq_iff_eq] at hb
  subst hb
  obtain ⟨hx, hbb, hml, ⟨own, ho1, ho2⟩, hts, hE, -⟩ := id C
  split at h
  next hl =>
    have hq := List.all_eq_true.mp pi_slk_ok _ (pi_lk_mem hl)
    unfold pi_slc at hq
    dsimp only at hq
    rw [ho1] at hq
    have hq := of_decide_eq_true hq
    obtain ⟨t, ht, hz⟩ := hE.2.2.2.2.2.2.2.1
    obtain rfl := pi_go_spec h
    intro Hp ls locs cells slots r1 r2 r3 r4 r5 r6
    have k : W p l e R s m args below meth c Hp locs cells slots Q (F0 m (pc + 3) ls (pi_tv g (.ref 1000000) :: S.map (pi_tv g))) := kk Hp ls locs cells slots r1 r2 r3 r4 r5 r6
    have e0 : pi_tv g (.ref 1000000) = .ref t := by simp [pi_tv, ht, va_rf]
    rw [e0] at k
    exact va_getsN hx hbb hz r4 ho2 (va_Nw.use rfl (hE.2.2.1 own ix hq)) (fun _ h9 => h9) hd k
  next hl =>
    have hq := List.all_eq_true.mp pi_slk_ok _ (pi_lk_mem hl)
    unfold pi_slc at hq
    dsimp only at hq
    rw [ho1] at hq
    obtain ⟨w1, w2⟩ := pi_t_in hq
    obtain rfl := pi_go_spec h
    intro Hp ls locs cells slots r1 r2 r3 r4 r5 r6
    exact va_gets hx hbb hE.2.2.2.2.2.2.2.2.1 r4 ho2 (hts _ w1 w2) (fun _ h9 => h9) hd (kk Hp ls locs cells slots r1 r2 r3 r4 r5 r6)
  next hl =>
    have hq := List.all_eq_true.mp pi_slk_ok _ (pi_lk_mem hl)
    unfold pi_slc at hq
    dsimp only at hq
    rw [ho1] at hq
    obtain ⟨w1, w2⟩ := pi_t_in hq
    obtain rfl := pi_go_spec h
    intro Hp ls locs cells slots r1 r2 r3 r4 r5 r6
    exact va_gets hx hbb hE.2.2.2.2.2.2.2.2.2.1 r4 ho2 (hts _ w1 w2) (fun _ h9 => h9) hd (kk Hp ls locs cells slots r1 r2 r3 r4 r5 r6)
  next => cases h
theorem pi_n_if {cd : Jvm.ClassFile.Cond} {off : Int} {len pc : Nat} {L : pi_L} {S : List Value} {H : pi_H} {F : pi_F} (C : pi_C g p R s m args meth c M n0) (hd : decode (pm_by M) pc = .ok (.ifCond cd off, len)) (h : pi_ins M (.ifCond cd off) len pc L S H = some (.inl F))
    (kk : pi_W g p l e R s m args below meth c Q M n0 z0 F) : pi_W g p l e R s m args below meth c Q M n0 z0 (pc, L, S, H) := by
  have h0 := pi_g_spec h
  clear h
  obtain ⟨hb, h⟩ := h0
  rw [beq_iff_eq] at hb
  subst hb
  split at h
  next x r =>
    cases cd
    · exact pi_n_br (cond := x = 0) h decide_eq_true_iff (fun tgt Hp ls locs cells slots ht kt kf => lv_if_eq C.1 C.2.1 hd ht kt kf) kk
    · exact pi_n_br (cond := ¬ x = 0) h decide_eq_true_iff (fun tgt Hp ls locs cells slots ht kt kf => lv_if_ne C.1 C.2.1 hd ht kt (fun q => kf (fun z => z q))) kk
    · exact pi_n_br (cond := x < 0) h decide_eq_true_iff (fun tgt Hp ls locs cells slots ht kt kf => lv_if_lt C.1 C.2.1 hd ht kt kf) kk
    · exact pi_n_br (cond := 0 ≤ x) h decide_eq_true_iff (fun tgt Hp ls locs cells slots ht kt kf => lv_if_ge C.1 C.2.1 hd ht kt kf) kk
    · exact pi_n_br (cond := 0 < x) h decide_eq_true_iff (fun tgt Hp ls locs cells slots ht kt kf => lv_if_gt C.1 C.2.1 hd ht kt kf) kk
    · exact pi_n_br (cond := x ≤ 0) h decide_eq_true_iff (fun tgt Hp ls locs cells slots ht kt kf => lv_if_le C.1 C.2.1 hd ht kt kf) kk
  next => cases h
theorem pi_n_icmp {cd : Jvm.ClassFile.Cond} {off : Int} {len pc : Nat} {L : pi_L} {S : List Value} {H : pi_H} {F : pi_F} (C : pi_C g p R s m args meth c M n0) (hd : decode (pm_by M) pc = .ok (.if_icmp cd off, len)) (h : pi_ins M (.if_icmp cd off) len pc L S H = some (.inl F))
    (kk : pi_W g p l e R s m args below meth c Q M n0 z0 F) : pi_W g p l e R s m args below meth c Q M n0 z0 (pc, L, S, H) := by
  have h0 := pi_g_spec h
  clear h
  obtain ⟨hb, h⟩ := h0
  rw [beq_iff_eq] at hb
  subst hb
  split at h
  next y x r =>
    cases cd
    · exact pi_n_br (cond := x = y) h decide_eq_true_iff (fun tgt Hp ls locs cells slots ht kt kf => lv_icmp_eq C.1 C.2.1 hd ht kt kf) kk
    · exact pi_n_br (cond := ¬ x = y) h decide_eq_true_iff (fun tgt Hp ls locs cells slots ht kt kf => lv_icmp_ne C.1 C.2.1 hd ht kt (fun q => kf (fun z => z q))) kk
    · exact pi_n_br (cond := x < y) h decide_eq_true_iff (fun tgt Hp ls locs cells slots ht kt kf => lv_icmp_lt C.1 C.2.1 hd ht kt kf) kk
    · exact pi_n_br (cond := y ≤ x) h decide_eq_true_iff (fun tgt Hp ls locs cells slots ht kt kf => lv_icmp_ge C.1 C.2.1 hd ht kt kf) kk
    · exact pi_n_br (cond := y < x) h decide_eq_true_iff (fun tgt Hp ls locs cells slots ht kt kf => lv_icmp_gt C.1 C.2.1 hd ht kt kf) kk
    · exact pi_n_br (cond := x ≤ y) h decide_eq_true_iff (fun tgt Hp ls locs cells slots ht kt kf => lv_icmp_le C.1 C.2.1 hd ht kt kf) kk
  next => cases h
theorem pi_n_gi {pc : Nat} {off : Int} {L : pi_L} {S S0 : List Value} {H : pi_H} {F : pi_F} (h : pi_gi pc off L S H = some (.inl F))
    (row : ∀ (tgt : Nat) (Hp : Heap) (ls : Array Slot) (locs : List Loc) (cells slots : Nat), (pc : Int) + off = (tgt : Int) → W p l e R s m args below meth c Hp locs cells slots Q (F0 m tgt ls (S.map (pi_tv g))) → W p l e R s m args below meth c Hp locs cells slots Q (F0 m pc ls (S0.map (pi_tv g))))
    (kk : pi_W g p l e R s m args below meth c Q M n0 z0 F) : pi_W g p l e R s m args below meth c Q M n0 z0 (pc, L, S0, H) := by
  obtain ⟨tgt, ht, rfl⟩ := pi_gi_spec h
  intro Hp ls locs cells slots r1 r2 r3 r4 r5 r6
  exact row tgt Hp ls locs cells slots ht (kk Hp ls locs cells slots r1 r2 r3 r4 r5 r6)
theorem pi_n_table {d lo hi : Int} {offs : Array Int} {len pc : Nat} {L : pi_L} {S : List Value} {H : pi_H} {F : pi_F} (C : pi_C g p R s m args meth c M n0) (hd : decode (pm_by M) pc = .ok (.tableswitch d lo hi offs, len)) (h : pi_ins M (.tableswitch d lo hi offs) len pc L S H = some (.inl F))
    (kk : pi_W g p l e R s m args below meth c Q M n0 z0 F) : pi_W g p l e R s m args below meth c Q M n0 z0 (pc, L, S, H) := by
  unfold pi_ins at h
  dsimp only at h
  split at h
  next x r =>
    split at h
    next q => exact pi_n_gi h (fun tgt Hp ls locs cells slots ht k => lv_tableOut C.1 C.2.1 hd q ht k) kk
    next q =>
      split at h
      next off ho =>
        rw [not_or] at q
        exact pi_n_gi h (fun tgt Hp ls locs cells slots ht k => lv_tableIn C.1 C.2.1 hd q.1 q.2 ho ht k) kk
      next => cases h
  next => cases h
theorem pi_n_lookup {d : Int} {ps : Array (Int × Int)} {len pc : Nat} {L : pi_L} {S : List Value} {H : pi_H} {F : pi_F} (C : pi_C g p R s m args meth c M n0) (hd : decode (pm_by M) pc = .ok (.lookupswitch d ps, len)) (h : pi_ins M (.lookupswitch d ps) len pc L S H = some (.inl F))
    (kk : pi_W g p l e R s m args below meth c Q M n0 z0 F) : pi_W g p l e R s m args below meth c Q M n0 z0 (pc, L, S, H) := by
  have h0 := pi_g_spec h
  clear h
  obtain ⟨hb, h⟩ := h0
  split at h
  next x r => exact pi_n_gi h (fun tgt Hp ls locs cells slots ht k => lv_lookup C.1 C.2.1 hd hb rfl ht k) kk
  next => cases h
theorem pi_next {i : Instr} {len pc : Nat} {L : pi_L} {S : List Value} {H : pi_H} {F : pi_F} (C : pi_C g p R s m args meth c M n0) (hd : decode (pm_by M) pc = .ok (i, len)) (h : pi_ins M i len pc L S H = some (.inl F)) (hb1 : F.2.2.2.2.1 ≤ n0 + R.cells) (hb2 : F.2.2.2.2.2 ≤ z0 + R.slots) (hiv : (∀ x, i ≠ .invokespecial x) ∧ (∀ x, i ≠ .invokestatic x) ∧ (∀ x, i ≠ .invokevirtual x))
    (kk : pi_W g p l e R s m args below meth c Q M n0 z0 F) : pi_W g p l e R s m args below meth c Q M n0 z0 (pc, L, S, H) := by
  have hx := C.1
  have hbb := C.2.1
  cases i
  case iconst n =>
    obtain ⟨hb, h1⟩ := pi_g_spec h
    have hb := eq_of_beq hb
    subst hb
    obtain rfl := pi_go_spec h1
    exact pi_n_op (len := 1) (S' := .int (Int32.ofInt n) :: S) (fun Hp ls locs cells slots k => lv_iconst hx hbb hd rfl k) kk
  case bipush n =>
    obtain ⟨hb, h1⟩ := pi_g_spec h
    have hb := eq_of_beq hb
    subst hb
    obtain rfl := pi_go_spec h1
    exact pi_n_op (len := 2) (S' := .int (Int8.ofInt n).toInt32 :: S) (fun Hp ls locs cells slots k => lv_bipush hx hbb hd rfl k) kk
  case sipush n =>
    obtain ⟨hb, h1⟩ := pi_g_spec h
    have hb := eq_of_beq hb
    subst hb
    obtain rfl := pi_go_spec h1
    exact pi_n_op (len := 3) (S' := .int (Int16.ofInt n).toInt32 :: S) (fun Hp ls locs cells slots k => lv_sipush hx hbb hd rfl k) kk
  case lconst n =>
    obtain ⟨hb, h1⟩ := pi_g_spec h
    have hb := eq_of_beq hb
    subst hb
    obtain rfl := pi_go_spec h1
    exact pi_n_op (len := 1) (S' := .long (Int64.ofNat (n : Nat)) :: S) (fun Hp ls locs cells slots k => lv_lconst hx hbb hd rfl k) kk
  case ldc ix => exact pi_n_ldc C hd h kk
  case ldc2_w ix => exact pi_n_ldc2 C hd h kk
  case getstatic ix => exact pi_n_getstatic C hd h kk
  case iload k => exact pi_n_iload C hd (Or.inl ⟨rfl, rfl⟩) h kk
  case iload_n k => exact pi_n_iload C hd (Or.inr ⟨k, rfl, rfl, rfl⟩) h kk
  case lload k => exact pi_n_lload C hd (Or.inl ⟨rfl, rfl⟩) h kk
  case lload_n k => exact pi_n_lload C hd (Or.inr ⟨k, rfl, rfl, rfl⟩) h kk
  case aload k => exact pi_n_aload C hd (Or.inl ⟨rfl, rfl⟩) h kk
  case aload_n k => exact pi_n_aload C hd (Or.inr ⟨k, rfl, rfl, rfl⟩) h kk
  case istore k => exact pi_n_istore C hd (Or.inl ⟨rfl, rfl⟩) h kk
  case istore_n k => exact pi_n_istore C hd (Or.inr ⟨k, rfl, rfl, rfl⟩) h kk
  case lstore k => exact pi_n_lstore C hd (Or.inl ⟨rfl, rfl⟩) h kk
  case lstore_n k => exact pi_n_lstore C hd (Or.inr ⟨k, rfl, rfl, rfl⟩) h kk
  case astore k => exact pi_n_astore C hd (Or.inl ⟨rfl, rfl⟩) h kk
  case astore_n k => exact pi_n_astore C hd (Or.inr ⟨k, rfl, rfl, rfl⟩) h kk
  case iinc k n => exact pi_n_iinc C hd h kk
  case iadd => exact pi_n_iop (f := fun x y => x + y) h hd (fun x y rest Hp ls locs cells slots hd k => lv_iadd hx hbb hd k) kk
  case isub => exact pi_n_iop (f := fun x y => x - y) h hd (fun x y rest Hp ls locs cells slots hd k => lv_isub hx hbb hd k) kk
  case imul => exact pi_n_iop (f := fun x y => x * y) h hd (fun x y rest Hp ls locs cells slots hd k => lv_imul hx hbb hd k) kk
  case iand => exact pi_n_iop (f := fun x y => x &&& y) h hd (fun x y rest Hp ls locs cells slots hd k => lv_iand hx hbb hd k) kk
  case ior => exact pi_n_iop (f := fun x y => x ||| y) h hd (fun x y rest Hp ls locs cells slots hd k => lv_ior hx hbb hd k) kk
  case ishl => exact pi_n_iop (f := fun x y => x <<< (y &&& 31)) h hd (fun x y rest Hp ls locs cells slots hd k => lv_ishl hx hbb hd k) kk
  case ishr => exact pi_n_iop (f := fun x y => x >>> (y &&& 31)) h hd (fun x y rest Hp ls locs cells slots hd k => lv_ishr hx hbb hd k) kk
  case ladd => exact pi_n_lop (f := fun x y => x + y) h hd (fun x y rest Hp ls locs cells slots hd k => lv_ladd hx hbb hd k) kk
  case lsub => exact pi_n_lop (f := fun x y => x - y) h hd (fun x y rest Hp ls locs cells slots hd k => lv_lsub hx hbb hd k) kk
  case lmul => exact pi_n_lop (f := fun x y => x * y) h hd (fun x y rest Hp ls locs cells slots hd k => lv_lmul hx hbb hd k) kk
  case lor => exact pi_n_lop (f := fun x y => x ||| y) h hd (fun x y rest Hp ls locs cells slots hd k => lv_lor hx hbb hd k) kk
  case irem =>
    obtain ⟨hb, h1⟩ := pi_g_spec h
    have hb := eq_of_beq hb
    subst hb
    split at h1
    · obtain ⟨hy, h2⟩ := pi_g_spec h1
      rw [Bool.not_eq_true', decide_eq_false_iff_not] at hy
      obtain rfl := pi_go_spec h2
      refine pi_n_op (len := 1) ?_ kk
      exact fun Hp ls locs cells slots k => lv_irem hx hbb hd hy k
    · cases h1
  case ldiv =>
    obtain ⟨hb, h1⟩ := pi_g_spec h
    have hb := eq_of_beq hb
    subst hb
    split at h1
    · obtain ⟨hy, h2⟩ := pi_g_spec h1
      rw [Bool.not_eq_true', decide_eq_false_iff_not] at hy
      obtain rfl := pi_go_spec h2
      refine pi_n_op (len := 1) ?_ kk
      exact fun Hp ls locs cells slots k => lv_ldiv hx hbb hd hy k
    · cases h1
  case lrem =>
    obtain ⟨hb, h1⟩ := pi_g_spec h
    have hb := eq_of_beq hb
    subst hb
    split at h1
    · obtain ⟨hy, h2⟩ := pi_g_spec h1
      rw [Bool.not_eq_true', decide_eq_false_iff_not] at hy
      obtain rfl := pi_go_spec h2
      refine pi_n_op (len := 1) ?_ kk
      exact fun Hp ls locs cells slots k => lv_lrem hx hbb hd hy k
    · cases h1
  case lneg =>
    obtain ⟨hb, h1⟩ := pi_g_spec h
    have hb := eq_of_beq hb
    subst hb
    split at h1
    · obtain rfl := pi_go_spec h1
      refine pi_n_op (len := 1) ?_ kk
      exact fun Hp ls locs cells slots k => lv_lneg hx hbb hd k
    · cases h1
  case lshl =>
    obtain ⟨hb, h1⟩ := pi_g_spec h
    have hb := eq_of_beq hb
    subst hb
    split at h1
    · obtain rfl := pi_go_spec h1
      refine pi_n_op (len := 1) ?_ kk
      exact fun Hp ls locs cells slots k => lv_lshl hx hbb hd rfl k
    · cases h1
  case i2l =>
    obtain ⟨hb, h1⟩ := pi_g_spec h
    have hb := eq_of_beq hb
    subst hb
    split at h1
    · obtain rfl := pi_go_spec h1
      refine pi_n_op (len := 1) ?_ kk
      exact fun Hp ls locs cells slots k => lv_i2l hx hbb hd rfl k
    · cases h1
  case i2c =>
    obtain ⟨hb, h1⟩ := pi_g_spec h
    have hb := eq_of_beq hb
    subst hb
    split at h1
    · obtain rfl := pi_go_spec h1
      refine pi_n_op (len := 1) ?_ kk
      exact fun Hp ls locs cells slots k => lv_i2c hx hbb hd rfl k
    · cases h1
  case lcmp =>
    obtain ⟨hb, h1⟩ := pi_g_spec h
    have hb := eq_of_beq hb
    subst hb
    split at h1
    · obtain rfl := pi_go_spec h1
      refine pi_n_op (len := 1) ?_ kk
      exact fun Hp ls locs cells slots k => W.lcmp hx hbb hd k
    · cases h1
  case dup =>
    obtain ⟨hb, h1⟩ := pi_g_spec h
    have hb := eq_of_beq hb
    subst hb
    split at h1
    · obtain ⟨hv, h2⟩ := pi_g_spec h1
      have hv := eq_of_beq hv
      obtain rfl := pi_go_spec h2
      refine pi_n_op (len := 1) ?_ kk
      exact fun Hp ls locs cells slots k => lv_dup hx hbb hd (by rw [pi_tv_cat]; exact hv) k
    · cases h1
  case pop =>
    obtain ⟨hb, h1⟩ := pi_g_spec h
    have hb := eq_of_beq hb
    subst hb
    split at h1
    · obtain ⟨hv, h2⟩ := pi_g_spec h1
      have hv := eq_of_beq hv
      obtain rfl := pi_go_spec h2
      exact pi_n_op (len := 1) (fun Hp ls locs cells slots k => lv_pop hx hbb hd (by rw [pi_tv_cat]; exact hv) k) kk
    · cases h1
  case dup2 =>
    obtain ⟨hb, h1⟩ := pi_g_spec h
    have hb := eq_of_beq hb
    subst hb
    split at h1
    · obtain ⟨hv, h2⟩ := pi_g_spec h1
      rw [Bool.and_eq_true, beq_iff_eq, beq_iff_eq] at hv
      obtain rfl := pi_go_spec h2
      refine pi_n_op (len := 1) ?_ kk
      exact fun Hp ls locs cells slots k => lv_dup2_11 hx hbb hd (by rw [pi_tv_cat]; exact hv.1) (by rw [pi_tv_cat]; exact hv.2) k
    · cases h1
  case ifCond cd off => exact pi_n_if C hd h kk
  case if_icmp cd off => exact pi_n_icmp C hd h kk
  case goto off =>
    obtain ⟨hb, h1⟩ := pi_g_spec h
    have hb := eq_of_beq hb
    subst hb
    exact pi_n_gi h1 (fun tgt Hp ls locs cells slots ht k => lv_goto hx hbb hd ht k) kk
  case tableswitch => exact pi_n_table C hd h kk
  case lookupswitch => exact pi_n_lookup C hd h kk
  case getfield ix => exact pi_n_getfield C hd h kk
  case putfield ix => exact pi_n_putfield C hd h kk
  case iaload => exact pi_n_al C hd (Or.inl ⟨rfl, rfl⟩) h kk
  case caload => exact pi_n_al C hd (Or.inr (Or.inl ⟨rfl, rfl⟩)) h kk
  case baload => exact pi_n_al C hd (Or.inr (Or.inr (Or.inl ⟨rfl, rfl⟩))) h kk
  case laload => exact pi_n_al C hd (Or.inr (Or.inr (Or.inr (Or.inl ⟨rfl, rfl⟩)))) h kk
  case aaload => exact pi_n_al C hd (Or.inr (Or.inr (Or.inr (Or.inr ⟨rfl, rfl⟩)))) h kk
  case iastore => exact pi_n_as C hd (Or.inl ⟨rfl, rfl⟩) h kk
  case castore => exact pi_n_as C hd (Or.inr (Or.inl ⟨rfl, rfl⟩)) h kk
  case lastore => exact pi_n_as C hd (Or.inr (Or.inr (Or.inl ⟨rfl, rfl⟩))) h kk
  case aastore => exact pi_n_as C hd (Or.inr (Or.inr (Or.inr ⟨rfl, rfl⟩))) h kk
  case arraylength => exact pi_n_len C hd h kk
  case new ix => exact pi_n_new C hd h hb1 hb2 kk
  case newarray a => exact pi_n_newarray C hd h hb1 hb2 kk
  case anewarray ix => exact pi_n_anew C hd h hb1 hb2 kk
  case multianewarray ix dm => exact pi_n_mul C hd h hb1 hb2 kk
  case invokespecial ix => exact absurd rfl (hiv.1 ix)
  case invokestatic ix => exact absurd rfl (hiv.2.1 ix)
  case invokevirtual ix => exact absurd rfl (hiv.2.2 ix)
  case ireturn =>
    obtain ⟨hb, h1⟩ := pi_g_spec h
    split at h1
    · obtain ⟨hv, h2⟩ := pi_g_spec h1
      cases h2
    · cases h1
  case lreturn =>
    obtain ⟨hb, h1⟩ := pi_g_spec h
    split at h1 <;> cases h1
  case areturn =>
    obtain ⟨hb, h1⟩ := pi_g_spec h
    split at h1 <;> cases h1
  case return_ =>
    obtain ⟨hb, h1⟩ := pi_g_spec h
    split at h1 <;> cases h1
  all_goals (cases h)
end PIF
