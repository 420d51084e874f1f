-- PART 06a: what a pure heap means on the machine
abbrev pi_G : Type := va_G × (Nat → ClassId) × (Nat → Option Nat) × Nat × (Nat → Option pi_E)
def pi_B (g : pi_G) : Nat := g.2.2.2.1
def pi_A (g : pi_G) : Nat → Prop := fun q => pi_B g ≤ q
def pi_tv (g : pi_G) (v : Value) : Value := match v with
  | .ref k => if k < 1000000 then .ref (pi_B g + k) else va_rf (g.2.2.1 (k - 1000000))
  | v => v
def pi_te (g : pi_G) (e : pi_E) : va_E := match e with
  | .inl (t, n, .inr (.inr (.inr (.inr f)))) => .inl (g.2.1 t, n, .inr (.inr (.inr (.inr (fun i => (f i).map (fun k => pi_B g + k))))))
  | .inl (t, n, a) => .inl (g.2.1 t, n, a)
  | .inr (ci, fs) => .inr (ci, fs.map (pi_tv g))
def pi_dyn (e : pi_E) : Bool := match e with
  | .inl (t, _) => decide (t < 6)
  | .inr (ci, _) => decide (ci < 6)
/-- the dynamic cells at B and behind it, in their order; the others stand in the static table -/
def pi_R (g : pi_G) (H : pi_H) (Hp : Heap) : Prop := Hp.size = pi_B g + H.2.1 ∧ H.2.1 ≤ 1000000 ∧ ∀ (k : Nat) (e : pi_E), H.1 k = some e → (k < H.2.1 ∧ pi_dyn e = true ∧ va_at g.1 pi_cl (pi_B g + k, pi_te g e) Hp) ∨ g.2.2.2.2 k = some e
def pi_sat (g : pi_G) (k : Nat) (e : pi_E) (U : State) : Prop :=
  (∃ (n : Nat) (f : Nat → Int32) (a : Nat), e = .inl (10, n, .inl f) ∧ g.2.2.1 (k - 1000000) = some a ∧ va_T .int a n (fun j => .int (f j)) (pi_A g) U U.heap) ∨
  (∃ (n : Nat) (f : Nat → Int32) (a : Nat), e = .inl (11, n, .inl f) ∧ g.2.2.1 (k - 1000000) = some a ∧ va_T .byte a n (fun j => .int (f j)) (pi_A g) U U.heap) ∨
  (∃ (v a av : Nat), e = .inr (7, [.ref v, .int 0]) ∧ g.2.2.1 (k - 1000000) = some a ∧ 1000000 ≤ v ∧ g.2.2.1 (v - 1000000) = some av ∧ va_O "java/lang/String" a (pi_A g) U U.heap ∧ va_OF "java/lang/String" "value" "[B" (.ref av) a (pi_A g) U U.heap ∧ va_OF "java/lang/String" "coder" "B" (.int 0) a (pi_A g) U U.heap)
def pi_tysA (g : pi_G) : List (ClassId × FieldType) := [(g.2.1 0, .int), (g.2.1 1, .char), (g.2.1 2, .long), (g.2.1 3, .object "OrderLevels$Shop"), (g.2.1 4, .array .int), (g.2.1 5, .array .long)]
def pi_AOA (t : FieldType) (U : State) : Prop := (Cond.arrayOver (.array t)).before #[] U = true
def pi_Env (g : pi_G) (U : State) : Prop :=
  va_K g.1 pi_cl (pi_tysA g) U ∧
  (∀ (own : String) (ix : Nat) (y : MethodName), Cond.methodLinkNest own ix y "OrderLevels" ∈ lw_tbl → va_Nw (.methodLinkNest own ix y "OrderLevels") U) ∧
  (∀ (own : String) (ix : Nat), Cond.fieldLinkNest own ix "OrderLevels" "MOST_COST" "[I" "OrderLevels" ∈ lw_tbl → va_Nw (.fieldLinkNest own ix "OrderLevels" "MOST_COST" "[I" "OrderLevels") U) ∧
  va_AO "OrderLevels$Shop" U ∧ pi_AOA .int U ∧ pi_AOA .long U ∧
  (∀ (i : Nat) (q : Nat × String), pi_str[i]? = some q → ∃ a, g.2.2.1 (1 + i) = some a ∧ vk_R "OrderLevels$Script" q.1 q.2 a U) ∧
  (∃ t, g.2.2.1 0 = some t ∧ va_Z "OrderLevels" "MOST_COST" "[I" (.ref t) (pi_A g) U U.heap) ∧
  va_Z "java/lang/String" "COMPACT_STRINGS" "Z" (.int 1) (pi_A g) U U.heap ∧
  va_Z "jdk/internal/util/Preconditions" "SIOOBE_FORMATTER" "Ljava/util/function/BiFunction;" (va_rf (g.2.2.1 30)) (pi_A g) U U.heap ∧
  (∀ (k : Nat) (e : pi_E), g.2.2.2.2 k = some e → 1000000 ≤ k ∧ pi_sat g k e U) ∧
  (∀ j, j ≠ 30 → ∃ a, g.2.2.1 j = some a)
theorem pi_AOA.moved {t : FieldType} {u U : State} (hvm : u.vm.Alike U.vm) (h : pi_AOA t u) : pi_AOA t U := over_moved (a := #[]) (a' := #[]) hvm h
theorem pi_sat.env {g : pi_G} {k : Nat} {e : pi_E} {u U : State} (hvm : u.vm.Alike U.vm) (hh : ∀ q : Nat, q < u.heap.size → ¬ pi_A g q → U.heap[q]? = u.heap[q]?) (h : pi_sat g k e u) : pi_sat g k e U := by
  rcases h with ⟨n, f, a, h1, h2, h3⟩ | ⟨n, f, a, h1, h2, h3⟩ | ⟨v, a, av, h1, h2, h3, h4, h5, h6, h7⟩
  · exact Or.inl ⟨n, f, a, h1, h2, (h3.moved hvm).kept hh⟩
  · exact Or.inr (Or.inl ⟨n, f, a, h1, h2, (h3.moved hvm).kept hh⟩)
  · exact Or.inr (Or.inr ⟨v, a, av, h1, h2, h3, h4, (h5.moved hvm).kept hh, (h6.moved hvm).kept hh, (h7.moved hvm).kept hh⟩)
theorem pi_Env.warm {g : pi_G} {u U : State} (hW : u.WarmedH U.vm) (hh : ∀ q : Nat, q < u.heap.size → ¬ pi_A g q → U.heap[q]? = u.heap[q]?) (h : pi_Env g u) : pi_Env g U := by
  obtain ⟨h1, h2, h3, h4, h5, h6, h7, ⟨t, h8, h8'⟩, h9, h10, h11, h12⟩ := h
  have hvm := hW.alike
  exact ⟨va_K.moved hvm h1, fun own ix y hy => va_Nw.warmM hW (h2 own ix y hy), fun own ix hy => va_Nw.warmF hW (h3 own ix hy), va_AO.moved hvm h4, pi_AOA.moved hvm h5, pi_AOA.moved hvm h6,
    fun i q hq => by obtain ⟨a, ha, hr⟩ := h7 i q hq; exact ⟨a, ha, vk_R.warm hW hr⟩, ⟨t, h8, (h8'.moved hvm).kept hh⟩, (h9.moved hvm).kept hh, (h10.moved hvm).kept hh, fun k e hk => ⟨(h11 k e hk).1, (h11 k e hk).2.env hvm hh⟩, h12⟩
theorem pi_tv_dyn {g : pi_G} {a : Nat} (h : a < 1000000) : pi_tv g (.ref a) = .ref (pi_B g + a) := by simp [pi_tv, h]
theorem pi_tv_st {g : pi_G} {a t : Nat} (h : 1000000 ≤ a) (hs : g.2.2.1 (a - 1000000) = some t) : pi_tv g (.ref a) = .ref t := by
  simp [pi_tv, Nat.not_lt.mpr h, hs, va_rf]
theorem pi_tv_cat {g : pi_G} (v : Value) : (pi_tv g v).category = v.category := by
  cases v with
  | ref k =>
    unfold pi_tv
    dsimp only
    split
    · rfl
    · unfold va_rf; split <;> rfl
  | _ => rfl
theorem pi_tv_cats {g : pi_G} (S : List Value) : ((S.map (pi_tv g)).map fun v => v.category).sum = pi_cats S := by
  unfold pi_cats
  rw [List.map_map]
  congr 1
  apply List.map_congr_left
  intro v _
  exact pi_tv_cat v
theorem pi_P1 {D : va_G} {cl : List vw_C} {a : Nat} {x : va_E} {Hp : Heap} (h : va_at D cl (a, x) Hp) : va_P D cl [(a, x)] Hp := by
  intro k q hq
  cases k with
  | zero => cases hq; exact h
  | succ k => simp at hq
theorem pi_in_vp {i : Int32} {n : Nat} (h : pi_in i n = true) : vp_in i n := by
  unfold pi_in at h
  rw [Bool.and_eq_true, Bool.not_eq_true', decide_eq_false_iff_not, decide_eq_true_eq] at h
  rintro (q | q)
  · exact h.1 q
  · omega
/-! the locals -/
def pi_lv (g : pi_G) (L : pi_L) : List (Nat × Value) := (List.range L.length).filterMap (fun j => (pi_ld L j).map (fun v => (j, pi_tv g v)))
theorem pi_ld_lt {L : pi_L} {j : Nat} {v : Value} (h : pi_ld L j = some v) : j < L.length := by
  unfold pi_ld at h
  split at h
  next w hw => exact (List.getElem?_eq_some_iff.mp hw).1
  next => cases h
theorem pi_ld_some {L : pi_L} {j : Nat} {v : Value} : pi_ld L j = some v ↔ L[j]? = some (some v) := by
  unfold pi_ld
  split
  next w hw => rw [hw]; constructor <;> (intro h; cases h; rfl)
  next hw =>
    constructor
    · intro h; cases h
    · intro h; exact absurd h (hw v)
theorem pi_lv_mem {g : pi_G} {L : pi_L} {q : Nat × Value} : q ∈ pi_lv g L ↔ ∃ v, pi_ld L q.1 = some v ∧ q.2 = pi_tv g v := by
  unfold pi_lv
  rw [List.mem_filterMap]
  constructor
  · rintro ⟨j, -, hj⟩
    cases hl : pi_ld L j with
    | none => rw [hl] at hj; cases hj
    | some v => rw [hl] at hj; cases hj; exact ⟨v, hl, rfl⟩
  · rintro ⟨v, h1, h2⟩
    refine ⟨q.1, List.mem_range.mpr (pi_ld_lt h1), ?_⟩
    rw [h1, Option.map_some, ← h2]
theorem pi_lv_at {g : pi_G} {L : pi_L} {ls : Array Slot} {n j : Nat} {v : Value} (h : lv_has ls n (pi_lv g L)) (hj : pi_ld L j = some v) : ls[j]? = some (.val (pi_tv g v)) := h.2.2 (j, pi_tv g v) (pi_lv_mem.mpr ⟨v, hj, rfl⟩)
theorem pi_lv_mono {ls : Array Slot} {n : Nat} {l l' : List (Nat × Value)} (h : lv_has ls n l) (hs : ∀ q ∈ l', q ∈ l) : lv_has ls n l' := ⟨h.1, h.2.1, fun q hq => h.2.2 q (hs q hq)⟩
theorem pi_ld_set {L : pi_L} {i j : Nat} {o : Option Value} {v : Value} (h : pi_ld (L.set i o) j = some v) : (j = i ∧ o = some v) ∨ (j ≠ i ∧ pi_ld L j = some v) := by
  rw [pi_ld_some] at h
  by_cases e : j = i
  · subst e
    have hl : j < L.length := by have := (List.getElem?_eq_some_iff.mp h).1; simpa using this
    rw [List.getElem?_set_self hl] at h
    exact Or.inl ⟨rfl, Option.some.inj h⟩
  · rw [List.getElem?_set_ne (Ne.symm e)] at h
    exact Or.inr ⟨e, pi_ld_some.mpr h⟩
theorem pi_ld_cut {L : pi_L} {k j : Nat} {v : Value} (h : pi_ld (pi_cut L k) j = some v) : pi_ld L j = some v ∧ ¬ (j + 1 = k ∧ v.category = 2) := by
  unfold pi_cut at h
  cases k with
  | zero => exact ⟨h, fun q => by omega⟩
  | succ i =>
    dsimp only at h
    split at h
    next hc =>
      rcases pi_ld_set h with ⟨-, q⟩ | ⟨q1, q2⟩
      · cases q
      · exact ⟨q2, fun z => q1 (by omega)⟩
    next hc =>
      refine ⟨h, fun z => hc ?_⟩
      have e : j = i := by omega
      subst e
      rw [h]
      simp [pi_c2, z.2]
theorem pi_cut_len (L : pi_L) (k : Nat) : (pi_cut L k).length = L.length := by
  unfold pi_cut
  split
  · rfl
  · split <;> simp
theorem pi_s1_len (L : pi_L) (k : Nat) (v : Value) : (pi_s1 L k v).length = L.length := by simp [pi_s1, pi_cut_len]
theorem pi_s2_len (L : pi_L) (k : Nat) (v : Value) : (pi_s2 L k v).length = L.length := by simp [pi_s2, pi_cut_len]
theorem pi_lv_s1 {g : pi_G} {L : pi_L} {ls : Array Slot} {n k : Nat} {v : Value} (h : lv_has ls n ((k, pi_tv g v) :: (pi_lv g L).filter (fun q => !(q.1 == k) && !(q.1 + 1 == k && q.2.category == 2)))) : lv_has ls n (pi_lv g (pi_s1 L k v)) := by
  refine pi_lv_mono h fun q hq => ?_
  obtain ⟨u, h1, h2⟩ := pi_lv_mem.mp hq
  rcases pi_ld_set h1 with ⟨e1, e2⟩ | ⟨e1, e2⟩
  · cases e2
    rw [show q = (k, pi_tv g v) from Prod.ext e1 h2]
    exact List.mem_cons_self
  · obtain ⟨e3, e4⟩ := pi_ld_cut e2
    refine List.mem_cons_of_mem _ (List.mem_filter.mpr ⟨pi_lv_mem.mpr ⟨u, e3, h2⟩, ?_⟩)
    rw [h2, pi_tv_cat]
    simp only [Bool.and_eq_true, Bool.not_eq_true', beq_eq_false_iff_ne, ne_eq, Bool.and_eq_false_iff]
    refine ⟨e1, ?_⟩
    by_cases z : q.1 + 1 = k
    · exact Or.inr (fun y => e4 ⟨z, y⟩)
    · exact Or.inl z
theorem pi_lv_s2 {g : pi_G} {L : pi_L} {ls : Array Slot} {n k : Nat} {v : Value} (h : lv_has ls n ((k, pi_tv g v) :: (pi_lv g L).filter (fun q => !(q.1 == k) && (!(q.1 == k + 1) && !(q.1 + 1 == k && q.2.category == 2))))) : lv_has ls n (pi_lv g (pi_s2 L k v)) := by
  refine pi_lv_mono h fun q hq => ?_
  obtain ⟨u, h1, h2⟩ := pi_lv_mem.mp hq
  rcases pi_ld_set h1 with ⟨-, e2⟩ | ⟨e0, h1⟩
  · cases e2
  rcases pi_ld_set h1 with ⟨e1, e2⟩ | ⟨e1, e2⟩
  · cases e2
    rw [show q = (k, pi_tv g v) from Prod.ext e1 h2]
    exact List.mem_cons_self
  · obtain ⟨e3, e4⟩ := pi_ld_cut e2
    refine List.mem_cons_of_mem _ (List.mem_filter.mpr ⟨pi_lv_mem.mpr ⟨u, e3, h2⟩, ?_⟩)
    rw [h2, pi_tv_cat]
    simp only [Bool.and_eq_true, Bool.not_eq_true', beq_eq_false_iff_ne, ne_eq, Bool.and_eq_false_iff]
    refine ⟨e1, e0, ?_⟩
    by_cases z : q.1 + 1 = k
    · exact Or.inr (fun y => e4 ⟨z, y⟩)
    · exact Or.inl z
/-! writing and making cells -/
theorem pi_te_at {g : pi_G} {H : pi_H} {Hp Hp' : Heap} {a : Nat} {e' : pi_E} (h : pi_R g H Hp) (ha : a < H.2.1) (hd : pi_dyn e' = true) (hz : Hp'.size = Hp.size) (ho : ∀ q : Nat, q ≠ pi_B g + a → Hp'[q]? = Hp[q]?) (hn : va_at g.1 pi_cl (pi_B g + a, pi_te g e') Hp') : pi_R g (pi_set H a e') Hp' := by
  refine ⟨hz.trans h.1, h.2.1, fun k e hk => ?_⟩
  have hk : (if k = a then some e' else H.1 k) = some e := hk
  by_cases q : k = a
  · rw [if_pos q] at hk
    cases hk
    exact Or.inl ⟨by rw [q]; exact ha, hd, by rw [q]; exact hn⟩
  · rw [if_neg q] at hk
    rcases h.2.2 k e hk with ⟨h1, h2, h3⟩ | h1
    · exact Or.inl ⟨h1, h2, h3.kept (ho _ (by show pi_B g + k ≠ pi_B g + a; omega))⟩
    · exact Or.inr h1
theorem pi_te_new {g : pi_G} {H : pi_H} {Hp Hp' : Heap} {e' : pi_E} {z : Nat} (h : pi_R g H Hp) (hl : H.2.1 < 1000000) (hd : pi_dyn e' = true) (hz : Hp'.size = Hp.size + 1) (ho : ∀ q : Nat, q < Hp.size → Hp'[q]? = Hp[q]?) (hn : va_at g.1 pi_cl (pi_B g + H.2.1, pi_te g e') Hp') : pi_R g (pi_add H e' z) Hp' := by
  refine ⟨by rw [hz, h.1]; rfl, hl, fun k e hk => ?_⟩
  have hk : (if k = H.2.1 then some e' else H.1 k) = some e := hk
  by_cases q : k = H.2.1
  · rw [if_pos q] at hk
    cases hk
    refine Or.inl ⟨by rw [q]; exact Nat.lt_succ_self _, hd, by rw [q]; exact hn⟩
  · rw [if_neg q] at hk
    rcases h.2.2 k e hk with ⟨h1, h2, h3⟩ | h1
    · exact Or.inl ⟨Nat.lt_succ_of_lt h1, h2, h3.kept (ho _ h3.lt)⟩
    · exact Or.inr h1
