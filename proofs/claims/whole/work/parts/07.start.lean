-- PART 07: from the Statement's start to the pure interpreter (its first rows are the skeleton's)
/-! THE CLAIM OUT OF ONE WALK OF THE LAW'S BODY. Your part is whole_start (and what it stands on); all else here is the same for every law, but numbers. -/
def R_law : String := "OrderLevelsLaw"
def lw_P (b : Addr) (xs : List Int32) (args : Array Value) (s : State) : Prop := args = #[.ref b] ∧ s.IntsAt b xs ∧ xs.length ≤ 2048 ∧ (Jvm.Cond.and given_1 narrow_1).before args s = true
def lw_Q (_ : Array Value) (s : State) (o : Outcome) (t : State) : Prop := o = .returned (some (.int 1)) ∧ Framed s o t [] 600000 7302250
def lw_Z (below : List Frame) (a : Array Value) (s : State) : State → Prop := fun t => ∃ o, t.status = .running ∧ Ended t below o ∧ lw_Q a s o t
/-- the law's own end, with 1 on the stack, nothing written that was there before, its room as the claim has it -/
theorem lw_ret {p : Program} {l : Launch} {e : Env} {s : State} {m : MethodId} {below : List Frame} {meth : Method} {c : Code} {b : Nat} (hx : p.tables.exec = Jvm.exec) (hb : c.code = code) (hr : meth.sig.returnType = ret) (hlocks : meth.locks = false) {pc : Nat} {H : Heap} {ls : Array Slot} (hdg : decode code pc = .ok (.ireturn, 1)) : W p l e room_1 s m #[Value.ref b] below meth c H [] 600000 7302250 (lw_Z below #[Value.ref b] s) (F0 m pc ls [.int 1]) := by
  intro T hT X
  obtain ⟨fs, hret, hrun, hended, hW, hframe⟩ := X.leave (v := some (.int 1)) (hlocks := hlocks) (fun h => by rw [hr] at h; cases h)
  have hmeth' : T.vm.method? m = some meth := X.method'
  refine ⟨T.setFrames fs, ?_, .returned (some (.int 1)), hrun, hended, rfl, ⟨_, rfl⟩, hW, hframe⟩
  jvm_step X.here [X.here.top, hx, hb, hdg, hmeth', hr, ret, narrow_b1]
  (try refine ⟨rfl, ?_⟩); (try refine ⟨rfl, ?_⟩)
  first | (intro acts; rw [hret _ acts rfl rfl rfl]) | rw [hret _ _ rfl rfl rfl]
  exact Steps.refl _
/-- what holds at the law's entry: the machine, the code, the tables' words (any of lw_tbl by 'hts w (by decide +kernel)'), the script of L ints xs at the cell b, what the Statement gives of the start (any of its parts by flat_of_before) -/
def lw_At (p : Program) (s : State) (m : MethodId) (meth : Method) (c : Code) (b L : Nat) (xs : Nat → Int32) : Prop :=
  p.tables.exec = Jvm.exec ∧ c.code = code ∧ meth.sig.returnType = ret ∧ c.maxLocals = 4 ∧ s.vm.findClass R_law = some m.cls ∧ (∀ w ∈ lw_tbl, w.before #[Value.ref b] s = true) ∧ va_X b L xs s s.heap ∧ b < s.heap.size ∧ meth.locks = false ∧ (Jvm.Cond.and given_1 narrow_1).before #[Value.ref b] s = true
/-! the static cells: MOST_COST, the seven texts, the script -/
def pi_mcost (j : Nat) : Int32 := ([99, 9, 9, 29, 9] : List Int32).getD j 0
def pi_txt : List (List Int32) := [[119, 101, 105, 103, 104, 116], [99, 111, 115, 116], [115, 101, 97, 115, 111, 110], [112, 108, 97, 110], [111, 114, 100, 101, 114], [102, 111, 108, 108, 111, 119], [115, 101, 108, 108]]
def pi_tln : List Nat := [6, 4, 6, 4, 5, 6, 4]
def pi_st (xs : Nat → Int32) (L : Nat) (k : Nat) : Option pi_E :=
  if k < 1000000 then none
  else if k = 1000000 then some (.inl (10, 5, .inl pi_mcost))
  else if k = 1000050 then some (.inl (10, L, .inl xs))
  else if 1000001 ≤ k ∧ k < 1000008 then some (.inr (7, [.ref (k + 10), .int 0]))
  else if 1000011 ≤ k ∧ k < 1000018 then some (.inl (11, pi_tln.getD (k - 1000011) 0, .inl (fun j => (pi_txt.getD (k - 1000011) []).getD j 0)))
  else none
def pi_H0 (xs : Nat → Int32) (L : Nat) : pi_H := (pi_st xs L, 0, 0)
def pi_tm (i : Nat) : Term := .string "OrderLevels$Script" ((pi_str.getD i (0, "")).1)
theorem pi_range {N : Nat} {P : Nat → Prop} [DecidablePred P] (h : (List.range N).all (fun i => decide (P i)) = true) : ∀ i, i < N → P i := fun i hi => of_decide_eq_true (List.all_eq_true.mp h i (List.mem_range.mpr hi))
def pi_flat : List Cond := flatC (Jvm.Cond.and given_1 narrow_1)
theorem pi_f1 : ∀ i, i < 7 → Cond.exactly (pi_tm i) "java/lang/String" ∈ pi_flat := pi_range (by decide +kernel)
theorem pi_f2 : ∀ i, i < 7 → Cond.eq (.field (pi_tm i) "java/lang/String" "coder" "B") (.int 0) ∈ pi_flat := pi_range (by decide +kernel)
theorem pi_f3 : ∀ i, i < 7 → Cond.arrayOf (.field (pi_tm i) "java/lang/String" "value" "[B") .byte ∈ pi_flat := pi_range (by decide +kernel)
theorem pi_f4 : ∀ i, i < 7 → Cond.eq (.length (.field (pi_tm i) "java/lang/String" "value" "[B")) (.int (Int32.ofNat (pi_tln.getD i 0))) ∈ pi_flat := pi_range (by decide +kernel)
theorem pi_f5 : ∀ i, i < 7 → ∀ j, j < pi_tln.getD i 0 → Cond.eq (.elem (.field (pi_tm i) "java/lang/String" "value" "[B") (.int (Int32.ofNat j))) (.int ((pi_txt.getD i []).getD j 0)) ∈ pi_flat := by
  have h : ∀ i, i < 7 → (List.range (pi_tln.getD i 0)).all (fun j => decide (Cond.eq (.elem (.field (pi_tm i) "java/lang/String" "value" "[B") (.int (Int32.ofNat j))) (.int ((pi_txt.getD i []).getD j 0)) ∈ pi_flat)) = true := pi_range (by decide +kernel)
  intro i hi
  exact pi_range (h i hi)
theorem pi_f6 : ∀ i, i < 7 → ∀ j, j < 7 → i ≠ j → Cond.not (Cond.eq (pi_tm i) (pi_tm j)) ∈ pi_flat ∨ Cond.not (Cond.eq (pi_tm j) (pi_tm i)) ∈ pi_flat := by
  have h : ∀ i, i < 7 → (List.range 7).all (fun j => decide (i ≠ j → Cond.not (Cond.eq (pi_tm i) (pi_tm j)) ∈ pi_flat ∨ Cond.not (Cond.eq (pi_tm j) (pi_tm i)) ∈ pi_flat)) = true := pi_range (by decide +kernel)
  intro i hi
  exact pi_range (h i hi)
theorem pi_f7 : ∀ j, j < 5 → Cond.eq (.elem (.static "OrderLevels" "MOST_COST" "[I") (.int (Int32.ofNat j))) (.int (pi_mcost j)) ∈ pi_flat := pi_range (by decide +kernel)
theorem pi_f8 : Cond.arrayOf (.static "OrderLevels" "MOST_COST" "[I") .int ∈ pi_flat ∧ Cond.eq (.length (.static "OrderLevels" "MOST_COST" "[I")) (.int (Int32.ofNat 5)) ∈ pi_flat ∧ Cond.eq (.static "java/lang/String" "COMPACT_STRINGS" "Z") (.int 1) ∈ pi_flat ∧ Cond.isRef (.static "jdk/internal/util/Preconditions" "SIOOBE_FORMATTER" "Ljava/util/function/BiFunction;") ∈ pi_flat := by decide +kernel
theorem pi_f9 : Cond.laysStatic "OrderLevels" "MOST_COST" "[I" ∈ lw_tbl ∧ Cond.laysStatic "java/lang/String" "COMPACT_STRINGS" "Z" ∈ lw_tbl ∧ Cond.laysStatic "jdk/internal/util/Preconditions" "SIOOBE_FORMATTER" "Ljava/util/function/BiFunction;" ∈ lw_tbl ∧ Cond.initialized "OrderLevels" ∈ lw_tbl ∧ Cond.initialized "java/lang/String" ∈ lw_tbl ∧ Cond.initialized "jdk/internal/util/Preconditions" ∈ lw_tbl := by decide +kernel
theorem pi_f10 : Cond.arrayOver (.object "OrderLevels$Shop") ∈ lw_tbl ∧ Cond.arrayOver (.array .int) ∈ lw_tbl ∧ Cond.arrayOver (.array .long) ∈ lw_tbl ∧ Cond.arrayClass .int ∈ lw_tbl ∧ Cond.arrayClass .char ∈ lw_tbl ∧ Cond.arrayClass .long ∈ lw_tbl := by decide +kernel
theorem pi_f11 : ∀ i, i < 7 → Cond.stringRef "OrderLevels$Script" (pi_str.getD i (0, "")).1 (pi_str.getD i (0, "")).2 ∈ lw_tbl := pi_range (by decide +kernel)
theorem pi_f12 : ∀ i, i < 6 → Cond.instantiable ((pi_cl.getD i ("", pt_T0, 0)).1) ((pi_cl.getD i ("", pt_T0, 0)).2.2) ∈ lw_tbl := pi_range (by decide +kernel)
