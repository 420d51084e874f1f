-- PART 04: the tables hold what the tables' words say
def pi_t (w : Cond) : Bool := decide (w ∈ lw_tbl) && goodWord w
theorem pi_t_in {w : Cond} (h : pi_t w = true) : w ∈ lw_tbl ∧ goodWord w = true := by
  unfold pi_t at h
  rw [Bool.and_eq_true, decide_eq_true_eq] at h
  exact h
def pi_tck (tc : Nat) (d : String) : Bool := match parseFieldDescriptor d with
  | some .int => tc == 0
  | some .long => tc == 1
  | some .boolean => tc == 2
  | some (.object _) => tc == 3
  | some (.array _) => tc == 3
  | _ => false
def pi_flc (q : (Nat × Nat) × (Nat × Nat × Bool × Nat)) : Bool := match pi_own[q.1.1]? with
  | none => false
  | some own => match pi_cl[q.2.1]? with
    | some (_, T, N) => decide (q.2.2.1 < N) && (pi_t (.fieldLink own q.1.2 (T q.2.2.1).1 (T q.2.2.1).2.1 (T q.2.2.1).2.2.1) && ((q.2.2.2.1 == (T q.2.2.1).2.2.2) && ((!(T q.2.2.1).2.2.2 || decide ((T q.2.2.1).1 = own)) && pi_tck q.2.2.2.2 (T q.2.2.1).2.2.1)))
    | none => (q.2.1 == 7) && ((q.2.2.1 == 0 && pi_t (.fieldLink own q.1.2 "java/lang/String" "value" "[B")) || (q.2.2.1 == 1 && pi_t (.fieldLink own q.1.2 "java/lang/String" "coder" "B")))
theorem pi_flk_ok : pi_flk.all pi_flc = true := by decide +kernel
def pi_klc (q : (Nat × Nat) × (Nat × Int)) : Bool := match pi_own[q.1.1]? with
  | none => false
  | some own => match q.2.1 with
    | 0 => pi_t (.constant own q.1.2 (Int32.ofInt q.2.2))
    | 1 => pi_t (.constantLong own q.1.2 (Int64.ofInt q.2.2))
    | 2 => decide (own = "OrderLevels$Script") && (match pi_str[q.2.2.toNat]? with
      | some (ix, _) => ix == q.1.2
      | none => false)
    | _ => false
theorem pi_klk_ok : pi_klk.all pi_klc = true := by decide +kernel
def pi_nlc (q : (Nat × Nat) × Nat) : Bool := match pi_own[q.1.1]?, pi_cl[q.2]?, pi_dft[q.2]? with
  | some own, some (C, T, N), some fs => pi_t (.classLink own q.1.2 C) && (pi_t (.instantiable C N) && (pi_t (.initialized C) && (decide (fs.length = N) && (List.range N).all (fun j => decide ((parseFieldDescriptor (T j).2.2.1).map defaultValue = some (vp_V fs j))))))
  | _, _, _ => false
theorem pi_nlk_ok : pi_nlk.all pi_nlc = true := by decide +kernel
def pi_alc (q : (Nat × Nat) × Nat) : Bool := match pi_own[q.1.1]? with
  | none => false
  | some own => match q.2 with
    | 3 => pi_t (.classLink own q.1.2 "OrderLevels$Shop")
    | 4 => pi_t (.classLink own q.1.2 "[[I")
    | 5 => pi_t (.classLink own q.1.2 "[[J")
    | _ => false
theorem pi_alk_ok : pi_alk.all pi_alc = true := by decide +kernel
def pi_slc (q : (Nat × Nat) × Nat) : Bool := match pi_own[q.1.1]? with
  | none => false
  | some own => match q.2 with
    | 0 => decide (Cond.fieldLinkNest own q.1.2 "OrderLevels" "MOST_COST" "[I" "OrderLevels" ∈ lw_tbl)
    | 1 => pi_t (.fieldLink own q.1.2 "java/lang/String" "COMPACT_STRINGS" "Z")
    | 2 => pi_t (.fieldLink own q.1.2 "jdk/internal/util/Preconditions" "SIOOBE_FORMATTER" "Ljava/util/function/BiFunction;")
    | _ => false
theorem pi_slk_ok : pi_slk.all pi_slc = true := by decide +kernel
def pi_clc (q : vw_C) : Bool := (u_ws q.1 q.2.1 q.2.2).all (fun w => pi_t w) && ((List.range q.2.2).all (fun j => (parseFieldDescriptor (q.2.1 j).2.2.1).isSome) && (List.range q.2.2).all (fun a => (List.range q.2.2).all (fun b => (a == b) || decide ((q.2.1 a).2.1 ≠ (q.2.1 b).2.1))))
theorem pi_cl_ok : pi_cl.all pi_clc = true := by decide +kernel
theorem pi_arr_ok : (pi_t (.arrayClass .int) && (pi_t (.arrayClass .char) && pi_t (.arrayClass .long))) = true := by decide +kernel
def pi_mc (M : pi_M) : Bool := (!pm_in M || decide ((pm_nm M).name = "<init>")) && decide (pi_own[pm_ow M]? = some (pm_nm M).cls)
theorem pi_tab_ok : pi_tab.all pi_mc = true := by decide +kernel
theorem pi_tab_pf : pi_tab.all (fun M => plainFor (pm_nm M)) = true := by decide +kernel
