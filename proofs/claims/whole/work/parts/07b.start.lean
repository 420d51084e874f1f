-- PART 07b: the law's start
theorem pi_arrC {args : Array Value} {s : State} {ty : FieldType} (h : (Cond.arrayClass ty).before args s = true) (hn : ∀ C, ty ≠ .object C) : ∃ c, ArrOfT s c ty ∧ va_RA s c ty := by
  obtain ⟨c, k, comp, h1, h2, h3⟩ := Cond.arrayClass_spec h
  refine ⟨c, fun N z => ⟨(fun q hq => by cases hq), k, h2, comp, h3⟩, ?_⟩
  cases ty <;> first | exact h1 | exact absurd rfl (hn _)
theorem pi_arrO {args : Array Value} {s : State} {C : String} (h : (Cond.arrayOver (.object C)).before args s = true) : ∃ c, ArrOfT s c (.object C) ∧ va_RA s c (.object C) := by
  obtain ⟨comp, c, k, h1, h2, h3, h4, h5⟩ := Cond.arrayOver_spec h
  exact ⟨c, fun N z => ⟨(fun q hq => by cases hq), k, h3, comp, h4⟩, k, comp, h3, h4, h1, h5⟩
theorem pi_arrA {args : Array Value} {s : State} {t : FieldType} (h : (Cond.arrayOver (.array t)).before args s = true) : ∃ c, ArrOfT s c (.array t) ∧ va_RA s c (.array t) := by
  obtain ⟨comp, c, k, h1, h2, h3, h4, h5⟩ := arrayOverA_spec h
  exact ⟨c, fun N z => ⟨(fun q hq => by cases hq), k, h3, comp, h4⟩, h5⟩
theorem pi_sat2 {g : pi_G} {k j : Nat} {U : State} {n : Nat} {f : Nat → Int32} {a : Nat} (hj : k - 1000000 = j) (h1 : g.2.2.1 j = some a) (h3 : va_T .byte a n (fun j => .int (f j)) (pi_A g) U U.heap) : pi_sat g k (.inl (11, n, .inl f)) U := by
  subst hj
  exact Or.inr (Or.inl ⟨n, f, a, rfl, h1, h3⟩)
theorem pi_sat3 {g : pi_G} {k j j2 : Nat} {U : State} {v a av : Nat} (hj : k - 1000000 = j) (h1 : g.2.2.1 j = some a) (h2 : 1000000 ≤ v) (hj2 : v - 1000000 = j2) (h3 : g.2.2.1 j2 = some av) (h4 : va_O "java/lang/String" a (pi_A g) U U.heap) (h5 : va_OF "java/lang/String" "value" "[B" (.ref av) a (pi_A g) U U.heap) (h6 : va_OF "java/lang/String" "coder" "B" (.int 0) a (pi_A g) U U.heap) : pi_sat g k (.inr (7, [.ref v, .int 0])) U := by
  subst hj hj2
  exact Or.inr (Or.inr ⟨v, a, av, rfl, h1, h2, h3, h4, h5, h6⟩)
set_option maxRecDepth 100000 in
theorem pi_start_env {p : Program} {s : State} {m : MethodId} {meth : Method} {c : Code} {b L : Nat} {xs : Nat → Int32} (C0 : lw_At p s m meth c b L xs) (hL : L < 2 ^ 31) : ∃ g : pi_G, pi_B g = s.heap.size ∧ g.2.2.2.2 = pi_st xs L ∧ pi_tv g (.ref 1000050) = .ref b ∧ pi_Env g s := by
  obtain ⟨hx, hb, hr, hml, hown, hts, hX, hbl, hlocks, hgv⟩ := id C0
  have hfl := flat_of_before _ hgv
  have hA : ∀ a : Nat, a < s.heap.size → ¬ (fun q => s.heap.size ≤ q) a := fun a ha => Nat.not_le.mpr ha
  have hcls : ∀ ci : Nat, ∃ q : ClassId × (Nat → Nat), ∀ y : vw_C, pi_cl[ci]? = some y → u_Kn s y.1 y.2.1 y.2.2 q.1 q.2 := by
    intro ci
    cases hcl : pi_cl[ci]? with
    | none => exact ⟨(0, fun _ => 0), fun y hy => by cases hy⟩
    | some y =>
      obtain ⟨Cn, T, N⟩ := y
      obtain ⟨q1, -, -⟩ := pi_cl_at hcl
      have hci : ci < 6 := (List.getElem?_eq_some_iff.mp hcl).1
      have hin := pi_f12 ci hci
      rw [List.getD_eq_getElem?_getD, hcl] at hin
      obtain ⟨cC, iS, hK⟩ := u_known (ws := u_ws Cn T N) (fun w hw => hts w (q1 w hw).1) (fun w hw => hw) (hts _ hin)
      exact ⟨(cC, iS), fun y hy => by cases hy; exact hK⟩
  obtain ⟨cd, hcd⟩ := Classical.axiomOfChoice hcls
  obtain ⟨o1, o2, o3, o4, o5, o6⟩ := pi_f10
  obtain ⟨a0, ha0⟩ := pi_arrC (hts _ o4) (fun C q => by cases q)
  obtain ⟨a1, ha1⟩ := pi_arrC (hts _ o5) (fun C q => by cases q)
  obtain ⟨a2, ha2⟩ := pi_arrC (hts _ o6) (fun C q => by cases q)
  obtain ⟨a3, ha3⟩ := pi_arrO (hts _ o1)
  obtain ⟨a4, ha4⟩ := pi_arrA (hts _ o2)
  obtain ⟨a5, ha5⟩ := pi_arrA (hts _ o3)
  obtain ⟨u1, u2, u3, u4⟩ := pi_f8
  obtain ⟨l1, l2, l3, l4, l5, l6⟩ := pi_f9
  obtain ⟨tm, htm, hT⟩ := va_Tof (N := 5) (f := fun j => .int (pi_mcost j)) (A := fun q => s.heap.size ≤ q) (by decide) (hfl _ u1) (va_eqt (hfl _ u2)) (fun j hj => va_eqt (hfl _ (pi_f7 j hj))) hA
  have hZ := va_Zof (hts _ l1) (hts _ l4) htm hA
  have hZc := va_Zof (hts _ l2) (hts _ l5) (va_eqi (hfl _ u3)) hA
  have hZs := va_Zqof (hts _ l3) (hts _ l6) (hfl _ u4) hA
  obtain ⟨adK, adV, hS, hSe⟩ := vk_Sof (N := 7) (tm := pi_tm) (len := pi_tln) (byt := pi_txt) (A := fun q => s.heap.size ≤ q) (by decide) (fun i hi => hfl _ (pi_f1 i hi)) (fun i hi => hfl _ (pi_f2 i hi)) (fun i hi => hfl _ (pi_f3 i hi)) (fun i hi => hfl _ (pi_f4 i hi)) (fun i hi j hj => hfl _ (pi_f5 i hi j hj)) (fun i j hi hj hij => (pi_f6 i hi j hj hij).imp (hfl _) (hfl _)) hA
  obtain ⟨f30, hf30⟩ : ∃ o : Option Nat, va_Z "jdk/internal/util/Preconditions" "SIOOBE_FORMATTER" "Ljava/util/function/BiFunction;" (va_rf o) (fun q => s.heap.size ≤ q) s s.heap := by
    rcases hZs with h | ⟨t, h⟩
    · exact ⟨none, h⟩
    · exact ⟨some t, h⟩
  have hXT : va_T .int b L (fun j => .int (xs j)) (fun q => s.heap.size ≤ q) s s.heap := by
    obtain ⟨scr, x1, x2, x3, x4, x5⟩ := hX
    exact ⟨scr, x1, x2, x3, Nat.le_of_eq x4.symm, by rw [x4] <;> rfl, x5, hA b hbl⟩
  let sv : Nat → Option Nat := fun j => if j = 0 then some tm else if j = 30 then f30 else if j = 50 then some b else if 1 ≤ j ∧ j < 8 then some (adK (j - 1)) else if 11 ≤ j ∧ j < 18 then some (adV (j - 11)) else some 0
  refine ⟨((fun k => (cd k).1, fun k => (cd k).2), (fun t => match t with | 0 => a0 | 1 => a1 | 2 => a2 | 3 => a3 | 4 => a4 | _ => a5), sv, s.heap.size, pi_st xs L), rfl, rfl, rfl, ⟨fun ci y hy => hcd ci y hy, fun k q hk => ?_⟩, fun own ix y hy => va_Nw.of rfl (hts _ hy), fun own ix hy => va_Nw.of rfl (hts _ hy), va_AO.of (hts _ o1), ?_, ?_, fun i q hq => ?_, ⟨tm, rfl, hZ⟩, hZc, hf30, fun k e hk => ?_, fun j hj => ?_⟩
  · match k, hk with
    | 0, hk => cases hk; exact ha0
    | 1, hk => cases hk; exact ha1
    | 2, hk => cases hk; exact ha2
    | 3, hk => cases hk; exact ha3
    | 4, hk => cases hk; exact ha4
    | 5, hk => cases hk; exact ha5
    | k + 6, hk => simp [pi_tysA] at hk
  · exact hts _ o2
  · exact hts _ o3
  · have hi : i < 7 := (List.getElem?_eq_some_iff.mp hq).1
    refine ⟨adK i, ?_, ?_⟩
    · show sv (1 + i) = _
      have : 1 + i ≠ 0 ∧ 1 + i ≠ 30 ∧ 1 + i ≠ 50 ∧ (1 ≤ 1 + i ∧ 1 + i < 8) := by omega
      simp only [sv, if_neg this.1, if_neg this.2.1, if_neg this.2.2.1, if_pos this.2.2.2, Nat.add_sub_cancel_left]
    · have hs := pi_f11 i hi
      have he := hSe i hi
      unfold pi_tm at he
      rw [List.getD_eq_getElem?_getD, hq] at hs he
      exact vk_R.of (hts _ hs) he
  · have hk : pi_st xs L k = some e := hk
    unfold pi_st at hk
    by_cases z0 : k < 1000000
    · rw [if_pos z0] at hk; cases hk
    rw [if_neg z0] at hk
    refine ⟨Nat.not_lt.mp z0, ?_⟩
    by_cases z1 : k = 1000000
    · rw [if_pos z1] at hk
      cases hk
      subst z1
      exact Or.inl ⟨5, pi_mcost, tm, rfl, rfl, hT⟩
    rw [if_neg z1] at hk
    by_cases z2 : k = 1000050
    · rw [if_pos z2] at hk
      cases hk
      subst z2
      exact Or.inl ⟨L, xs, b, rfl, rfl, hXT⟩
    rw [if_neg z2] at hk
    by_cases z3 : 1000001 ≤ k ∧ k < 1000008
    · rw [if_pos z3] at hk
      cases hk
      obtain ⟨i, hi, e0, e0', e9⟩ : ∃ i, i < 7 ∧ k - 1000000 = 1 + i ∧ k + 10 - 1000000 = 11 + i ∧ 1000000 ≤ k + 10 := ⟨k - 1000001, by omega, by omega, by omega, by omega⟩
      have e1 : sv (1 + i) = some (adK i) := by
        have : 1 + i ≠ 0 ∧ 1 + i ≠ 30 ∧ 1 + i ≠ 50 ∧ (1 ≤ 1 + i ∧ 1 + i < 8) := by omega
        simp only [sv, if_neg this.1, if_neg this.2.1, if_neg this.2.2.1, if_pos this.2.2.2, Nat.add_sub_cancel_left]
      have e2 : sv (11 + i) = some (adV i) := by
        have : 11 + i ≠ 0 ∧ 11 + i ≠ 30 ∧ 11 + i ≠ 50 ∧ ¬ (1 ≤ 11 + i ∧ 11 + i < 8) ∧ (11 ≤ 11 + i ∧ 11 + i < 18) := by omega
        simp only [sv, if_neg this.1, if_neg this.2.1, if_neg this.2.2.1, if_neg this.2.2.2.1, if_pos this.2.2.2.2, Nat.add_sub_cancel_left]
      obtain ⟨s1, s2, s3, s4⟩ := hS.1 i hi
      exact pi_sat3 e0 e1 e9 e0' e2 s1 s3 s2
    rw [if_neg z3] at hk
    by_cases z4 : 1000011 ≤ k ∧ k < 1000018
    · rw [if_pos z4] at hk
      cases hk
      obtain ⟨i, hi, e0, e3⟩ : ∃ i, i < 7 ∧ k - 1000000 = 11 + i ∧ k - 1000011 = i := ⟨k - 1000011, by omega, by omega, rfl⟩
      have e1 : sv (11 + i) = some (adV i) := by
        have : 11 + i ≠ 0 ∧ 11 + i ≠ 30 ∧ 11 + i ≠ 50 ∧ ¬ (1 ≤ 11 + i ∧ 11 + i < 8) ∧ (11 ≤ 11 + i ∧ 11 + i < 18) := by omega
        simp only [sv, if_neg this.1, if_neg this.2.1, if_neg this.2.2.1, if_neg this.2.2.2.1, if_pos this.2.2.2.2, Nat.add_sub_cancel_left]
      obtain ⟨s1, s2, s3, s4⟩ := hS.1 i hi
      rw [e3]
      exact pi_sat2 e0 e1 s4
    rw [if_neg z4] at hk
    cases hk
  · show ∃ a, sv j = some a
    simp only [sv]
    repeat' split
    all_goals first | exact ⟨_, rfl⟩ | exact absurd ‹_› hj
set_option maxRecDepth 100000 in
theorem pi_start {p : Program} {e : Env} {s : State} {m : MethodId} {below : List Frame} {meth : Method} {c : Code} (l : Launch) {b L : Nat} {xs : Nat → Int32} (hL : L ≤ 2048) (C0 : lw_At p s m meth c b L xs) (H' : pi_H) (hrun : ex 170 [.ref 1000050] (pi_H0 xs L) = some (some (.int 1), H')) (hc : H'.2.1 ≤ 600000) (hs : H'.2.2 ≤ 7302250) :
    W p l e room_1 s m #[Value.ref b] below meth c s.heap [] 0 0 (lw_Z below #[Value.ref b] s) (entryFrame m ([Value.ref b] : List Value).toArray 4) := by
  obtain ⟨hx, hb, hr, hml, hown, hts, hX, hbl, hlocks, hgv⟩ := id C0
  obtain ⟨g, g1, g2, g3, hE⟩ := pi_start_env C0 (by omega)
  have hM : pi_tab[170]? = some pm_La_law := rfl
  have C : pi_C g p room_1 s m #[Value.ref b] meth c pm_La_law 0 :=
    ⟨hx, hb, hml, ⟨"OrderLevelsLaw", rfl, hown⟩, fun w hw _ => hts w hw, hE, (fun h => (by cases h)), hr, hlocks, by decide, by decide, g1.symm⟩
  obtain ⟨n, hn⟩ := (ev_iff _ _ _ _ _ _).mp hrun
  have hR : pi_R g (pi_H0 xs L) s.heap := ⟨by rw [g1]; rfl, Nat.zero_le _, fun k x hk => Or.inr (by rw [g2]; exact hk)⟩
  obtain ⟨e1, e2⟩ := pi_entry g (n := 4) (a := [.ref 1000050]) (by decide)
  rw [show [Value.ref 1000050].map (pi_tv g) = [Value.ref b] by rw [List.map_cons, g3]; rfl] at e1
  rw [lg_entry_eq]
  refine pi_ok l n g p e room_1 s m #[Value.ref b] below meth c _ pm_La_law 0 0 170 (0, pi_ent (pi_nl 170) [.ref 1000050], [], pi_H0 xs L) _ H' hM hn C (by rw [Nat.zero_add]; exact hc) (by rw [Nat.zero_add]; exact hs) ?_ s.heap _ [] 0 0 hR e1 e2 va_S.rf rfl rfl
  intro i len pc Lx S hd hi Hp ls locs cells slots r1 r2 r3 r4 r5 r6
  obtain ⟨rfl, -, hcs⟩ := pi_retv hi
  have r5' : H'.2.1 = 0 + cells := r5
  have r6' : H'.2.2 = 0 + slots := r6
  rcases hcs with ⟨v, rfl, rfl, hv, hrt⟩ | ⟨v, rfl, rfl, hv, hrt⟩ | ⟨v, rfl, rfl, hv, hrt⟩ | ⟨rfl, rfl, hv, hrt⟩
  · cases hv
    refine va_forget (fun q hq => by have := r4.2.2 q hq; rw [← g1]; exact this) ?_
    refine W.widen (k := 600000) (n := 7302250) (by omega) (by omega) ?_
    exact lw_ret hx hb hr hlocks hd
  · cases hv
  · cases hv
  · cases hv
