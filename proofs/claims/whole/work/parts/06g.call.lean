-- PART 06g: calls
def pi_ws (M : pi_M) : List Cond := Cond.code (pm_nm M) (pm_by M) (pm_ml M) (pm_rt M) :: lw_tbl.filter goodWord
def pi_Pc (g : pi_G) (a : List Value) (H : pi_H) : Array Value → State → Prop := va_Pc (a.map (pi_tv g)) (fun U => pi_R g H U.heap ∧ pi_Env g U)
def pi_Q (g : pi_G) (r : Option Value) (H' : pi_H) : Array Value → State → Outcome → State → Prop := fun _ st o t => o = .returned (r.map (pi_tv g)) ∧ pi_R g H' t.heap ∧ va_F (pi_A g) st t
def pi_rm (M : pi_M) (mc ms : Nat) : Room := { frames := pm_rk M, cells := mc, slots := ms, locals := 35 * pm_rk M }
def pi_Met (l : Launch) (g : pi_G) (M : pi_M) (a : List Value) (H : pi_H) (r : Option Value) (H' : pi_H) : Prop :=
  Met l (pm_nm M) (pi_ws M) (pi_rm M (H'.2.1 - H.2.1) (H'.2.2 - H.2.2)) (pi_Pc g a H) (pi_Q g r H') (H'.2.1 - H.2.1) (H'.2.2 - H.2.2) (pi_A g)
section PIG
variable {g : pi_G} {p : Program} {l : Launch} {e : Env} {R : Room} {s : State} {m : MethodId} {args : Array Value} {below : List Frame} {meth : Method} {c : Code} {Q : State → Prop} {M : pi_M} {n0 z0 : Nat}
theorem pi_cats_map (S : List Value) : ((S.map (pi_tv g)).map fun v => v.category).sum = pi_cats S := pi_tv_cats S
theorem pi_n_oin {ix pc a : Nat} {L : pi_L} {r : List Value} {H : pi_H} {F : pi_F} (C : pi_C g p R s m args meth c M n0) (hd : decode (pm_by M) pc = .ok (.invokespecial ix, 3)) {m' n : Nat} (hl : pi_mlk.lookup (pm_ow M, ix) = some (m', n, 5)) (h : pi_g (decide (a < 1000000) && decide (1 ≤ pm_rk M) && decide (pi_cats r ≤ 8)) (pi_go (pc + 3) L r H) = some (.inl F))
    (kk : pi_W g p l e R s m args below meth c Q M n0 z0 F) : pi_W g p l e R s m args below meth c Q M n0 z0 (pc, L, .ref a :: r, H) := by
  obtain ⟨hb, h1⟩ := pi_g_spec h
  rw [Bool.and_eq_true, Bool.and_eq_true, decide_eq_true_eq, decide_eq_true_eq, decide_eq_true_eq] at hb
  obtain ⟨⟨b1, b2⟩, b3⟩ := hb
  obtain rfl := pi_go_spec h1
  obtain ⟨hx, hbb, hml, ⟨own, ho1, ho2⟩, hts, hE, -, -, -, hfr, hlo, -⟩ := id C
  obtain ⟨ps, hq⟩ := pi_mlk_ok _ (pi_lk_mem hl)
  unfold pi_mlc at hq
  dsimp only at hq
  rw [ho1] at hq
  have hq : (pi_p ps[0]? (.methodLink own ix Lib.objectInit) && (pi_p ps[1]? (.instanceMethod Lib.objectInit) && pi_p ps[2]? (.code Lib.objectInit ⟨#[0xb1]⟩ 1 none))) = true := hq
  rw [Bool.and_eq_true, Bool.and_eq_true] at hq
  obtain ⟨q1, q2, q3⟩ := hq
  intro Hp ls locs cells slots r1 r2 r3 r4 r5 r6
  show W p l e R s m args below meth c Hp locs cells slots Q (F0 m pc ls (pi_tv g (.ref a) :: r.map (pi_tv g)))
  rw [pi_tv_dyn b1]
  refine W.objInit hx hbb ho2 (hts _ (pi_p_in q1).1 (pi_p_in q1).2) (hts _ (pi_p_in q2).1 (pi_p_in q2).2) (hts _ (pi_p_in q3).1 (pi_p_in q3).2) rfl (by rw [hml]; exact r2.1) rfl hd (Nat.le_trans b2 hfr) ?_ (kk Hp ls locs cells slots r1 r2 r3 r4 r5 r6)
  rw [pi_cats_map]
  show 2 * 0 + pi_cats r + 12 ≤ R.locals
  omega
/-- what comes back from a call, put into the caller's walk -/
theorem pi_back {pc : Nat} {L : pi_L} {S : List Value} {H H1 : pi_H} {r : Option Value} {rest : List Value} {a' : Array Value}
    (hmono : H.2.1 ≤ H1.2.1 ∧ H.2.2 ≤ H1.2.2) (hb1 : H1.2.1 ≤ n0 + R.cells) (hb2 : H1.2.2 ≤ z0 + R.slots)
    (run : ∀ (Hp : Heap) (ls : Array Slot) (locs : List Loc) (cells slots : Nat), pi_R g H Hp → ls.size = pm_ml M → va_S (pi_A g) s.heap Hp locs → cells + (H1.2.1 - H.2.1) ≤ R.cells ∧ slots + (H1.2.2 - H.2.2) ≤ R.slots → va_Run p l e R s m args below meth c Hp locs cells slots (H1.2.1 - H.2.1) (H1.2.2 - H.2.2) (F0 m pc ls (S.map (pi_tv g))) (rest.map (pi_tv g)) (pi_Q g r H1 a') (pi_A g))
    (kk : pi_W g p l e R s m args below meth c Q M n0 z0 (pc + 3, L, r.toList ++ rest, H1)) : pi_W g p l e R s m args below meth c Q M n0 z0 (pc, L, S, H) := by
  intro Hp ls locs cells slots r1 r2 r3 r4 r5 r6
  have r5' : H.2.1 = n0 + cells := r5
  have r6' : H.2.2 = z0 + slots := r6
  have hr := run Hp ls locs cells slots r1 r2.1 r4 ⟨by omega, by omega⟩
  intro T hT X
  obtain ⟨v, st₀, t, T', Ls, h0, X', hL, e1, e2, ⟨hv, hR, hz, hk⟩, st⟩ := hr T hT X
  have hv : v = r.map (pi_tv g) := Outcome.returned.inj hv
  rw [h0] at hz hk
  have S1 : va_S (pi_A g) s.heap T'.heap (locs ++ Ls) := ⟨Nat.le_trans r4.1 (by rw [e1]; exact hz), fun q h1 h2 => by rw [e1, hk q (Nat.lt_of_lt_of_le h1 r4.1) h2]; exact r4.2.1 q h1 h2, fun q hq => by
      rcases List.mem_append.mp hq with h | h
      · exact r4.2.2 q h
      · exact hL q h⟩
  have k1 := kk T'.heap ls (locs ++ Ls) (cells + (H1.2.1 - H.2.1)) (slots + (H1.2.2 - H.2.2)) (by rw [e1]; exact hR) r2 r3 S1 (by show H1.2.1 = _; omega) (by show H1.2.2 = _; omega)
  obtain ⟨t2, a1, b1⟩ := k1 T' rfl X'
  refine ⟨t2, st t2 ?_, b1⟩
  have e3 : (r.toList ++ rest).map (pi_tv g) = v.toList ++ rest.map (pi_tv g) := by
    rw [List.map_append, hv]
    cases r <;> rfl
  have a2 : Steps p.tables e below (T'.setTop (F0 m (pc + 3) ls ((r.toList ++ rest).map (pi_tv g)))) t2 := a1
  rw [e3] at a2
  exact a2
theorem pi_wsG (C : pi_C g p R s m args meth c M n0) {M' : pi_M} (hc : Cond.code (pm_nm M') (pm_by M') (pm_ml M') (pm_rt M') ∈ lw_tbl ∧ goodWord (.code (pm_nm M') (pm_by M') (pm_ml M') (pm_rt M')) = true) : ∀ w ∈ pi_ws M', ∀ (a' : Array Value) (U : State), s.WarmedH U.vm → w.before a' U = true := by
  intro w hw a' U hW
  have hm : w ∈ lw_tbl ∧ goodWord w = true := by
    rcases List.mem_cons.mp hw with rfl | hw
    · exact hc
    · exact List.mem_filter.mp hw
  exact word_at hW (good_of_word hm.2) (C.2.2.2.2.1 w hm.1 hm.2)
theorem pi_blind {a : List Value} {H : pi_H} : FrameBlind (pi_Pc g a H) := fun a' U gg mk h => ⟨h.1, h.2.1, h.2.2.warm (State.WarmedH.refl U) (fun _ _ _ => rfl)⟩
theorem pi_pre (C : pi_C g p R s m args meth c M n0) {a : List Value} {H : pi_H} {Hp : Heap} {locs : List Loc} (r1 : pi_R g H Hp) (r4 : va_S (pi_A g) s.heap Hp locs) : ∀ U : State, U.heap = Hp → s.WarmedH U.vm → pi_Pc g a H (a.map (pi_tv g)).toArray U :=
  fun U hU hW => ⟨rfl, by rw [hU]; exact r1, C.2.2.2.2.2.1.warm hW (fun q h1 h2 => by rw [hU]; exact r4.2.1 q h1 h2)⟩
/-- a call of any kind, by what the tables say of it -/
theorem pi_n_call {i : Instr} {pc ix : Nat} {L : pi_L} {S : List Value} {H H1 : pi_H} {m' n kd : Nat} {M' : pi_M} {k : Nat} {r : Option Value} (C : pi_C g p R s m args meth c M n0) (hd : decode (pm_by M) pc = .ok (i, 3)) (hl : pi_mlk.lookup (pm_ow M, ix) = some (m', n, kd)) (hM' : pi_tab[m']? = some M')
    (hi : (i = .invokevirtual ix ∧ kd = 0 ∧ k = n + 1 ∧ pi_rcv m' H S[n]? = true) ∨ (i = .invokestatic ix ∧ (kd = 1 ∨ kd = 3) ∧ k = n) ∨ (i = .invokespecial ix ∧ (kd = 2 ∨ kd = 4) ∧ k = n + 1 ∧ pi_rcd S[n]? = true))
    (hrk : pm_rk M' < pm_rk M) (hk : k ≤ S.length) (hcat : pi_cats (S.drop k) ≤ 8)
    (hmet : pi_Met l g M' (S.take k).reverse H r H1) (hmono : H.2.1 ≤ H1.2.1 ∧ H.2.2 ≤ H1.2.2) (hb1 : H1.2.1 ≤ n0 + R.cells) (hb2 : H1.2.2 ≤ z0 + R.slots)
    (kk : pi_W g p l e R s m args below meth c Q M n0 z0 (pc + 3, L, r.toList ++ S.drop k, H1)) : pi_W g p l e R s m args below meth c Q M n0 z0 (pc, L, S, H) := by
  obtain ⟨hx, hbb, hml, ⟨own, ho1, ho2⟩, hts, hE, -, -, -, hfr, hlo, -⟩ := id C
  obtain ⟨ps, hq⟩ := pi_mlk_ok _ (pi_lk_mem hl)
  have base : kd = 0 ∨ kd = 1 ∨ kd = 2 ∨ kd = 3 ∨ kd = 4 := by rcases hi with ⟨-, q, -⟩ | ⟨-, q, -⟩ | ⟨-, q, -⟩ <;> omega
  have hq : (pi_p ps[0]? (.code (pm_nm M') (pm_by M') (pm_ml M') (pm_rt M')) && (pi_p ps[1]? (.initialized (pm_nm M').cls) && (decide (pm_ml M' ≤ 12) && (decide ((pm_nm M').cls ≠ "java/lang/invoke/MethodHandle" ∧ (pm_nm M').cls ≠ "java/lang/invoke/VarHandle" ∧ (parseMethodDescriptor (pm_nm M').desc).map (fun d => d.parameters.length) = some n) && (match kd with
          | 0 => pi_p ps[2]? (.methodLink own ix (pm_nm M')) && (pi_p ps[3]? (.instanceMethod (pm_nm M')) && (pi_p ps[4]? (.selects (pm_nm M').cls (pm_nm M') (pm_nm M')) && decide (pi_own[pm_ow M']? = some (pm_nm M').cls)))
          | 1 => pi_p ps[2]? (.methodLink own ix (pm_nm M')) && pi_p ps[3]? (.static (pm_nm M'))
          | 2 => pi_p ps[2]? (.methodLink own ix (pm_nm M')) && (pi_p ps[3]? (.instanceMethod (pm_nm M')) && decide ((pm_nm M').name = "<init>" ∧ pm_rt M' = none))
          | 3 => pi_pn ps[2]? (.methodLinkNest own ix (pm_nm M') "OrderLevels") && pi_p ps[3]? (.static (pm_nm M'))
          | 4 => pi_pn ps[2]? (.methodLinkNest own ix (pm_nm M') "OrderLevels") && (pi_p ps[3]? (.instanceMethod (pm_nm M')) && decide ((pm_nm M').name = "<init>" ∧ pm_rt M' = none))
          | _ => false))))) = true := by
    unfold pi_mlc at hq
    dsimp only at hq
    rw [ho1] at hq
    rcases base with rfl | rfl | rfl | rfl | rfl <;> (dsimp only at hq; rw [hM'] at hq; exact hq)
  rw [Bool.and_eq_true, Bool.and_eq_true, Bool.and_eq_true, Bool.and_eq_true, decide_eq_true_eq, decide_eq_true_eq] at hq
  obtain ⟨w1, w2, hm12, hdsc, hkd⟩ := hq
  have hcode := pi_p_in w1
  have hini := hts _ (pi_p_in w2).1 (pi_p_in w2).2
  have hlen : ∀ sig, parseMethodDescriptor (pm_nm M').desc = some sig → n = sig.parameters.length := fun sig h => by
    have h2 := hdsc.2.2
    rw [h] at h2
    exact (Option.some.inj h2).symm
  have cb : ∀ (hlk : (Cond.methodLink own ix (pm_nm M')).before args s = true), CallB R s args own ix (pm_nm M') (pm_by M') (pm_ml M') (pm_rt M') (pi_ws M') (pi_rm M' (H1.2.1 - H.2.1) (H1.2.2 - H.2.2)) (H1.2.1 - H.2.1) (H1.2.2 - H.2.2) n := fun hlk =>
    ⟨rfl, rfl, by show pm_rk M' + 1 ≤ R.frames; omega, by show 8 + (pm_ml M' + 11) + 35 * pm_rk M' ≤ R.locals; omega, pi_wsG C hcode, List.mem_cons_self, hts _ hcode.1 hcode.2, hini, ⟨hdsc.1, hdsc.2.1⟩, hlen, hlk⟩
  have cn : ∀ (hlk : (Cond.methodLinkNest own ix (pm_nm M') "OrderLevels").before args s = true), va_CN R s args own ix (pm_nm M') "OrderLevels" (pm_by M') (pm_ml M') (pm_rt M') (pi_ws M') (pi_rm M' (H1.2.1 - H.2.1) (H1.2.2 - H.2.2)) (H1.2.1 - H.2.1) (H1.2.2 - H.2.2) n := fun hlk =>
    ⟨⟨rfl, rfl, by show pm_rk M' + 1 ≤ R.frames; omega, by show 8 + (pm_ml M' + 11) + 35 * pm_rk M' ≤ R.locals; omega, pi_wsG C hcode, List.mem_cons_self⟩, hts _ hcode.1 hcode.2, hini, ⟨hdsc.1, hdsc.2.1⟩, hlen, hlk⟩
  have fx : CallFix p m c (pm_by M) (pm_ml M) s args (lw_tbl.filter goodWord) own := ⟨hx, hbb, hml, ho2, fun w hw => hts w (List.mem_filter.mp hw).1 (List.mem_filter.mp hw).2⟩
  have hcat8 : ∀ ls : Array Slot, 2 * (F0 m pc ls (S.map (pi_tv g))).monitorRoom + (((S.drop k).map (pi_tv g)).map fun v => v.category).sum ≤ 8 := fun ls => by rw [pi_cats_map]; show 2 * 0 + _ ≤ 8; omega
  -- the stack in its parts
  have hst0 : S.map (pi_tv g) = (((S.take n).reverse.map (pi_tv g))).reverse ++ (S.drop n).map (pi_tv g) := by
    rw [← List.map_reverse, List.reverse_reverse, ← List.map_append, List.take_append_drop]
  have hst1 : ∀ a, S[n]? = some a → S.map (pi_tv g) = (((S.take n).reverse.map (pi_tv g))).reverse ++ pi_tv g a :: (S.drop (n + 1)).map (pi_tv g) ∧ (S.take (n + 1)).reverse = a :: (S.take n).reverse := fun a ha => by
    obtain ⟨hlt, hge⟩ := List.getElem?_eq_some_iff.mp ha
    refine ⟨?_, ?_⟩
    · rw [hst0, List.drop_eq_getElem_cons hlt, hge, List.map_cons]
    · rw [List.take_succ, ha]
      simp
  rcases hi with ⟨rfl, rfl, rfl, hrc⟩ | ⟨rfl, hkk, rfl⟩ | ⟨rfl, hkk, rfl, hrc⟩
  · have hkd : (pi_p ps[2]? (.methodLink own ix (pm_nm M')) && (pi_p ps[3]? (.instanceMethod (pm_nm M')) && (pi_p ps[4]? (.selects (pm_nm M').cls (pm_nm M') (pm_nm M')) && decide (pi_own[pm_ow M']? = some (pm_nm M').cls)))) = true := hkd
    rw [Bool.and_eq_true, Bool.and_eq_true, Bool.and_eq_true, decide_eq_true_eq] at hkd
    obtain ⟨v1, v2, v3, v4⟩ := hkd
    unfold pi_rcv at hrc
    split at hrc
    next ad M2 hs hm2 =>
      cases hM'.symm.trans hm2
      obtain ⟨e1, e2⟩ := hst1 _ hs
      rw [e2] at hmet
      refine pi_back (a' := #[]) (S := S) (rest := S.drop (n + 1)) hmono hb1 hb2 (fun Hp ls locs cells slots r1 hsz r4 hf => ?_) kk
      have hrecv : ∃ b, pi_tv g (.ref ad) = .ref b ∧ ∃ cellB : Cell, Hp[b]? = some cellB ∧ cellB.vm.isStatics = false ∧ s.vm.findClass (pm_nm M').cls = some cellB.cls := by
        cases hgo : pi_get H ad with
        | none => rw [hgo] at hrc; cases hrc
        | some x =>
          rw [hgo] at hrc
          cases x with
          | inl z => cases hrc
          | inr o =>
            obtain ⟨ci, fs⟩ := o
            have hci : ci = pm_ow M' := eq_of_beq hrc
            subst hci
            cases hdy : pi_dyn (.inr (pm_ow M', fs)) with
            | true =>
              obtain ⟨d1, d2, d3⟩ := pi_dyn_at r1 hE hgo hdy
              refine ⟨_, pi_tv_dyn d2, ?_⟩
              have hlt6 : pm_ow M' < 6 := of_decide_eq_true hdy
              obtain ⟨y, hy⟩ : ∃ y, pi_cl[pm_ow M']? = some y := ⟨_, List.getElem?_eq_getElem (show pm_ow M' < pi_cl.length from hlt6)⟩
              obtain ⟨cell, c1, c2, c3⟩ := va_recv hE.1 (pi_P1 d3) hy (q0 := 0) rfl
              refine ⟨cell, c1, c2, ?_⟩
              have hnm : y.1 = (pm_nm M').cls := by
                have : ∀ j, j < 6 → (pi_cl[j]?).map (fun y => y.1) = pi_own[j]? := by decide +kernel
                have h3 := this _ hlt6
                rw [hy, v4] at h3
                exact Option.some.inj h3
              rw [← hnm]
              exact c3
            | false =>
              obtain ⟨d2, d3⟩ := pi_sta_at r1 hE hgo hdy
              rcases d3 with ⟨_, _, _, q1, -⟩ | ⟨_, _, _, q1, -⟩ | ⟨w, a', av, q1, q2, q3, q4, q5, -⟩
              · cases q1
              · cases q1
              · have h7 : pm_ow M' = 7 := by injection q1 with q1; exact (Prod.mk.inj q1).1
                refine ⟨a', pi_tv_st d2 q2, ?_⟩
                obtain ⟨cell, c1, c2, c3, c4⟩ := q5.kept r4.2.1
                have hnm : (pm_nm M').cls = "java/lang/String" := by
                  rw [h7] at v4
                  exact (Option.some.inj v4).symm
                rw [hnm]
                exact ⟨cell, c1, c2, c3⟩
      obtain ⟨b, hb, hcell⟩ := hrecv
      rw [hb] at e1
      have hM0 : Met l (pm_nm M') (pi_ws M') (pi_rm M' (H1.2.1 - H.2.1) (H1.2.2 - H.2.2)) (pi_Pc g (.ref ad :: (S.take n).reverse) H) (pi_Q g r H1) (H1.2.1 - H.2.1) (H1.2.2 - H.2.2) (pi_A g) := hmet
      have hpre := pi_pre C (a := .ref ad :: (S.take n).reverse) r1 r4
      rw [List.map_cons, hb] at hpre
      exact va_runV (C := (pm_nm M').cls) fx hM0 ⟨cb (hts _ (pi_p_in v1).1 (pi_p_in v1).2), hts _ (pi_p_in v2).1 (pi_p_in v2).2, hts _ (pi_p_in v3).1 (pi_p_in v3).2⟩ ⟨pi_blind, hcell, hpre⟩ rfl (by simp; omega) hsz e1 (hcat8 ls) hd hf
    next => cases hrc
  · have hM0 : Met l (pm_nm M') (pi_ws M') (pi_rm M' (H1.2.1 - H.2.1) (H1.2.2 - H.2.2)) (pi_Pc g (S.take k).reverse H) (pi_Q g r H1) (H1.2.1 - H.2.1) (H1.2.2 - H.2.2) (pi_A g) := hmet
    refine pi_back (a' := #[]) (S := S) (rest := S.drop k) hmono hb1 hb2 (fun Hp ls locs cells slots r1 hsz r4 hf => ?_) kk
    have hpre := pi_pre C (a := (S.take k).reverse) r1 r4
    rcases hkk with rfl | rfl
    · have hkd : (pi_p ps[2]? (.methodLink own ix (pm_nm M')) && pi_p ps[3]? (.static (pm_nm M'))) = true := hkd
      rw [Bool.and_eq_true] at hkd
      obtain ⟨v1, v2⟩ := hkd
      exact va_runS (As := (S.take k).reverse.map (pi_tv g)) fx hM0 ⟨cb (hts _ (pi_p_in v1).1 (pi_p_in v1).2), hts _ (pi_p_in v2).1 (pi_p_in v2).2⟩ ⟨pi_blind, hpre⟩ rfl (by simp; omega) hsz hst0 (hcat8 ls) hd hf
    · have hkd : (pi_pn ps[2]? (.methodLinkNest own ix (pm_nm M') "OrderLevels") && pi_p ps[3]? (.static (pm_nm M'))) = true := hkd
      rw [Bool.and_eq_true] at hkd
      obtain ⟨v1, v2⟩ := hkd
      exact va_runSN (As := (S.take k).reverse.map (pi_tv g)) (host := "OrderLevels") fx hM0 ⟨cn (va_Nw.use rfl (hE.2.1 own ix _ (pi_pn_in v1))), hts _ (pi_p_in v2).1 (pi_p_in v2).2, trivial⟩ ⟨pi_blind, hpre⟩ rfl (by simp; omega) hsz hst0 (hcat8 ls) hd hf
  · unfold pi_rcd at hrc
    split at hrc
    next ad hs =>
      have had : ad < 1000000 := of_decide_eq_true hrc
      obtain ⟨e1, e2⟩ := hst1 _ hs
      rw [e2] at hmet
      rw [pi_tv_dyn had] at e1
      refine pi_back (a' := #[]) (S := S) (rest := S.drop (n + 1)) hmono hb1 hb2 (fun Hp ls locs cells slots r1 hsz r4 hf => ?_) kk
      have hM0 : Met l (pm_nm M') (pi_ws M') (pi_rm M' (H1.2.1 - H.2.1) (H1.2.2 - H.2.2)) (pi_Pc g (.ref ad :: (S.take n).reverse) H) (pi_Q g r H1) (H1.2.1 - H.2.1) (H1.2.2 - H.2.2) (pi_A g) := hmet
      have hpre := pi_pre C (a := .ref ad :: (S.take n).reverse) r1 r4
      rw [List.map_cons, pi_tv_dyn had] at hpre
      rcases hkk with rfl | rfl
      · have hkd : (pi_p ps[2]? (.methodLink own ix (pm_nm M')) && (pi_p ps[3]? (.instanceMethod (pm_nm M')) && decide ((pm_nm M').name = "<init>" ∧ pm_rt M' = none))) = true := hkd
        rw [Bool.and_eq_true, Bool.and_eq_true, decide_eq_true_eq] at hkd
        obtain ⟨v1, v2, v3, v4⟩ := hkd
        have cb0 := cb (hts _ (pi_p_in v1).1 (pi_p_in v1).2)
        rw [v4] at cb0
        exact va_runI fx hM0 ⟨cb0, v3, hts _ (pi_p_in v2).1 (pi_p_in v2).2⟩ ⟨pi_blind, hpre⟩ rfl (by simp; omega) hsz e1 (hcat8 ls) hd hf
      · have hkd : (pi_pn ps[2]? (.methodLinkNest own ix (pm_nm M') "OrderLevels") && (pi_p ps[3]? (.instanceMethod (pm_nm M')) && decide ((pm_nm M').name = "<init>" ∧ pm_rt M' = none))) = true := hkd
        rw [Bool.and_eq_true, Bool.and_eq_true, decide_eq_true_eq] at hkd
        obtain ⟨v1, v2, v3, v4⟩ := hkd
        have cn0 := cn (va_Nw.use rfl (hE.2.1 own ix _ (pi_pn_in v1)))
        rw [v4] at cn0
        exact va_runIN (host := "OrderLevels") fx hM0 ⟨cn0, v3, hts _ (pi_p_in v2).1 (pi_p_in v2).2⟩ ⟨pi_blind, hpre⟩ rfl (by simp; omega) hsz e1 (hcat8 ls) hd hf
    next => cases hrc
end PIG
