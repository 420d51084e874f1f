-- PART 10: rewriting rules, what they stand on
noncomputable def kv (m pc : Nat) (L : pi_L) (S : List Value) (H : pi_H) (o : Option Value) : Option (Option Value × pi_H) := match o with
  | some v => ev m pc L (v :: S) H
  | none => none
noncomputable def kh (m pc : Nat) (L : pi_L) (S : List Value) (o : Option pi_H) : Option (Option Value × pi_H) := match o with
  | some H => ev m pc L S H
  | none => none
noncomputable def kn (m pc : Nat) (L : pi_L) (S : List Value) (H : pi_H) (o : Option Nat) : Option (Option Value × pi_H) := match o with
  | some n => ev m pc L (.int (nI n) :: S) H
  | none => none
noncomputable def kc (m pc : Nat) (L : pi_L) (S : List Value) (o : Option (Option Value × pi_H)) : Option (Option Value × pi_H) := match o with
  | some (r, H) => ev m pc L (r.toList ++ S) H
  | none => none
theorem kv_s (m pc : Nat) (L : pi_L) (S : List Value) (H : pi_H) (v : Value) : kv m pc L S H (some v) = ev m pc L (v :: S) H := rfl
theorem kh_s (m pc : Nat) (L : pi_L) (S : List Value) (H : pi_H) : kh m pc L S (some H) = ev m pc L S H := rfl
theorem kn_s (m pc : Nat) (L : pi_L) (S : List Value) (H : pi_H) (n : Nat) : kn m pc L S H (some n) = ev m pc L (.int (nI n) :: S) H := rfl
theorem kc_v (m pc : Nat) (L : pi_L) (S : List Value) (H : pi_H) (v : Value) : kc m pc L S (some (some v, H)) = ev m pc L (v :: S) H := rfl
theorem kc_n (m pc : Nat) (L : pi_L) (S : List Value) (H : pi_H) : kc m pc L S (some (none, H)) = ev m pc L S H := rfl
theorem kv_i (m pc : Nat) (L : pi_L) (S : List Value) (H : pi_H) (c : Prop) [Decidable c] (a b : Option Value) : kv m pc L S H (if c then a else b) = if c then kv m pc L S H a else kv m pc L S H b := by split <;> rfl
theorem kh_i (m pc : Nat) (L : pi_L) (S : List Value) (c : Prop) [Decidable c] (a b : Option pi_H) : kh m pc L S (if c then a else b) = if c then kh m pc L S a else kh m pc L S b := by split <;> rfl
theorem kc_i (m pc : Nat) (L : pi_L) (S : List Value) (c : Prop) [Decidable c] (a b : Option (Option Value × pi_H)) : kc m pc L S (if c then a else b) = if c then kc m pc L S a else kc m pc L S b := by split <;> rfl
/-- the rest of a copy between int arrays -/
def pi_cp (H : pi_H) (a : Nat) (sp : Int32) (b : Nat) (dp n : Int32) : Option pi_H := match pi_get H a, pi_get H b with
  | some (.inl (t0, n0, .inl f)), some (.inl (t1, n1, .inl g)) => if t0 == 0 && t1 == 0 && pi_arr f g n0 n1 sp dp n then some (pi_set H b (.inl (t1, n1, .inl (va_cpy f g sp.toNatClampNeg dp.toNatClampNeg n.toNatClampNeg)))) else none
  | _, _ => none
section
variable {m pc len pc' : Nat} {M : pi_M} {i : Instr} {L L' : pi_L} {S S' : List Value} {H H' : pi_H}
theorem ev_pe (hM : pi_tab[m]? = some M) (hd : decode (pm_by M) pc = .ok (i, len)) : pi_step m (pc, L, S, H) = pi_ins M i len pc L S H := by
  unfold pi_step
  rw [hM]
  dsimp only
  rw [hd]
theorem ev_st (hM : pi_tab[m]? = some M) (hd : decode (pm_by M) pc = .ok (i, len)) (h : pi_ins M i len pc L S H = pi_go pc' L' S' H') : ev m pc L S H = ev m pc' L' S' H' := ev_next ((ev_pe hM hd).trans h)
theorem ev_sg {b : Bool} (hM : pi_tab[m]? = some M) (hd : decode (pm_by M) pc = .ok (i, len)) (h : pi_ins M i len pc L S H = pi_g b (pi_go pc' L' S' H')) (hb : b = true) : ev m pc L S H = ev m pc' L' S' H' := by
  subst hb
  exact ev_st hM hd h
theorem ev_rd {a : Nat} (hM : pi_tab[m]? = some M) (hd : decode (pm_by M) pc = .ok (i, len)) (h : pi_ins M i len pc L S H = pi_g (!(a == 1000030)) (pi_go pc' L' S' H')) (hb : (a == 1000030) = false) : ev m pc L S H = ev m pc' L' S' H' := by
  rw [hb] at h
  exact ev_st hM hd h
theorem ev_ii {k : Nat} {x : Int32} {n : Int} (v : Int32) (hM : pi_tab[m]? = some M) (hd : decode (pm_by M) pc = .ok (.iinc k n, 3)) (hv : Int32.ofInt n = v) (h : pi_ins M (.iinc k n) 3 pc L S H = pi_go (pc + 3) (pi_s1 L k (.int (x + Int32.ofInt n))) S H) (hL : pi_s1 L k (.int (x + v)) = L') : ev m pc L S H = ev m (pc + 3) L' S H := by
  subst hv
  subst hL
  exact ev_st hM hd h
theorem ev_no (hM : pi_tab[m]? = some M) (hd : decode (pm_by M) pc = .ok (i, len)) (h : pi_ins M i len pc L S H = none) : ev m pc L S H = none := by
  have h0 : pi_step m (pc, L, S, H) = none := (ev_pe hM hd).trans h
  cases hq : ev m pc L S H with
  | none => rfl
  | some r =>
    obtain ⟨n, hn⟩ := (ev_iff _ _ _ _ _ _).mp hq
    cases n with
    | zero => cases hn
    | succ n => rw [pi_run, h0] at hn; cases hn
theorem ev_br {P : Prop} [Decidable P] {b : Bool} {off : Int} {t : Nat} (hM : pi_tab[m]? = some M) (hd : decode (pm_by M) pc = .ok (i, len)) (h : pi_ins M i len pc L S H = pi_br b pc off L S' H) (ht : (pc : Int) + off = (t : Int)) (hb : b = decide P) : ev m pc L S H = if P then ev m t L S' H else ev m (pc + 3) L S' H := by
  subst hb
  have h0 : ¬ (pc : Int) + off < 0 := by omega
  have h1 : ((pc : Int) + off).toNat = t := by omega
  by_cases hP : P
  · rw [if_pos hP]
    refine ev_st hM hd (h.trans ?_)
    unfold pi_br
    rw [if_pos (by omega), if_pos (decide_eq_true hP), h1]
  · rw [if_neg hP]
    refine ev_st hM hd (h.trans ?_)
    unfold pi_br
    rw [if_pos (by omega), if_neg (by simpa using hP)]
theorem ev_go {off : Int} {t : Nat} (hM : pi_tab[m]? = some M) (hd : decode (pm_by M) pc = .ok (i, len)) (h : pi_ins M i len pc L S H = pi_gi pc off L S H) (ht : (pc : Int) + off = (t : Int)) : ev m pc L S H = ev m t L S H := by
  refine ev_st hM hd (h.trans ?_)
  unfold pi_gi
  rw [if_pos (by omega)]
  rw [show ((pc : Int) + off).toNat = t by omega]
theorem ev_kv {o : Option Value} (hM : pi_tab[m]? = some M) (hd : decode (pm_by M) pc = .ok (i, len)) (h : pi_ins M i len pc L S H = pi_ld1 o pc' L' S' H) : ev m pc L S H = kv m pc' L' S' H o := by
  cases o with
  | none => exact ev_no hM hd h
  | some v => exact ev_st hM hd h
theorem ev_al {j : Int32} {a kd : Nat} (hM : pi_tab[m]? = some M) (hd : decode (pm_by M) pc = .ok (i, len)) (h : pi_ins M i len pc L (.int j :: .ref a :: S) H = pi_nx (pi_alx (.int j :: .ref a :: S) H kd) (pc + 1) L H) : ev m pc L (.int j :: .ref a :: S) H = kv m (pc + 1) L S H (pi_al (pi_get H a) j kd) := by
  unfold pi_alx at h
  dsimp only at h
  cases ho : pi_al (pi_get H a) j kd with
  | none => rw [ho] at h; exact ev_no hM hd h
  | some v => rw [ho] at h; exact ev_st hM hd h
theorem ev_kh {o : Option pi_H} (hM : pi_tab[m]? = some M) (hd : decode (pm_by M) pc = .ok (i, len)) (h : pi_ins M i len pc L S H = (match o with | some H' => pi_go pc' L' S' H' | none => none)) : ev m pc L S H = kh m pc' L' S' o := by
  cases o with
  | none => exact ev_no hM hd h
  | some v => exact ev_st hM hd h
theorem ev_khg {b : Bool} {o : Option pi_H} (hM : pi_tab[m]? = some M) (hd : decode (pm_by M) pc = .ok (i, len)) (h : pi_ins M i len pc L S H = pi_g b (match o with | some H' => pi_go pc' L' S' H' | none => none)) (hb : b = true) : ev m pc L S H = kh m pc' L' S' o := by
  subst hb
  exact ev_kh hM hd h
theorem ev_as {j : Int32} {v : Value} {a kd : Nat} (hM : pi_tab[m]? = some M) (hd : decode (pm_by M) pc = .ok (i, len)) (h : pi_ins M i len pc L (v :: .int j :: .ref a :: S) H = pi_asx (v :: .int j :: .ref a :: S) H kd (pc + 1) L) : ev m pc L (v :: .int j :: .ref a :: S) H = kh m (pc + 1) L S (pi_as H a j v kd) := ev_kh hM hd h
theorem ev_ln {a : Nat} (hM : pi_tab[m]? = some M) (hd : decode (pm_by M) pc = .ok (.arraylength, 1)) : ev m pc L (.ref a :: S) H = kn m (pc + 1) L S H (pi_len (pi_get H a)) := by
  have h : pi_ins M .arraylength 1 pc L (.ref a :: S) H = (match pi_len (pi_get H a) with
      | some n => pi_go (pc + 1) L (.int (Int32.ofNat n) :: S) H
      | none => none) := rfl
  cases ho : pi_len (pi_get H a) with
  | none => rw [ho] at h; exact ev_no hM hd h
  | some v => rw [ho] at h; exact ev_st hM hd h
theorem ev_rt {r : Option Value} (hM : pi_tab[m]? = some M) (hd : decode (pm_by M) pc = .ok (i, len)) (h : pi_ins M i len pc L S H = some (.inr (.inl (r, H')))) : ev m pc L S H = some (r, H') := ev_ret ((ev_pe hM hd).trans h)
theorem ev_ri {x : Int32} (hM : pi_tab[m]? = some M) (hd : decode (pm_by M) pc = .ok (.ireturn, 1)) (ht : pm_rt M = some .int) : ev m pc L [.int x] H = some (some (.int x), H) := by
  refine ev_rt hM hd ?_
  have h : pi_ins M .ireturn 1 pc L [.int x] H = pi_g (pi_rt M x) (some (.inr (.inl (some (.int x), H)))) := rfl
  rw [h]
  have h2 : pi_rt M x = true := by
    unfold pi_rt
    rw [ht]
    exact decide_eq_true rfl
  rw [h2]
  rfl
theorem ev_rg {x : Int32} (hM : pi_tab[m]? = some M) (hd : decode (pm_by M) pc = .ok (.ireturn, 1)) (ht : pi_rt M x = true) : ev m pc L [.int x] H = some (some (.int x), H) := by
  refine ev_rt hM hd ?_
  have h : pi_ins M .ireturn 1 pc L [.int x] H = pi_g (pi_rt M x) (some (.inr (.inl (some (.int x), H)))) := rfl
  rw [h, ht]
  rfl
theorem ev_cl {m' : Nat} {args : List Value} (hM : pi_tab[m]? = some M) (hd : decode (pm_by M) pc = .ok (i, len)) (h : pi_ins M i len pc L S H = some (.inr (.inr (m', args, (pc', L', S', H))))) : ev m pc L S H = kc m pc' L' S' (ex m' args H) := by
  have h0 := (ev_pe (L := L) (S := S) (H := H) hM hd).trans h
  cases hx : ex m' args H with
  | some r =>
    obtain ⟨r, H1⟩ := r
    exact ev_call h0 hx
  | none =>
    show ev m pc L S H = none
    cases hq : ev m pc L S H with
    | none => rfl
    | some q =>
      obtain ⟨n, hn⟩ := (ev_iff _ _ _ _ _ _).mp hq
      cases n with
      | zero => cases hn
      | succ n =>
        rw [pi_run, h0] at hn
        dsimp only at hn
        cases hr : pi_run n m' (0, pi_ent (pi_nl m') args, [], H) with
        | none => rw [hr] at hn; cases hn
        | some w =>
          have := (ev_iff m' 0 (pi_ent (pi_nl m') args) [] H w).mpr ⟨n, hr⟩
          have h2 : ex m' args H = some w := this
          rw [hx] at h2
          cases h2
theorem ev_cg {m' : Nat} {args : List Value} {b : Bool} (hM : pi_tab[m]? = some M) (hd : decode (pm_by M) pc = .ok (i, len)) (h : pi_ins M i len pc L S H = pi_g b (some (.inr (.inr (m', args, (pc', L', S', H)))))) (hb : b = true) : ev m pc L S H = kc m pc' L' S' (ex m' args H) := by
  subst hb
  exact ev_cl hM hd h
theorem ev_cp {ix : Nat} {n dp sp : Int32} {a b : Nat} {r : List Value} (hM : pi_tab[m]? = some M) (hd : decode (pm_by M) pc = .ok (.invokestatic ix, 3)) (hk : pi_mlk.lookup (pm_ow M, ix) = some (0, 5, 6)) (h1 : 1 ≤ pm_rk M) (h2 : pi_cats r ≤ 8) : ev m pc L (.int n :: .int dp :: .ref b :: .int sp :: .ref a :: r) H = kh m (pc + 3) L r (pi_cp H a sp b dp n) := by
  refine ev_kh hM hd ?_
  have h : pi_ins M (.invokestatic ix) 3 pc L (.int n :: .int dp :: .ref b :: .int sp :: .ref a :: r) H = pi_ivs M ix pc L (.int n :: .int dp :: .ref b :: .int sp :: .ref a :: r) H := rfl
  rw [h]
  unfold pi_ivs pi_cp
  rw [hk]
  dsimp only
  cases ha : pi_get H a with
  | none => rfl
  | some ea =>
    cases hb : pi_get H b with
    | none => rcases ea with ⟨t0, n0, f⟩ | ⟨c, fs⟩
              · rcases f with f | f <;> rfl
              · rfl
    | some eb =>
      rcases ea with ⟨t0, n0, f⟩ | ⟨c, fs⟩
      · rcases f with f | f
        · rcases eb with ⟨t1, n1, g⟩ | ⟨c, fs⟩
          · rcases g with g | g
            · dsimp only
              rw [decide_eq_true h1, decide_eq_true h2, Bool.and_true, Bool.and_true]
              show pi_g (t0 == 0 && t1 == 0 && pi_arr f g n0 n1 sp dp n) _ = _
              cases (t0 == 0 && t1 == 0 && pi_arr f g n0 n1 sp dp n) <;> rfl
            · rfl
          · rfl
        · rfl
      · rfl
noncomputable def swe (m : Nat) (L : pi_L) (S : List Value) (H : pi_H) (x : Int32) (d : Nat) : List (Int32 × Nat) → Option (Option Value × pi_H)
  | [] => ev m d L S H
  | (v, t) :: r => if x = v then ev m t L S H else swe m L S H x d r
def swc (pc : Nat) : List (Int32 × Nat) → List Int → Int → Bool
  | [], [], _ => true
  | (v, t) :: r, o :: s, lo => decide (v.toInt = lo) && decide ((pc : Int) + o = (t : Int)) && swc pc r s (lo + 1)
  | _, _, _ => false
theorem sw_out (m pc : Nat) (L : pi_L) (S : List Value) (H : pi_H) (x : Int32) (d : Nat) : ∀ (ts : List (Int32 × Nat)) (os : List Int) (lo : Int), swc pc ts os lo = true → (x.toInt < lo ∨ lo + os.length ≤ x.toInt) → swe m L S H x d ts = ev m d L S H := by
  intro ts
  induction ts with
  | nil => intro os lo _ _; rfl
  | cons q r ih =>
    obtain ⟨v, t⟩ := q
    intro os lo h hx
    cases os with
    | nil => cases h
    | cons o s =>
      simp only [swc, Bool.and_eq_true, decide_eq_true_eq] at h
      unfold swe
      rw [List.length_cons] at hx
      rw [if_neg (by rintro rfl; omega)]
      exact ih s (lo + 1) h.2 (by omega)
theorem sw_in (m pc : Nat) (L : pi_L) (S : List Value) (H : pi_H) (x : Int32) (d : Nat) : ∀ (ts : List (Int32 × Nat)) (os : List Int) (lo : Int), swc pc ts os lo = true → lo ≤ x.toInt → x.toInt < lo + os.length → ∃ (o : Int) (t : Nat), os[(x.toInt - lo).toNat]? = some o ∧ (pc : Int) + o = (t : Int) ∧ swe m L S H x d ts = ev m t L S H := by
  intro ts
  induction ts with
  | nil =>
    intro os lo h h1 h2
    cases os with
    | nil => rw [List.length_nil] at h2; omega
    | cons o s => cases h
  | cons q r ih =>
    obtain ⟨v, t⟩ := q
    intro os lo h h1 h2
    cases os with
    | nil => cases h
    | cons o s =>
      simp only [swc, Bool.and_eq_true, decide_eq_true_eq] at h
      rw [List.length_cons] at h2
      unfold swe
      by_cases hv : x = v
      · rw [if_pos hv]
        refine ⟨o, t, ?_, h.1.2, rfl⟩
        rw [hv, h.1.1]
        simp
      · rw [if_neg hv]
        have hne : x.toInt ≠ lo := fun e => hv (Int32.toInt_inj.mp (e.trans h.1.1.symm))
        obtain ⟨o', t', e1, e2, e3⟩ := ih s (lo + 1) h.2 (by omega) (by omega)
        refine ⟨o', t', ?_, e2, e3⟩
        rw [show (x.toInt - lo).toNat = (x.toInt - (lo + 1)).toNat + 1 by omega, List.getElem?_cons_succ]
        exact e1
theorem ev_ts {x : Int32} {d lo hi : Int} {os : Array Int} (ts : List (Int32 × Nat)) (t0 : Nat) (hM : pi_tab[m]? = some M) (hd : decode (pm_by M) pc = .ok (.tableswitch d lo hi os, len)) (hc : (swc pc ts os.toList lo && decide (hi = lo + os.toList.length - 1) && decide ((pc : Int) + d = (t0 : Int))) = true) : ev m pc L (.int x :: S) H = swe m L S H x t0 ts := by
  simp only [Bool.and_eq_true, decide_eq_true_eq] at hc
  obtain ⟨⟨h1, h2⟩, h3⟩ := hc
  have h : pi_ins M (.tableswitch d lo hi os) len pc L (.int x :: S) H = (if x.toInt < lo ∨ hi < x.toInt then pi_gi pc d L S H else (match os[(x.toInt - lo).toNat]? with
      | some off => pi_gi pc off L S H
      | none => none)) := rfl
  by_cases hx : x.toInt < lo ∨ hi < x.toInt
  · rw [if_pos hx] at h
    rw [sw_out m pc L S H x t0 ts os.toList lo h1 (by omega)]
    refine ev_st hM hd (h.trans ?_)
    unfold pi_gi
    rw [if_pos (by omega), show ((pc : Int) + d).toNat = t0 by omega]
  · rw [if_neg hx] at h
    obtain ⟨o, t, e1, e2, e3⟩ := sw_in m pc L S H x t0 ts os.toList lo h1 (by omega) (by omega)
    rw [Array.getElem?_toList] at e1
    rw [e1] at h
    rw [e3]
    refine ev_st hM hd (h.trans ?_)
    dsimp only
    unfold pi_gi
    rw [if_pos (by omega), show ((pc : Int) + o).toNat = t by omega]
def swl (pc : Nat) : List (Int32 × Nat) → List (Int × Int) → Bool
  | [], [] => true
  | (v, t) :: r, (w, o) :: s => decide (v.toInt = w) && decide ((pc : Int) + o = (t : Int)) && swl pc r s
  | _, _ => false
theorem sw_lk (m pc : Nat) (L : pi_L) (S : List Value) (H : pi_H) (x : Int32) (d : Int) (t0 : Nat) (hd : (pc : Int) + d = (t0 : Int)) : ∀ (ts : List (Int32 × Nat)) (os : List (Int × Int)), swl pc ts os = true → ∃ t : Nat, (pc : Int) + Op.lookupswitch.offset os d x.toInt = (t : Int) ∧ swe m L S H x t0 ts = ev m t L S H := by
  intro ts
  induction ts with
  | nil =>
    intro os h
    cases os with
    | nil => exact ⟨t0, hd, rfl⟩
    | cons o s => cases h
  | cons q r ih =>
    obtain ⟨v, t⟩ := q
    intro os h
    cases os with
    | nil => cases h
    | cons o s =>
      obtain ⟨w, o⟩ := o
      simp only [swl, Bool.and_eq_true, decide_eq_true_eq] at h
      unfold swe
      by_cases hv : x = v
      · rw [if_pos hv]
        refine ⟨t, ?_, rfl⟩
        simp [Op.lookupswitch.offset, hv, h.1.1, h.1.2]
      · rw [if_neg hv]
        have hne : x.toInt ≠ w := fun e => hv (Int32.toInt_inj.mp (e.trans h.1.1.symm))
        obtain ⟨t', e1, e2⟩ := ih s h.2
        refine ⟨t', ?_, e2⟩
        simpa [Op.lookupswitch.offset, hne, Ne.symm hne] using e1
theorem ev_ls {x : Int32} {d : Int} {ps : Array (Int × Int)} (ts : List (Int32 × Nat)) (t0 : Nat) (hM : pi_tab[m]? = some M) (hd : decode (pm_by M) pc = .ok (.lookupswitch d ps, len)) (hc : (swl pc ts ps.toList && decide ((pc : Int) + d = (t0 : Int)) && (ps.toList.zip (ps.toList.drop 1)).all (fun (a, next) => decide (a.1 < next.1))) = true) : ev m pc L (.int x :: S) H = swe m L S H x t0 ts := by
  simp only [Bool.and_eq_true, decide_eq_true_eq] at hc
  obtain ⟨⟨h1, h2⟩, h3⟩ := hc
  have h : pi_ins M (.lookupswitch d ps) len pc L (.int x :: S) H = pi_g ((ps.toList.zip (ps.toList.drop 1)).all (fun (a, next) => a.1 < next.1)) (pi_gi pc (Op.lookupswitch.offset ps.toList d x.toInt) L S H) := rfl
  obtain ⟨t, e1, e2⟩ := sw_lk m pc L S H x d t0 h2 ts ps.toList h1
  rw [e2]
  refine ev_sg hM hd (h.trans (congrArg _ (?_ : _ = pi_go t L S H))) h3
  unfold pi_gi
  rw [if_pos (by omega), show ((pc : Int) + Op.lookupswitch.offset ps.toList d x.toInt).toNat = t by omega]
/-- a counting loop -/
theorem ev_loop {α : Sort _} (f : Nat → α) (N : Nat) (h : ∀ j, j < N → f j = f (j + 1)) : f 0 = f N := by
  induction N with
  | zero => rfl
  | succ n ih => rw [ih (fun j hj => h j (by omega))]; exact h n (by omega)
end
