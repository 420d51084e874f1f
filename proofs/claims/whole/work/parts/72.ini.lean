-- PART 72: what is made, first: new cells, shops
/-- new cells m behind those of H -/
def ad (H : pi_H) (m : List pi_E) (z : Nat) : pi_H := (fun k => if H.2.1 ≤ k ∧ k < H.2.1 + m.length then m[k - H.2.1]? else H.1 k, H.2.1 + m.length, H.2.2 + z)
section
variable (H : pi_H) (m : List pi_E) (z : Nat)
theorem ad_n : (ad H m z).2.1 = H.2.1 + m.length := rfl
theorem ad_0 (e : Nat × List Value) (c : Nat) : pi_add H (.inr e) c = ad H [.inr e] c := by
  unfold pi_add ad
  refine Prod.ext (funext fun k => ?_) rfl
  dsimp only
  by_cases h : k = H.2.1
  · subst h
    rw [if_pos rfl, if_pos (by simp), Nat.sub_self]
    rfl
  · rw [if_neg h, if_neg (by simp; omega)]
theorem ad_ad (m' : List pi_E) (z' : Nat) : ad (ad H m z) m' z' = ad H (m ++ m') (z + z') := by
  unfold ad
  refine Prod.ext (funext fun k => ?_) (Prod.ext (by simp [Nat.add_assoc]) (by simp [Nat.add_assoc]))
  dsimp only
  rw [List.length_append]
  by_cases h : H.2.1 + m.length ≤ k ∧ k < H.2.1 + m.length + m'.length
  · rw [if_pos h, if_pos (by omega), List.getElem?_append_right (by omega)]
    congr 1
    omega
  · rw [if_neg h]
    by_cases h2 : H.2.1 ≤ k ∧ k < H.2.1 + m.length
    · rw [if_pos h2, if_pos (by omega), List.getElem?_append_left (by omega)]
    · rw [if_neg h2, if_neg (by omega)]
theorem ad_add (t : Nat) (c : Nat) (x : vp_A) : pi_add (ad H m z) (.inl (t, x)) c = ad H (m ++ [.inl (t, x)]) (z + c) := by
  rw [← ad_ad]
  unfold pi_add
  refine Prod.ext (funext fun k => ?_) rfl
  show _ = (if (ad H m z).2.1 ≤ k ∧ k < (ad H m z).2.1 + 1 then [(.inl (t, x) : pi_E)][k - (ad H m z).2.1]? else (ad H m z).1 k)
  dsimp only
  by_cases h : k = (ad H m z).2.1
  · subst h
    rw [if_pos rfl, if_pos (by omega), Nat.sub_self]
    rfl
  · rw [if_neg h, if_neg (by omega)]
theorem ad_mul (t ti N : Nat) (y : vp_A) : pi_mul (ad H m z) t ti N y = ad H (m ++ (.inl (t, N, .inr (.inr (.inr (.inr (fun i => if i < N then some (H.2.1 + m.length + 1 + i) else none))))) :: List.replicate N (.inl (ti, y)))) (z + (N + N * y.1)) := by
  rw [← ad_ad]
  unfold pi_mul
  refine Prod.ext (funext fun k => ?_) (Prod.ext ?_ ?_)
  · show _ = (if (ad H m z).2.1 ≤ k ∧ k < (ad H m z).2.1 + ((.inl (t, N, .inr (.inr (.inr (.inr (fun i => if i < N then some (H.2.1 + m.length + 1 + i) else none))))) : pi_E) :: List.replicate N (.inl (ti, y))).length then _ else (ad H m z).1 k)
    rw [List.length_cons, List.length_replicate]
    dsimp only
    by_cases h : k = (ad H m z).2.1
    · subst h
      rw [if_pos rfl, if_pos (by omega), Nat.sub_self]
      rfl
    · rw [if_neg h]
      by_cases h2 : (ad H m z).2.1 < k ∧ k ≤ (ad H m z).2.1 + N
      · rw [if_pos h2, if_pos (by omega), show k - (ad H m z).2.1 = (k - (ad H m z).2.1 - 1) + 1 by omega, List.getElem?_cons_succ, List.getElem?_replicate, if_pos (by omega)]
      · rw [if_neg h2, if_neg (by omega)]
  · show (ad H m z).2.1 + 1 + N = (ad H m z).2.1 + (List.replicate N _).length.succ
    rw [List.length_replicate]
    omega
  · show (ad H m z).2.2 + N + N * y.1 = (ad H m z).2.2 + (N + N * y.1)
    omega
theorem ad_get (a : Nat) (h : H.2.1 ≤ a ∧ a < H.2.1 + m.length) : pi_get (ad H m z) a = m[a - H.2.1]? := if_pos h
theorem ad_set (a : Nat) (h : H.2.1 ≤ a ∧ a < H.2.1 + m.length) (e : pi_E) : pi_set (ad H m z) a e = ad H (m.set (a - H.2.1) e) z := by
  unfold pi_set ad
  refine Prod.ext (funext fun k => ?_) (Prod.ext (by simp) rfl)
  dsimp only
  rw [List.length_set]
  by_cases hk : k = a
  · subst hk
    rw [if_pos rfl, if_pos h, List.getElem?_set_self (by omega)]
  · rw [if_neg hk]
    by_cases h2 : H.2.1 ≤ k ∧ k < H.2.1 + m.length
    · rw [if_pos h2, if_pos h2, List.getElem?_set_ne (by omega)]
    · rw [if_neg h2, if_neg h2]
def pfO (H : pi_H) (m : List pi_E) (z j ci k : Nat) (v : Value) (o : Option pi_E) : Option pi_H := match o with
  | some (.inr (c, fs)) => if c == ci && decide (k < fs.length) && decide (ci < 6) then some (ad H (m.set j (.inr (c, fs.set k v))) z) else none
  | _ => none
theorem pfO_s (j ci k : Nat) (v : Value) (c : Nat) (fs : List Value) (h : (c == ci && decide (k < fs.length) && decide (ci < 6)) = true) : pfO H m z j ci k v (some (.inr (c, fs))) = some (ad H (m.set j (.inr (c, fs.set k v))) z) := if_pos h
theorem ad_pf (a ci k : Nat) (v : Value) (h : H.2.1 ≤ a ∧ a < H.2.1 + m.length) : pi_pf (ad H m z) a ci k v = pfO H m z (a - H.2.1) ci k v m[a - H.2.1]? := by
  unfold pi_pf pfO
  rw [ad_get H m z a h]
  cases m[a - H.2.1]? with
  | none => rfl
  | some e =>
    rcases e with e | ⟨c, fs⟩
    · rfl
    · dsimp only
      rw [ad_set H m z a h]
def asO (H : pi_H) (m : List pi_E) (z j : Nat) (i x : Int32) (o : Option pi_E) : Option pi_H := match o with
  | some (.inl (t, n, .inl f)) => if pi_in i n && t == 0 then some (ad H (m.set j (.inl (t, n, .inl (upd f i.toNatClampNeg x)))) z) else none
  | _ => none
theorem asO_s (j q x n : Nat) (f : Nat → Int32) (hq : q < n) (hn : n < 1000) : asO H m z j (nI q) (nI x) (some (.inl (0, n, .inl f))) = some (ad H (m.set j (.inl (0, n, .inl (upd f q (nI x))))) z) := by
  unfold asO pi_in
  simp [nI_clamp (n := q) (by omega), nI_pos (n := q) (by omega), hq]
theorem ad_as (a : Nat) (i x : Int32) (h : H.2.1 ≤ a ∧ a < H.2.1 + m.length) : pi_as (ad H m z) a i (.int x) 0 = asO H m z (a - H.2.1) i x m[a - H.2.1]? := by
  unfold pi_as asO
  rw [ad_get H m z a h]
  cases m[a - H.2.1]? with
  | none => rfl
  | some e =>
    rcases e with ⟨t, n, f⟩ | ⟨c, fs⟩
    · rcases f with f | f
      · dsimp only
        by_cases h1 : pi_in i n = true
        · by_cases h2 : (t == 0) = true
          · simp only [h1, h2, Bool.and_self, if_true, ad_set H m z a h]
          · simp [h1, h2]
        · simp [h1]
      · rcases f with f | f | f | f <;> rfl
    · rfl
end
theorem nb_ok {n : Nat} {H : pi_H} (hn : n ≤ 1000) (h : H.2.1 < 1000000) : (!(decide (nI n < 0)) && decide ((nI n).toNatClampNeg ≤ 1000) && decide (H.2.1 < 1000000)) = true := by
  simp [nI_clamp (n := n) (by omega), nI_pos (n := n) (by omega), hn, h]
theorem nb_ok2 {n k : Nat} {H : pi_H} (hn : n ≤ 1000) (hk : k ≤ 1000) (h : H.2.1 + 1 + n < 1000000) : (!(decide (nI n < 0)) && !(decide (nI k < 0)) && decide ((nI n).toNatClampNeg ≤ 1000) && decide ((nI k).toNatClampNeg ≤ 1000) && decide (H.2.1 + 1 + (nI n).toNatClampNeg < 1000000)) = true := by
  simp [nI_clamp (n := n) (by omega), nI_pos (n := n) (by omega), nI_clamp (n := k) (by omega), nI_pos (n := k) (by omega), hn, hk, h]
/-- the first shop -/
def sh0 : sT := fun k j => if k = 0 then (if j = 0 then 1 else 0) else if k = 1 then (if j = 0 then 5 else if j = 1 then 1 else if j = 2 then 1 else if j = 3 then 4 else 0) else 0
def shL (o : Nat) : List pi_E := [.inr (3, [.ref (o + 1), .ref (o + 2), .ref (o + 3), .ref (o + 4), .ref (o + 5), .int (nI 0), .int (nI 0), .int (nI 0), .int (nI 0), .int (nI 0), .int (nI 0), .int (nI 0), .int (nI 0), .int (nI 0)]), .inl (0, 7, .inl (cl 7 (sh0 0))), .inl (0, 5, .inl (cl 5 (sh0 1))), .inl (0, 7, .inl (cl 7 (sh0 2))), .inl (0, 7, .inl (cl 7 (sh0 3))), .inl (0, 24, .inl (cl 24 (sh0 4)))]
theorem shL_len (o : Nat) : (shL o).length = 6 := rfl
theorem sh_w : upd (upd (upd (upd (upd (upd (upd (fun _ => 0) 0 (nI 1)) 1 (nI 0)) 2 (nI 0)) 3 (nI 0)) 4 (nI 0)) 5 (nI 0)) 6 (nI 0) = cl 7 (sh0 0) := by
  funext i
  unfold upd cl sh0
  by_cases h : i < 7
  · have h7 : i = 0 ∨ i = 1 ∨ i = 2 ∨ i = 3 ∨ i = 4 ∨ i = 5 ∨ i = 6 := by omega
    rcases h7 with rfl | rfl | rfl | rfl | rfl | rfl | rfl <;> rfl
  · rw [if_neg (by omega), if_neg (by omega), if_neg (by omega), if_neg (by omega), if_neg (by omega), if_neg (by omega), if_neg (by omega), if_neg h]
theorem sh_c : upd (upd (upd (upd (upd (fun _ => 0) 0 (nI 5)) 1 (nI 1)) 2 (nI 1)) 3 (nI 4)) 4 (nI 0) = cl 5 (sh0 1) := by
  funext i
  unfold upd cl sh0
  by_cases h : i < 5
  · have h7 : i = 0 ∨ i = 1 ∨ i = 2 ∨ i = 3 ∨ i = 4 := by omega
    rcases h7 with rfl | rfl | rfl | rfl | rfl <;> rfl
  · rw [if_neg (by omega), if_neg (by omega), if_neg (by omega), if_neg (by omega), if_neg (by omega), if_neg h]
theorem sh_z (n k : Nat) (h : 2 ≤ k) : (fun _ => 0 : Nat → Int32) = cl n (sh0 k) := by
  funext i
  have e : sh0 k i = 0 := by
    unfold sh0
    rw [if_neg (by omega), if_neg (by omega)]
  unfold cl
  rw [e]
  split <;> rfl
def dS : List Value := [.null, .null, .null, .null, .null, .int 0, .int 0, .int 0, .int 0, .int 0, .int 0, .int 0, .int 0, .int 0]
theorem k1 (H : pi_H) (n : Nat) (hn : H.2.1 = n) (h : n < 900) : ex 1 [.ref n] (ad H [.inr (3, dS)] 14) = some (none, ad H (shL n) 64) := by
  have z2 := sh_z 7 2 (by omega)
  have z3 := sh_z 7 3 (by omega)
  have z4 := sh_z 24 4 (by omega)
  unfold dS
  simp (disch := first | omega | assumption | (refine b30 ?_; omega) | (refine nb_ok ?_ ?_ <;> first | omega | (simp only [ad_n, List.length_cons, List.length_nil, List.length_append, List.length_replicate, shL_len]; omega)) | (simp only [List.length_cons, List.length_nil]; omega) | (simp; done)) only [x1, e1_0, e1_1, e1_4, e1_5, e1_7, e1_9, e1_10, e1_11, e1_12, e1_13, e1_14, e1_15, e1_16, e1_17, e1_18, e1_19, e1_20, e1_21, e1_22, e1_23, e1_24, e1_25, e1_26, e1_27, e1_28, e1_29, e1_30, e1_31, e1_32, e1_33, e1_34, e1_36, e1_37, e1_38, e1_41, e1_42, e1_43, e1_45, e1_46, e1_47, e1_48, e1_49, e1_50, e1_51, e1_52, e1_53, e1_54, e1_55, e1_56, e1_57, e1_58, e1_59, e1_60, e1_61, e1_62, e1_63, e1_64, e1_65, e1_68, e1_69, e1_71, e1_73, e1_76, e1_77, e1_79, e1_81, e1_84, e1_85, e1_87, e1_89, e1_92, kv_s, kh_s, kn_s, kc_v, kc_n, ad_n, ad_0, ad_add, ad_ad, ad_pf, ad_as, pfO_s, asO_s, nI_clamp, Nat.sub_self, Nat.add_sub_cancel_left, Nat.add_sub_cancel, List.getElem?_cons_zero, List.getElem?_cons_succ, List.set_cons_zero, List.set_cons_succ, List.cons_append, List.nil_append, List.length_cons, List.length_nil, Nat.zero_add, Nat.reduceAdd, Nat.reduceSub, Nat.add_assoc, hn]
  rw [sh_w, sh_c]
  unfold shL
  rw [← z2, ← z3, ← z4, nI_0]
