-- PART 48: how large the means are
def bd (x : Int64) (B : Nat) : Prop := x.toInt.natAbs ≤ B
theorem bmod_abs (z : Int) : (z.bmod (2 ^ 64)).natAbs ≤ z.natAbs := by
  by_cases h : z.natAbs < 2 ^ 63
  · rw [bm_id h]
    exact Nat.le_refl _
  · have h1 : -((2 ^ 64 : Nat) : Int) / 2 ≤ z.bmod (2 ^ 64) := by
      have := Int.le_bmod (x := z) (m := 2 ^ 64) (by omega)
      omega
    have h2 := Int.bmod_lt (x := z) (m := 2 ^ 64) (by omega)
    omega
theorem bd_le {x : Int64} {A B : Nat} (h : bd x A) (hAB : A ≤ B) : bd x B := Nat.le_trans h hAB
theorem bd_add {x y : Int64} {A B : Nat} (h1 : bd x A) (h2 : bd y B) : bd (x + y) (A + B) := by
  unfold bd at *
  rw [Int64.toInt_add]
  have := bmod_abs (x.toInt + y.toInt)
  omega
theorem bd_sub {x y : Int64} {A B : Nat} (h1 : bd x A) (h2 : bd y B) : bd (x - y) (A + B) := by
  unfold bd at *
  rw [Int64.toInt_sub]
  have := bmod_abs (x.toInt - y.toInt)
  omega
theorem bd_mul {x y : Int64} {A B : Nat} (h1 : bd x A) (h2 : bd y B) : bd (x * y) (A * B) := by
  unfold bd at *
  rw [Int64.toInt_mul]
  have h3 := bmod_abs (x.toInt * y.toInt)
  rw [Int.natAbs_mul] at h3
  exact Nat.le_trans h3 (Nat.mul_le_mul h1 h2)
theorem bd_0 (B : Nat) : bd 0 B := by
  unfold bd
  rw [i64_0]
  exact Nat.zero_le _
theorem bd_lN {n B : Nat} (h : n ≤ B) (hB : B < 2 ^ 63) : bd (lN n) B := by
  unfold bd
  rw [lN_tI (by omega)]
  omega
theorem pw_lN (a : sT) : ∀ n, pw a n = lN (wsum a ^ n)
  | 0 => rfl
  | n + 1 => by
    show pw a n * lN (wsum a) = _
    rw [pw_lN a n, lN_mul, Nat.pow_succ]
theorem p12 (n : Nat) (hn : n ≤ 6) : 12 ^ n ≤ 2985984 := Nat.pow_le_pow_right (n := 12) (by omega) hn
theorem pw_le (a : sT) (hs : wsum a ≤ 12) (n : Nat) (hn : n ≤ 6) : wsum a ^ n ≤ 12 ^ n := Nat.pow_le_pow_left hs n
theorem pw_okY (a : sT) (h1 : 1 ≤ wsum a) (hs : wsum a ≤ 12) (n : Nat) (hn : n ≤ 6) : okY (pw a n) := by
  have h2 := pw_le a hs n hn
  have h3 := p12 n hn
  have h4 : 0 < wsum a ^ n := Nat.pow_pos (by omega)
  unfold okY
  rw [pw_lN, lN_tI (by omega)]
  omega
theorem pw_bd (a : sT) (hs : wsum a ≤ 12) (n : Nat) (hn : n ≤ 6) : bd (pw a n) (12 ^ n) := by
  have h2 := pw_le a hs n hn
  have h3 := p12 n hn
  rw [pw_lN]
  exact bd_lN h2 (by omega)
theorem ppS_bd (a : sT) (hw : okW a) (hc : okC a) (y : Nat) (hy : y < 21) : ∀ d, d ≤ 7 → bd (ppS a y d) (9000 * d)
  | 0, _ => bd_0 _
  | d + 1, hd => by
    have h1 := bd_lN (hw d (by omega)) (by omega)
    have h2 := bd_lN (pprice_le a hc y d (by omega) (by omega)) (by omega)
    refine bd_le (bd_add (ppS_bd a hw hc y hy d (by omega)) (bd_mul h1 h2)) (by omega)
theorem rsS_bd (a : sT) (hw : okW a) (f : Nat → Int64) (B : Nat) (hf : ∀ k, k < 21 → bd (f k) B) (y : Nat) (hy : y < 21) : ∀ d, d ≤ 7 → bd (rsS a f y d) (9 * B * d)
  | 0, _ => bd_0 _
  | d + 1, hd => by
    have h1 := bd_lN (hw d (by omega)) (by omega)
    refine bd_le (bd_add (rsS_bd a hw f B hf y hy d (by omega)) (bd_mul h1 (hf (y - d) (by omega)))) ?_
    rw [Nat.mul_succ]
    exact Nat.le_refl _
def cB (n : Nat) : Nat := 65536 * 128 ^ n
theorem cb_bd (a : sT) (ok : okA a) (f : Nat → Int64) (n : Nat) (hn : n < 6) (hf : ∀ k, k < 21 → bd (f k) (cB n)) (y : Nat) (hy : y < 21) : bd (cb a f n y) (63000 * 12 ^ n + 63 * cB n) := by
  have h1 := ppS_bd a ok.1 ok.2.1 y hy 7 (by omega)
  have h2 := rsS_bd a ok.1 f (cB n) hf y hy 7 (by omega)
  have h3 := pw_bd a ok.2.2 n (by omega)
  exact bd_le (bd_add (bd_mul h1 h3) h2) (by omega)
theorem vl_bd (a : sT) (ok : okA a) (f : Nat → Int64) (n : Nat) (hn : n < 6) (hf : ∀ k, k < 21 → bd (f k) (cB n)) (y : Nat) (hy : y < 21) : bd (vl a n f y) (180 * 12 ^ (n + 1) + (63000 * 12 ^ n + 63 * cB n)) := by
  have h1 : a 1 1 * y ≤ 9 * 20 := Nat.mul_le_mul ok.2.1.2.1 (by omega)
  have h2 := pw_bd a ok.2.2 (n + 1) (by omega)
  exact bd_add (bd_mul (bd_lN h1 (by omega)) h2) (cb_bd a ok f n hn hf y hy)
theorem bs_bd (f : Nat → Int64) (op : Int64) (k A B : Nat) (hf : ∀ k, k < 21 → bd (f k) A) (ho : bd op B) : ∀ j, k + j ≤ 20 → bd (bs f op k j).2 (A + B)
  | 0, h => bd_le (hf k (by omega)) (by omega)
  | j + 1, h => by
    unfold bs
    split
    · exact bd_add (hf _ (by omega)) ho
    · exact bs_bd f op k A B hf ho j (by omega)
theorem cB_s (n : Nat) : 459 * 12 ^ (n + 1) + 63000 * 12 ^ n + 63 * cB n ≤ cB (n + 1) := by
  have h := Nat.pow_le_pow_left (show 12 ≤ 128 by omega) n
  unfold cB
  rw [Nat.pow_succ, Nat.pow_succ]
  omega
theorem lsT_bd (a : sT) (ok : okA a) : ∀ n, n ≤ 6 → ∀ k, k < 21 → bd (lsT a n k) (cB n)
  | 0, _, k, hk => by
    have h1 : a 1 4 * k ≤ 9 * 20 := Nat.mul_le_mul ok.2.1.2.2.2.2 (by omega)
    exact bd_lN (Nat.le_trans h1 (by unfold cB; omega)) (by unfold cB; omega)
  | n + 1, hn, k, hk => by
    have ih := lsT_bd a ok n (by omega)
    have h1 : a 1 1 * k ≤ 9 * 20 := Nat.mul_le_mul ok.2.1.2.1 (by omega)
    have h2 := pw_bd a ok.2.2 (n + 1) (by omega)
    have h3 := bs_bd (vl a n (lsT a n)) (lN (a 1 0) * pw a (n + 1)) k _ _ (fun y hy => vl_bd a ok (lsT a n) n (by omega) ih y hy) (bd_mul (bd_lN ok.2.1.1 (by omega)) h2) (20 - k) (by omega)
    refine bd_le (bd_sub h3 (bd_mul (bd_lN h1 (by omega)) h2)) ?_
    have := cB_s n
    omega
theorem vlT_bd (a : sT) (ok : okA a) (n : Nat) (h1 : 1 ≤ n) (hn : n ≤ 6) (k : Nat) (hk : k < 21) : bd (vlT a n k) (cB n) := by
  obtain ⟨n, rfl⟩ : ∃ m, n = m + 1 := ⟨n - 1, by omega⟩
  have h := vl_bd a ok (lsT a n) n (by omega) (lsT_bd a ok n (by omega)) k hk
  refine bd_le (x := vl a n (lsT a n) k) h ?_
  have := cB_s n
  omega
theorem plT_bd (a : sT) (ok : okA a) (lo hi : Nat → Nat) (hh : ∀ n, n < 7 → hi n ≤ 20) : ∀ n, n ≤ 6 → ∀ k, k < 21 → bd (plT a lo hi n k) (cB n)
  | 0, _, k, hk => by
    have h1 : a 1 4 * k ≤ 9 * 20 := Nat.mul_le_mul ok.2.1.2.2.2.2 (by omega)
    exact bd_lN (Nat.le_trans h1 (by unfold cB; omega)) (by unfold cB; omega)
  | n + 1, hn, k, hk => by
    have ih := plT_bd a ok lo hi hh n (by omega)
    have h2 := pw_bd a ok.2.2 (n + 1) (by omega)
    have hq := hh (n + 1) (by omega)
    have hl : lvl k (lo (n + 1)) (hi (n + 1)) < 21 := by unfold lvl; split <;> omega
    have h4 := cb_bd a ok (plT a lo hi n) n (by omega) ih
    have h5 : oprice a k (lvl k (lo (n + 1)) (hi (n + 1))) ≤ 279 := by
      unfold oprice
      have := Nat.mul_le_mul ok.2.1.2.1 (show lvl k (lo (n + 1)) (hi (n + 1)) - k ≤ 20 by omega)
      have := ok.2.1.1
      split <;> omega
    have := cB_s n
    show bd (pl a n (plT a lo hi n) (lo (n + 1)) (hi (n + 1)) k) _
    unfold pl
    split
    · exact bd_le (bd_add (bd_mul (bd_lN h5 (by omega)) h2) (h4 _ hl)) (by omega)
    · exact bd_le (h4 k hk) (by omega)
theorem cB_6 (n : Nat) (hn : n ≤ 6) : cB n ≤ 2 ^ 58 := by
  have h := Nat.pow_le_pow_right (n := 128) (by omega) hn
  unfold cB
  omega
