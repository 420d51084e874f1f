-- PART 03: the pure interpreter of the bytecode
abbrev pi_E : Type := (Nat × vp_A) ⊕ (Nat × List Value)
abbrev pi_H : Type := (Nat → Option pi_E) × Nat × Nat
abbrev pi_L : Type := List (Option Value)
abbrev pi_F : Type := Nat × pi_L × List Value × pi_H
abbrev pi_O : Type := Option (pi_F ⊕ ((Option Value × pi_H) ⊕ (Nat × List Value × pi_F)))
def pm_nm (M : pi_M) : MethodName := M.1
def pm_by (M : pi_M) : ByteArray := M.2.1
def pm_ml (M : pi_M) : Nat := M.2.2.1
def pm_rt (M : pi_M) : Option FieldType := M.2.2.2.1
def pm_ow (M : pi_M) : Nat := M.2.2.2.2.1
def pm_rk (M : pi_M) : Nat := M.2.2.2.2.2.1
def pm_in (M : pi_M) : Bool := M.2.2.2.2.2.2
def pi_get (H : pi_H) (a : Nat) : Option pi_E := H.1 a
def pi_set (H : pi_H) (a : Nat) (e : pi_E) : pi_H := (fun k => if k = a then some e else H.1 k, H.2)
def pi_add (H : pi_H) (e : pi_E) (z : Nat) : pi_H := (fun k => if k = H.2.1 then some e else H.1 k, H.2.1 + 1, H.2.2 + z)
def pi_ld (L : pi_L) (k : Nat) : Option Value := match L[k]? with
  | some (some v) => some v
  | _ => none
def pi_c2 (o : Option Value) : Bool := match o with
  | some v => v.category == 2
  | none => false
def pi_cut (L : pi_L) (k : Nat) : pi_L := match k with
  | 0 => L
  | j + 1 => if pi_c2 (pi_ld L j) then L.set j none else L
def pi_s1 (L : pi_L) (k : Nat) (v : Value) : pi_L := (pi_cut L k).set k (some v)
def pi_s2 (L : pi_L) (k : Nat) (v : Value) : pi_L := ((pi_cut L k).set k (some v)).set (k + 1) none
def pi_g (b : Bool) (o : pi_O) : pi_O := if b then o else none
def pi_go (pc : Nat) (L : pi_L) (S : List Value) (H : pi_H) : pi_O := some (.inl (pc, L, S, H))
def pi_gi (pc : Nat) (off : Int) (L : pi_L) (S : List Value) (H : pi_H) : pi_O := if 0 ≤ (pc : Int) + off then pi_go ((pc : Int) + off).toNat L S H else none
def pi_br (b : Bool) (pc : Nat) (off : Int) (L : pi_L) (S : List Value) (H : pi_H) : pi_O := if 0 ≤ (pc : Int) + off then (if b then pi_go ((pc : Int) + off).toNat L S H else pi_go (pc + 3) L S H) else none
def pi_cmp (c : Jvm.ClassFile.Cond) (x y : Int32) : Bool := match c with
  | .eq => decide (x = y)
  | .ne => decide (¬ x = y)
  | .lt => decide (x < y)
  | .ge => decide (y ≤ x)
  | .gt => decide (y < x)
  | .le => decide (x ≤ y)
def pi_cats (S : List Value) : Nat := (S.map fun v => v.category).sum
def pi_in (i : Int32) (n : Nat) : Bool := !(decide (i < 0)) && decide (i.toNatClampNeg < n)
def pi_okv (tc : Nat) (v : Value) : Bool := match tc, v with
  | 0, .int _ => true
  | 1, .long _ => true
  | 2, .int x => decide (x = 0) || decide (x = 1)
  | 3, .ref _ => true
  | _, _ => false
/-- locals at the entry -/
def pi_l0 : List Value → pi_L
  | [] => []
  | v :: vs => if v.category == 2 then some v :: none :: pi_l0 vs else some v :: pi_l0 vs
/-- a call's start: method, arguments, and what comes behind it -/
def pi_cl1 (M : pi_M) (m' k : Nat) (pc : Nat) (L : pi_L) (S : List Value) (H : pi_H) : pi_O := match pi_tab[m']? with
  | none => none
  | some M' => pi_g (decide (pm_rk M' < pm_rk M) && decide (k ≤ S.length) && decide (pi_cats (S.drop k) ≤ 8) && decide ((pi_l0 (S.take k).reverse).length ≤ pm_ml M')) (some (.inr (.inr (m', (S.take k).reverse, (pc + 3, L, S.drop k, H)))))
/-- an object of the class number ci stands there -/
def pi_isO (o : Option pi_E) (ci : Nat) : Bool := match o with
  | some (.inr (c, _)) => c == ci
  | _ => false
def pi_fv (o : Option pi_E) (ci k : Nat) : Option Value := match o with
  | some (.inr (c, fs)) => if c == ci then fs[k]? else none
  | _ => none
def pi_rcv (m' : Nat) (H : pi_H) (v : Option Value) : Bool := match v, pi_tab[m']? with
  | some (.ref a), some M' => pi_isO (pi_get H a) (pm_ow M')
  | _, _ => false
def pi_rcd (v : Option Value) : Bool := match v with
  | some (.ref a) => decide (a < 1000000)
  | _ => false
def pi_arr (f g : Nat → Int32) (n0 n1 : Nat) (sp dp n : Int32) : Bool := !(decide (sp < 0)) && !(decide (dp < 0)) && !(decide (n < 0)) && decide (sp.toNatClampNeg + n.toNatClampNeg ≤ n0) && decide (dp.toNatClampNeg + n.toNatClampNeg ≤ n1)
def pi_mul (H : pi_H) (t ti N : Nat) (z : vp_A) : pi_H := (fun k => if k = H.2.1 then some (.inl (t, N, .inr (.inr (.inr (.inr (fun i => if i < N then some (H.2.1 + 1 + i) else none)))))) else if H.2.1 < k ∧ k ≤ H.2.1 + N then some (.inl (ti, z)) else H.1 k, H.2.1 + 1 + N, H.2.2 + N + N * z.1)
def pi_zer (t : Nat) (n : Nat) : Option vp_A := match t with
  | 0 => some (n, .inl (fun _ => 0))
  | 1 => some (n, .inl (fun _ => 0))
  | 2 => some (n, .inr (.inl (fun _ => 0)))
  | _ => none
def pi_aty (a : ArrayType) : Nat := match a with
  | .int => 0
  | .char => 1
  | .long => 2
  | _ => 9
def pi_rt (M : pi_M) (v : Int32) : Bool := match pm_rt M with
  | some ty => decide (narrow ty (.int v) = .int v)
  | none => false
def pi_isr (M : pi_M) : Bool := match pm_rt M with
  | some (.object _) => true
  | _ => false
/-- loads and constants -/
def pi_ld1 (v : Option Value) (pc : Nat) (L : pi_L) (S : List Value) (H : pi_H) : pi_O := match v with
  | some v => pi_go pc L (v :: S) H
  | none => none
def pi_isI (v : Option Value) : Bool := match v with
  | some (.int _) => true
  | _ => false
def pi_isJ (v : Option Value) : Bool := match v with
  | some (.long _) => true
  | _ => false
def pi_isA (v : Option Value) : Bool := match v with
  | some (.ref k) => !(k == 1000030)
  | _ => false
def pi_iop (S : List Value) (f : Int32 → Int32 → Int32) : Option (List Value) := match S with
  | .int y :: .int x :: r => some (.int (f x y) :: r)
  | _ => none
def pi_lop (S : List Value) (f : Int64 → Int64 → Int64) : Option (List Value) := match S with
  | .long y :: .long x :: r => some (.long (f x y) :: r)
  | _ => none
def pi_nx (S' : Option (List Value)) (pc : Nat) (L : pi_L) (H : pi_H) : pi_O := match S' with
  | some S => pi_go pc L S H
  | none => none
def pi_sti (M : pi_M) (k pc : Nat) (L : pi_L) (S : List Value) (H : pi_H) : pi_O := match S with
  | .int x :: r => pi_g (decide (k < pm_ml M)) (pi_go pc (pi_s1 L k (.int x)) r H)
  | _ => none
def pi_stl (M : pi_M) (k pc : Nat) (L : pi_L) (S : List Value) (H : pi_H) : pi_O := match S with
  | .long x :: r => pi_g (decide (k + 1 < pm_ml M)) (pi_go pc (pi_s2 L k (.long x)) r H)
  | _ => none
def pi_sta (M : pi_M) (k pc : Nat) (L : pi_L) (S : List Value) (H : pi_H) : pi_O := match S with
  | .ref x :: r => pi_g (decide (k < pm_ml M) && !(x == 1000030)) (pi_go pc (pi_s1 L k (.ref x)) r H)
  | _ => none
/-- reading a place of an array -/
def pi_al (o : Option pi_E) (i : Int32) (kd : Nat) : Option Value := match o with
  | some (.inl (t, n, .inl f)) => if pi_in i n then (match kd with
    | 0 => if t == 0 || t == 10 then some (.int (f i.toNatClampNeg)) else none
    | 1 => if t == 1 then some (.int (f i.toNatClampNeg)) else none
    | 2 => if t == 11 then some (.int (f i.toNatClampNeg)) else none
    | _ => none) else none
  | some (.inl (t, n, .inr (.inl f))) => if pi_in i n && t == 2 && kd == 3 then some (.long (f i.toNatClampNeg)) else none
  | some (.inl (t, n, .inr (.inr (.inr (.inr f))))) => if pi_in i n && (t == 3 || t == 4 || t == 5) && kd == 4 then (match f i.toNatClampNeg with
    | some k => if k < 1000000 then some (.ref k) else none
    | none => none) else none
  | _ => none
/-- writing one -/
def pi_as (H : pi_H) (a : Nat) (i : Int32) (v : Value) (kd : Nat) : Option pi_H := match pi_get H a, v with
  | some (.inl (t, n, .inl f)), .int x => if pi_in i n then (match kd with
    | 0 => if t == 0 then some (pi_set H a (.inl (t, n, .inl (upd f i.toNatClampNeg x)))) else none
    | 1 => if t == 1 then some (pi_set H a (.inl (t, n, .inl (upd f i.toNatClampNeg (vp_nar .char x))))) else none
    | _ => none) else none
  | some (.inl (t, n, .inr (.inl f))), .long x => if pi_in i n && t == 2 && kd == 3 then some (pi_set H a (.inl (t, n, .inr (.inl (vp_updL f i.toNatClampNeg x))))) else none
  | some (.inl (t, n, .inr (.inr (.inr (.inr f))))), .ref v => if pi_in i n && t == 3 && kd == 4 && pi_isO (pi_get H v) 3 then some (pi_set H a (.inl (t, n, .inr (.inr (.inr (.inr (va_up f i.toNatClampNeg (some v)))))))) else none
  | _, _ => none
def pi_alx (S : List Value) (H : pi_H) (kd : Nat) : Option (List Value) := match S with
  | .int i :: .ref a :: r => (match pi_al (pi_get H a) i kd with
    | some v => some (v :: r)
    | none => none)
  | _ => none
def pi_asx (S : List Value) (H : pi_H) (kd pc : Nat) (L : pi_L) : pi_O := match S with
  | v :: .int i :: .ref a :: r => (match pi_as H a i v kd with
    | some H' => pi_go pc L r H'
    | none => none)
  | _ => none
def pi_len (o : Option pi_E) : Option Nat := match o with
  | some (.inl (_, n, _)) => some n
  | _ => none
def pi_pf (H : pi_H) (a ci k : Nat) (v : Value) : Option pi_H := match pi_get H a with
  | some (.inr (c, fs)) => if c == ci && decide (k < fs.length) && decide (ci < 6) then some (pi_set H a (.inr (c, fs.set k v))) else none
  | _ => none
def pi_mfit (t : Nat) : Option (Nat × Nat) := match t with
  | 4 => some (4, 0)
  | 5 => some (5, 2)
  | _ => none
def pi_inv (M : pi_M) (vir : Bool) (ix pc : Nat) (L : pi_L) (S : List Value) (H : pi_H) : pi_O := match pi_mlk.lookup (pm_ow M, ix) with
  | some (m', n, kd) => if vir then pi_g (kd == 0 && pi_rcv m' H S[n]?) (pi_cl1 M m' (n + 1) pc L S H)
    else (match kd with
      | 2 => pi_g (pi_rcd S[n]?) (pi_cl1 M m' (n + 1) pc L S H)
      | 4 => pi_g (pi_rcd S[n]?) (pi_cl1 M m' (n + 1) pc L S H)
      | 5 => (match S with
        | .ref a :: r => pi_g (decide (a < 1000000) && decide (1 ≤ pm_rk M) && decide (pi_cats r ≤ 8)) (pi_go (pc + 3) L r H)
        | _ => none)
      | _ => none)
  | none => none
def pi_ivs (M : pi_M) (ix pc : Nat) (L : pi_L) (S : List Value) (H : pi_H) : pi_O := match pi_mlk.lookup (pm_ow M, ix) with
  | some (m', n, kd) => (match kd with
      | 1 => pi_cl1 M m' n pc L S H
      | 3 => pi_cl1 M m' n pc L S H
      | 6 => (match S with
        | .int n :: .int dp :: .ref b :: .int sp :: .ref a :: r => (match pi_get H a, pi_get H b with
          | some (.inl (t0, n0, .inl f)), some (.inl (t1, n1, .inl g)) => pi_g (t0 == 0 && t1 == 0 && pi_arr f g n0 n1 sp dp n && decide (1 ≤ pm_rk M) && decide (pi_cats r ≤ 8)) (pi_go (pc + 3) L r (pi_set H b (.inl (t1, n1, .inl (va_cpy f g sp.toNatClampNeg dp.toNatClampNeg n.toNatClampNeg)))))
          | _, _ => none)
        | _ => none)
      | _ => none)
  | none => none
def pi_ins (M : pi_M) (i : Instr) (len pc : Nat) (L : pi_L) (S : List Value) (H : pi_H) : pi_O := match i with
  | .iconst n => pi_g (len == 1) (pi_go (pc + 1) L (.int (Int32.ofInt n) :: S) H)
  | .bipush n => pi_g (len == 2) (pi_go (pc + 2) L (.int (Int8.ofInt n).toInt32 :: S) H)
  | .sipush n => pi_g (len == 3) (pi_go (pc + 3) L (.int (Int16.ofInt n).toInt32 :: S) H)
  | .lconst n => pi_g (len == 1) (pi_go (pc + 1) L (.long (Int64.ofNat (n : Nat)) :: S) H)
  | .ldc ix => pi_g (len == 2) (match pi_klk.lookup (pm_ow M, ix) with
    | some (0, v) => pi_go (pc + 2) L (.int (Int32.ofInt v) :: S) H
    | some (2, v) => pi_go (pc + 2) L (.ref (1000001 + v.toNat) :: S) H
    | _ => none)
  | .ldc2_w ix => pi_g (len == 3) (match pi_klk.lookup (pm_ow M, ix) with
    | some (1, v) => pi_go (pc + 3) L (.long (Int64.ofInt v) :: S) H
    | _ => none)
  | .iload k => pi_g (len == 2 && pi_isI (pi_ld L k)) (pi_ld1 (pi_ld L k) (pc + 2) L S H)
  | .iload_n k => pi_g (len == 1 && pi_isI (pi_ld L k.val)) (pi_ld1 (pi_ld L k.val) (pc + 1) L S H)
  | .lload k => pi_g (len == 2 && pi_isJ (pi_ld L k)) (pi_ld1 (pi_ld L k) (pc + 2) L S H)
  | .lload_n k => pi_g (len == 1 && pi_isJ (pi_ld L k.val)) (pi_ld1 (pi_ld L k.val) (pc + 1) L S H)
  | .aload k => pi_g (len == 2 && pi_isA (pi_ld L k)) (pi_ld1 (pi_ld L k) (pc + 2) L S H)
  | .aload_n k => pi_g (len == 1 && pi_isA (pi_ld L k.val)) (pi_ld1 (pi_ld L k.val) (pc + 1) L S H)
  | .istore k => pi_g (len == 2) (pi_sti M k (pc + 2) L S H)
  | .istore_n k => pi_g (len == 1) (pi_sti M k.val (pc + 1) L S H)
  | .lstore k => pi_g (len == 2) (pi_stl M k (pc + 2) L S H)
  | .lstore_n k => pi_g (len == 1) (pi_stl M k.val (pc + 1) L S H)
  | .astore k => pi_g (len == 2) (pi_sta M k (pc + 2) L S H)
  | .astore_n k => pi_g (len == 1) (pi_sta M k.val (pc + 1) L S H)
  | .iinc k n => pi_g (len == 3 && decide (k < pm_ml M)) (match pi_ld L k with
    | some (.int x) => pi_go (pc + 3) (pi_s1 L k (.int (x + Int32.ofInt n))) S H
    | _ => none)
  | .iadd => pi_g (len == 1) (pi_nx (pi_iop S (fun x y => x + y)) (pc + 1) L H)
  | .isub => pi_g (len == 1) (pi_nx (pi_iop S (fun x y => x - y)) (pc + 1) L H)
  | .imul => pi_g (len == 1) (pi_nx (pi_iop S (fun x y => x * y)) (pc + 1) L H)
  | .iand => pi_g (len == 1) (pi_nx (pi_iop S (fun x y => x &&& y)) (pc + 1) L H)
  | .ior => pi_g (len == 1) (pi_nx (pi_iop S (fun x y => x ||| y)) (pc + 1) L H)
  | .ishl => pi_g (len == 1) (pi_nx (pi_iop S (fun x y => x <<< (y &&& 31))) (pc + 1) L H)
  | .ishr => pi_g (len == 1) (pi_nx (pi_iop S (fun x y => x >>> (y &&& 31))) (pc + 1) L H)
  | .irem => pi_g (len == 1) (match S with
    | .int y :: .int x :: r => pi_g (!(decide (y = 0))) (pi_go (pc + 1) L (.int (x - x / y * y) :: r) H)
    | _ => none)
  | .ladd => pi_g (len == 1) (pi_nx (pi_lop S (fun x y => x + y)) (pc + 1) L H)
  | .lsub => pi_g (len == 1) (pi_nx (pi_lop S (fun x y => x - y)) (pc + 1) L H)
  | .lmul => pi_g (len == 1) (pi_nx (pi_lop S (fun x y => x * y)) (pc + 1) L H)
  | .lor => pi_g (len == 1) (pi_nx (pi_lop S (fun x y => x ||| y)) (pc + 1) L H)
  | .ldiv => pi_g (len == 1) (match S with
    | .long y :: .long x :: r => pi_g (!(decide (y = 0))) (pi_go (pc + 1) L (.long (x / y) :: r) H)
    | _ => none)
  | .lrem => pi_g (len == 1) (match S with
    | .long y :: .long x :: r => pi_g (!(decide (y = 0))) (pi_go (pc + 1) L (.long (x - x / y * y) :: r) H)
    | _ => none)
  | .lneg => pi_g (len == 1) (match S with
    | .long x :: r => pi_go (pc + 1) L (.long (-x) :: r) H
    | _ => none)
  | .lshl => pi_g (len == 1) (match S with
    | .int y :: .long x :: r => pi_go (pc + 1) L (.long (x <<< (y.toInt64 &&& 63)) :: r) H
    | _ => none)
  | .i2l => pi_g (len == 1) (match S with
    | .int x :: r => pi_go (pc + 1) L (.long x.toInt64 :: r) H
    | _ => none)
  | .i2c => pi_g (len == 1) (match S with
    | .int x :: r => pi_go (pc + 1) L (.int (x.toUInt32 % 65536).toInt32 :: r) H
    | _ => none)
  | .lcmp => pi_g (len == 1) (match S with
    | .long y :: .long x :: r => pi_go (pc + 1) L (.int (lg_cmp x y) :: r) H
    | _ => none)
  | .dup => pi_g (len == 1) (match S with
    | v :: r => pi_g (v.category == 1) (pi_go (pc + 1) L (v :: v :: r) H)
    | _ => none)
  | .pop => pi_g (len == 1) (match S with
    | v :: r => pi_g (v.category == 1) (pi_go (pc + 1) L r H)
    | _ => none)
  | .dup2 => pi_g (len == 1) (match S with
    | v :: w :: r => pi_g (v.category == 1 && w.category == 1) (pi_go (pc + 1) L (v :: w :: v :: w :: r) H)
    | _ => none)
  | .ifCond c off => pi_g (len == 3) (match S with
    | .int x :: r => pi_br (pi_cmp c x 0) pc off L r H
    | _ => none)
  | .if_icmp c off => pi_g (len == 3) (match S with
    | .int y :: .int x :: r => pi_br (pi_cmp c x y) pc off L r H
    | _ => none)
  | .goto off => pi_g (len == 3) (pi_gi pc off L S H)
  | .tableswitch d lo hi offs => (match S with
    | .int x :: r => if x.toInt < lo ∨ hi < x.toInt then pi_gi pc d L r H else (match offs[(x.toInt - lo).toNat]? with
      | some off => pi_gi pc off L r H
      | none => none)
    | _ => none)
  | .lookupswitch d ps => pi_g ((ps.toList.zip (ps.toList.drop 1)).all (fun (a, next) => a.1 < next.1)) (match S with
    | .int x :: r => pi_gi pc (Op.lookupswitch.offset ps.toList d x.toInt) L r H
    | _ => none)
  | .ireturn => pi_g (len == 1) (match S with
    | [.int v] => pi_g (pi_rt M v) (some (.inr (.inl (some (.int v), H))))
    | _ => none)
  | .lreturn => pi_g (len == 1 && decide (pm_rt M = some .long)) (match S with
    | [.long v] => some (.inr (.inl (some (.long v), H)))
    | _ => none)
  | .areturn => pi_g (len == 1 && pi_isr M) (match S with
    | [.ref v] => some (.inr (.inl (some (.ref v), H)))
    | _ => none)
  | .return_ => pi_g (len == 1 && decide (pm_rt M = none)) (match S with
    | [] => some (.inr (.inl (none, H)))
    | _ => none)
  | .getfield ix => pi_g (len == 3) (match S, pi_flk.lookup (pm_ow M, ix) with
    | .ref a :: r, some (ci, k, _, _) => pi_ld1 (pi_fv (pi_get H a) ci k) (pc + 3) L r H
    | _, _ => none)
  | .putfield ix => pi_g (len == 3) (match S, pi_flk.lookup (pm_ow M, ix) with
    | v :: .ref a :: r, some (ci, k, fin, tc) => pi_g (pi_okv tc v && (!fin || pm_in M)) (match pi_pf H a ci k v with
      | some H' => pi_go (pc + 3) L r H'
      | none => none)
    | _, _ => none)
  | .getstatic ix => pi_g (len == 3) (match pi_slk.lookup (pm_ow M, ix) with
    | some 0 => pi_go (pc + 3) L (.ref 1000000 :: S) H
    | some 1 => pi_go (pc + 3) L (.int 1 :: S) H
    | some 2 => pi_go (pc + 3) L (.ref 1000030 :: S) H
    | _ => none)
  | .iaload => pi_g (len == 1) (pi_nx (pi_alx S H 0) (pc + 1) L H)
  | .caload => pi_g (len == 1) (pi_nx (pi_alx S H 1) (pc + 1) L H)
  | .baload => pi_g (len == 1) (pi_nx (pi_alx S H 2) (pc + 1) L H)
  | .laload => pi_g (len == 1) (pi_nx (pi_alx S H 3) (pc + 1) L H)
  | .aaload => pi_g (len == 1) (pi_nx (pi_alx S H 4) (pc + 1) L H)
  | .iastore => pi_g (len == 1) (pi_asx S H 0 (pc + 1) L)
  | .castore => pi_g (len == 1) (pi_asx S H 1 (pc + 1) L)
  | .lastore => pi_g (len == 1) (pi_asx S H 3 (pc + 1) L)
  | .aastore => pi_g (len == 1) (pi_asx S H 4 (pc + 1) L)
  | .arraylength => pi_g (len == 1) (match S with
    | .ref a :: r => (match pi_len (pi_get H a) with
      | some n => pi_go (pc + 1) L (.int (Int32.ofNat n) :: r) H
      | none => none)
    | _ => none)
  | .new ix => pi_g (len == 3) (match pi_nlk.lookup (pm_ow M, ix) with
    | some ci => (match pi_dft[ci]? with
      | some fs => pi_g (decide (H.2.1 < 1000000)) (pi_go (pc + 3) L (.ref H.2.1 :: S) (pi_add H (.inr (ci, fs)) fs.length))
      | none => none)
    | none => none)
  | .newarray at_ => pi_g (len == 2) (match S with
    | .int n :: r => (match pi_zer (pi_aty at_) n.toNatClampNeg with
      | some z => pi_g (!(decide (n < 0)) && decide (n.toNatClampNeg ≤ 1000) && decide (H.2.1 < 1000000)) (pi_go (pc + 2) L (.ref H.2.1 :: r) (pi_add H (.inl (pi_aty at_, z)) n.toNatClampNeg))
      | none => none)
    | _ => none)
  | .anewarray ix => pi_g (len == 3) (match S, pi_alk.lookup (pm_ow M, ix) with
    | .int n :: r, some 3 => pi_g (!(decide (n < 0)) && decide (n.toNatClampNeg ≤ 1000) && decide (H.2.1 < 1000000)) (pi_go (pc + 3) L (.ref H.2.1 :: r) (pi_add H (.inl (3, n.toNatClampNeg, .inr (.inr (.inr (.inr (fun _ => none)))))) n.toNatClampNeg))
    | _, _ => none)
  | .multianewarray ix dm => pi_g (len == 4 && dm == 2) (match S, pi_alk.lookup (pm_ow M, ix) with
    | .int k :: .int n :: r, some t => (match pi_mfit t with
      | some (t, ti) => (match pi_zer ti k.toNatClampNeg with
        | some z => pi_g (!(decide (n < 0)) && !(decide (k < 0)) && decide (n.toNatClampNeg ≤ 1000) && decide (k.toNatClampNeg ≤ 1000) && decide (H.2.1 + 1 + n.toNatClampNeg < 1000000)) (pi_go (pc + 4) L (.ref H.2.1 :: r) (pi_mul H t ti n.toNatClampNeg z))
        | none => none)
      | none => none)
    | _, _ => none)
  | .invokevirtual ix => pi_g (len == 3) (pi_inv M true ix pc L S H)
  | .invokespecial ix => pi_g (len == 3) (pi_inv M false ix pc L S H)
  | .invokestatic ix => pi_g (len == 3) (pi_ivs M ix pc L S H)
  | _ => none
def pi_step (m : Nat) (F : pi_F) : pi_O := match pi_tab[m]? with
  | none => none
  | some M => (match decode (pm_by M) F.1 with
    | .ok (i, len) => pi_ins M i len F.1 F.2.1 F.2.2.1 F.2.2.2
    | .error _ => none)
def pi_ent (n : Nat) (args : List Value) : pi_L := pi_l0 args ++ List.replicate (n - (pi_l0 args).length) none
def pi_nl (m : Nat) : Nat := match pi_tab[m]? with
  | some M => pm_ml M
  | none => 0
def pi_run : Nat → Nat → pi_F → Option (Option Value × pi_H)
  | 0, _, _ => none
  | n + 1, m, F => match pi_step m F with
    | none => none
    | some (.inl F') => pi_run n m F'
    | some (.inr (.inl r)) => some r
    | some (.inr (.inr (m', args, F'))) => match pi_run n m' (0, pi_ent (pi_nl m') args, [], F'.2.2.2) with
      | none => none
      | some (r, H') => pi_run n m (F'.1, F'.2.1, r.toList ++ F'.2.2.1, H')
theorem pi_run_mono : ∀ (n m : Nat) (F : pi_F) (r : Option Value × pi_H), pi_run n m F = some r → pi_run (n + 1) m F = some r := by
  intro n
  induction n with
  | zero => intro m F r h; cases h
  | succ n ih =>
    intro m F r h
    rw [pi_run] at h ⊢
    cases hs : pi_step m F with
    | none => rw [hs] at h; cases h
    | some o =>
      rw [hs] at h
      match o, h with
      | .inl F', h => exact ih m F' r h
      | .inr (.inl r'), h => exact h
      | .inr (.inr (m', args, F')), h =>
        dsimp only at h ⊢
        cases hc : pi_run n m' (0, pi_ent (pi_nl m') args, [], F'.2.2.2) with
        | none => rw [hc] at h; cases h
        | some q =>
          rw [hc] at h
          rw [ih m' _ q hc]
          exact ih m _ r h
theorem pi_run_le {n k m : Nat} {F : pi_F} {r : Option Value × pi_H} (hk : n ≤ k) (h : pi_run n m F = some r) : pi_run k m F = some r := by
  induction hk with
  | refl => exact h
  | step _ ih => exact pi_run_mono _ _ _ _ ih
/-- what a run comes to, whatever its fuel -/
noncomputable def pi_lim {α : Type} (f : Nat → Option α) : Option α := @dite (Option α) (∃ n r, f n = some r) (Classical.propDecidable _) (fun h => f (Classical.choose h)) (fun _ => none)
theorem pi_lim_iff {α : Type} {f : Nat → Option α} (hm : ∀ n k r, n ≤ k → f n = some r → f k = some r) (r : α) : pi_lim f = some r ↔ ∃ n, f n = some r := by
  unfold pi_lim
  by_cases h : ∃ n r, f n = some r
  · rw [dif_pos h]
    obtain ⟨r0, h0⟩ := Classical.choose_spec h
    constructor
    · intro q; exact ⟨_, q⟩
    · rintro ⟨n, hn⟩
      have e1 := hm _ (max (Classical.choose h) n) _ (Nat.le_max_left _ _) h0
      have e2 := hm _ (max (Classical.choose h) n) _ (Nat.le_max_right _ _) hn
      rw [h0, ← e1, e2]
  · rw [dif_neg h]
    constructor
    · intro q; cases q
    · rintro ⟨n, hn⟩; exact absurd ⟨n, r, hn⟩ h
noncomputable def ev (m pc : Nat) (L : pi_L) (S : List Value) (H : pi_H) : Option (Option Value × pi_H) := pi_lim (fun n => pi_run n m (pc, L, S, H))
noncomputable def ex (m : Nat) (args : List Value) (H : pi_H) : Option (Option Value × pi_H) := ev m 0 (pi_ent (pi_nl m) args) [] H
theorem ev_iff (m pc : Nat) (L : pi_L) (S : List Value) (H : pi_H) (r : Option Value × pi_H) : ev m pc L S H = some r ↔ ∃ n, pi_run n m (pc, L, S, H) = some r := pi_lim_iff (fun _ _ _ hk h => pi_run_le hk h) r
theorem pi_ext {α : Type} {a b : Option α} (h : ∀ r, a = some r ↔ b = some r) : a = b := by
  cases a with
  | none => cases b with
    | none => rfl
    | some y => exact absurd ((h y).mpr rfl) (by simp)
  | some x => exact ((h x).mp rfl).symm
theorem ev_next {m pc : Nat} {L : pi_L} {S : List Value} {H : pi_H} {pc' : Nat} {L' : pi_L} {S' : List Value} {H' : pi_H} (h : pi_step m (pc, L, S, H) = some (.inl (pc', L', S', H'))) : ev m pc L S H = ev m pc' L' S' H' := by
  refine pi_ext fun r => ?_
  rw [ev_iff, ev_iff]
  constructor
  · rintro ⟨n, hn⟩
    cases n with
    | zero => cases hn
    | succ n =>
      rw [pi_run, h] at hn
      exact ⟨n, hn⟩
  · rintro ⟨n, hn⟩
    refine ⟨n + 1, ?_⟩
    rw [pi_run, h]
    exact hn
theorem ev_ret {m pc : Nat} {L : pi_L} {S : List Value} {H : pi_H} {r : Option Value × pi_H} (h : pi_step m (pc, L, S, H) = some (.inr (.inl r))) : ev m pc L S H = some r := by
  rw [ev_iff]
  refine ⟨1, ?_⟩
  rw [pi_run, h]
theorem ev_call {m pc m' : Nat} {L L' : pi_L} {S S' args : List Value} {H H' H1 : pi_H} {pc' : Nat} {r : Option Value} (h : pi_step m (pc, L, S, H) = some (.inr (.inr (m', args, (pc', L', S', H'))))) (hc : ex m' args H' = some (r, H1)) : ev m pc L S H = ev m pc' L' (r.toList ++ S') H1 := by
  obtain ⟨n0, h0⟩ := (ev_iff _ _ _ _ _ _).mp hc
  refine pi_ext fun q => ?_
  rw [ev_iff, ev_iff]
  constructor
  · rintro ⟨n, hn⟩
    cases n with
    | zero => cases hn
    | succ n =>
      rw [pi_run, h] at hn
      dsimp only at hn
      cases hr : pi_run n m' (0, pi_ent (pi_nl m') args, [], H') with
      | none => rw [hr] at hn; cases hn
      | some w =>
        rw [hr] at hn
        have e1 := pi_run_le (Nat.le_max_left n n0) hr
        have e2 := pi_run_le (Nat.le_max_right n n0) h0
        rw [e1] at e2
        cases e2
        exact ⟨n, hn⟩
  · rintro ⟨n, hn⟩
    refine ⟨max n n0 + 1, ?_⟩
    rw [pi_run, h]
    dsimp only
    rw [pi_run_le (Nat.le_max_right n n0) h0]
    exact pi_run_le (Nat.le_max_left n n0) hn
