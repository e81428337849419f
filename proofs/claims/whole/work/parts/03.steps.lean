/-! ===== the straight steps ===== -/
def rf_in (i : Int32) (n : Nat) : Bool := decide (0 ≤ i) && decide (i.toNatClampNeg < n)
def rf_bb (a : Int32) : Bool := decide (a = 0) || decide (a = 1)
/-- the kinds of the fields of the classes, as their types have them -/
def rf_tyc : List (Nat → FieldType) := [tyX0, tyX1, tyX2, tyX3, tyX4, tyX5, tyX6, tyX7, tyX8, tyX9, tyX10, tyX11, tyX12]
def rf_tyk : FieldType → Nat
  | .int => 0
  | .long => 1
  | .boolean => 3
  | .object _ => 2
  | .array _ => 2
  | _ => 9
def rf_tkl : List (List Nat) := [[0, 0, 2, 2], [0, 0, 0, 0, 2, 2, 2], [2, 2, 2, 0], [0, 0, 0, 2, 2, 2, 2, 2, 2, 2, 2], [0, 0, 0, 2, 2, 2, 2, 2, 2, 2], [0, 2, 1, 3, 2, 2], [2, 2, 2], [0, 2, 2], [0, 2, 2], [0, 2, 0, 0, 0], [2, 2, 2, 2, 2, 2, 2, 2, 2, 2], [2, 2, 2, 2, 2, 2, 2, 0], [2, 2, 0, 2, 0, 0, 0, 0, 0, 3, 2, 2, 0, 2, 2, 0, 2, 2, 0, 0, 2, 2, 2, 2]]
def rf_tk (ci j : Nat) : Nat := (rf_tkl.getD ci []).getD j 9
theorem rf_tk_ok : ∀ ci, ci < 13 → (rf_tkl.getD ci []).length = (vwCl.getD ci (RX0, TX0, 0)).2.2 ∧ ∀ j, j < (vwCl.getD ci (RX0, TX0, 0)).2.2 → rf_tk ci j = rf_tyk ((rf_tyc.getD ci tyX0) j) := by decide +kernel
/-- v isn't cell n -/
def rf_nr (n : Nat) : Value → Bool
  | .ref a => !(Nat.beq a n)
  | _ => true
def rf_no (n : Nat) : Option Value → Bool
  | some v => rf_nr n v
  | none => true
def rf_fr (n : Nat) (L : List (Option Value)) (st : List Value) : Bool := L.all (rf_no n) && st.all (rf_nr n)
def rf_nz (a : Int32) : Bool := decide (¬ a = 0)
def rf_nzl (a : Int64) : Bool := decide (¬ a = 0)
def rf_cp (sp dp n : Int32) (la lb : Nat) : Bool := decide (0 ≤ sp) && decide (0 ≤ dp) && decide (0 ≤ n) && decide (sp.toNatClampNeg + n.toNatClampNeg ≤ la) && decide (dp.toNatClampNeg + n.toNatClampNeg ≤ lb)
def rf_eqb (a b : Int32) : Bool := decide (a = b)
abbrev rf_R : Type := List Bool × rf_St
def rf_bad (S : rf_St) : rf_R := ([false], S)
def rf_push (v : Value) (S : rf_St) : rf_R := match S with
  | (L, st, n, σ) => ([], (L, v :: st, n, σ))
def rf_ild (x : Nat) (S : rf_St) : rf_R := match S with
  | (L, st, n, σ) => match L.getD x none with
    | some (.int a) => ([], (L, .int a :: st, n, σ))
    | _ => rf_bad S
def rf_lld (x : Nat) (S : rf_St) : rf_R := match S with
  | (L, st, n, σ) => match L.getD x none with
    | some (.long a) => ([], (L, .long a :: st, n, σ))
    | _ => rf_bad S
def rf_ald (x : Nat) (S : rf_St) : rf_R := match S with
  | (L, st, n, σ) => match L.getD x none with
    | some (.ref a) => ([], (L, .ref a :: st, n, σ))
    | _ => rf_bad S
/-- no long begins in the place before x -/
def rf_nl (L : List (Option Value)) : Nat → Bool
  | 0 => true
  | x + 1 => match L.getD x none with
    | some (.long _) => false
    | some (.double _) => false
    | _ => true
def rf_ist (x : Nat) (S : rf_St) : rf_R := match S with
  | (L, .int a :: st, n, σ) => cond (rf_nl L x && Nat.blt x L.length) ([], (L.set x (some (.int a)), st, n, σ)) (rf_bad S)
  | _ => rf_bad S
def rf_ast (x : Nat) (S : rf_St) : rf_R := match S with
  | (L, .ref a :: st, n, σ) => cond (rf_nl L x && Nat.blt x L.length) ([], (L.set x (some (.ref a)), st, n, σ)) (rf_bad S)
  | _ => rf_bad S
def rf_lst (x : Nat) (S : rf_St) : rf_R := match S with
  | (L, .long a :: st, n, σ) => cond (rf_nl L x && Nat.blt (x + 1) L.length) ([], ((L.set x (some (.long a))).set (x + 1) none, st, n, σ)) (rf_bad S)
  | _ => rf_bad S
def rf_inc (x : Nat) (v : Int32) (S : rf_St) : rf_R := match S with
  | (L, st, n, σ) => match L.getD x none with
    | some (.int a) => cond (rf_nl L x && Nat.blt x L.length) ([], (L.set x (some (.int (a + v))), st, n, σ)) (rf_bad S)
    | _ => rf_bad S
def rf_i1 (f : Int32 → Int32) (S : rf_St) : rf_R := match S with
  | (L, .int x :: st, n, σ) => ([], (L, .int (f x) :: st, n, σ))
  | _ => rf_bad S
def rf_i2 (f : Int32 → Int32 → Int32) (S : rf_St) : rf_R := match S with
  | (L, .int y :: .int x :: st, n, σ) => ([], (L, .int (f x y) :: st, n, σ))
  | _ => rf_bad S
def rf_i2z (f : Int32 → Int32 → Int32) (S : rf_St) : rf_R := match S with
  | (L, .int y :: .int x :: st, n, σ) => ([rf_nz y], (L, .int (f x y) :: st, n, σ))
  | _ => rf_bad S
def rf_l2 (f : Int64 → Int64 → Int64) (S : rf_St) : rf_R := match S with
  | (L, .long y :: .long x :: st, n, σ) => ([], (L, .long (f x y) :: st, n, σ))
  | _ => rf_bad S
def rf_l2z (f : Int64 → Int64 → Int64) (S : rf_St) : rf_R := match S with
  | (L, .long y :: .long x :: st, n, σ) => ([rf_nzl y], (L, .long (f x y) :: st, n, σ))
  | _ => rf_bad S
def rf_lsh (f : Int64 → Int32 → Int64) (S : rf_St) : rf_R := match S with
  | (L, .int y :: .long x :: st, n, σ) => ([], (L, .long (f x y) :: st, n, σ))
  | _ => rf_bad S
def rf_i2l (S : rf_St) : rf_R := match S with
  | (L, .int x :: st, n, σ) => ([], (L, .long x.toInt64 :: st, n, σ))
  | _ => rf_bad S
def rf_l2i (S : rf_St) : rf_R := match S with
  | (L, .long x :: st, n, σ) => ([], (L, .int x.toInt32 :: st, n, σ))
  | _ => rf_bad S
def rf_lcmp (S : rf_St) : rf_R := match S with
  | (L, .long y :: .long x :: st, n, σ) => ([], (L, .int (lg_cmp x y) :: st, n, σ))
  | _ => rf_bad S
def rf_dup (S : rf_St) : rf_R := match S with
  | (L, .int x :: st, n, σ) => ([], (L, .int x :: .int x :: st, n, σ))
  | (L, .ref x :: st, n, σ) => ([], (L, .ref x :: .ref x :: st, n, σ))
  | _ => rf_bad S
def rf_dup2 (S : rf_St) : rf_R := match S with
  | (L, .int x :: .ref y :: st, n, σ) => ([], (L, .int x :: .ref y :: .int x :: .ref y :: st, n, σ))
  | _ => rf_bad S
def rf_pop (S : rf_St) : rf_R := match S with
  | (L, .int _ :: st, n, σ) => ([], (L, st, n, σ))
  | _ => rf_bad S
def rf_kill (x : Nat) (S : rf_St) : rf_R := match S with
  | (L, st, n, σ) => ([], (L.set x none, st, n, σ))
/-- field j of the object k, of class ci; a reference by its number is v -/
def rf_get (T : rf_Tb) (ci j : Nat) (v : Int32) (S : rf_St) : rf_R := match S with
  | (L, .ref k :: st, n, σ) => match T.1 k with
    | (kd, _, sl) => cond (Nat.beq kd (ci + 3) && Nat.blt k n) (match sl[j]? with
      | some 0 => ([], (L, .int (rf_row σ k j) :: st, n, σ))
      | some 1 => ([], (L, .long (rf_jn (rf_row σ k j) (rf_row σ k (j + 100))) :: st, n, σ))
      | some 2 => ([rf_eqb (rf_row σ k j) v], (L, rf_dr v :: st, n, σ))
      | some 3 => ([], (L, .int (rf_row σ k j) :: st, n, σ))
      | some (t + 4) => ([], (L, .ref t :: st, n, σ))
      | none => rf_bad S) (rf_bad S)
  | _ => rf_bad S
def rf_put (T : rf_Tb) (ci j : Nat) (S : rf_St) : rf_R := match S with
  | (L, .int a :: .ref k :: st, n, σ) => match T.1 k with
    | (kd, _, sl) => cond (Nat.beq kd (ci + 3) && Nat.blt k n && Nat.beq (sl.getD j 99) (rf_tk ci j)) (match rf_tk ci j with
      | 0 => ([], (L, st, n, rf_wr σ k j a))
      | 3 => ([rf_bb a], (L, st, n, rf_wr σ k j a))
      | _ => rf_bad S) (rf_bad S)
  | (L, .long a :: .ref k :: st, n, σ) => match T.1 k with
    | (kd, _, sl) => cond (Nat.beq kd (ci + 3) && Nat.blt k n && Nat.beq (sl.getD j 99) (rf_tk ci j)) (match rf_tk ci j with
      | 1 => ([], (L, st, n, rf_wr (rf_wr σ k j (rf_hi a)) k (j + 100) (rf_lo a)))
      | _ => rf_bad S) (rf_bad S)
  | (L, .ref a :: .ref k :: st, n, σ) => match T.1 k with
    | (kd, _, sl) => cond (Nat.beq kd (ci + 3) && Nat.blt k n && Nat.beq (sl.getD j 99) (rf_tk ci j) && Nat.blt a 2000 && (Nat.blt a n || Nat.ble 500 a)) (match rf_tk ci j with
      | 2 => ([], (L, st, n, rf_wr σ k j (Int32.ofNat (a + 1))))
      | _ => rf_bad S) (rf_bad S)
  | (L, .null :: .ref k :: st, n, σ) => match T.1 k with
    | (kd, _, sl) => cond (Nat.beq kd (ci + 3) && Nat.blt k n && Nat.beq (sl.getD j 99) (rf_tk ci j)) (match rf_tk ci j with
      | 2 => ([], (L, st, n, rf_wr σ k j 0))
      | _ => rf_bad S) (rf_bad S)
  | _ => rf_bad S
/-- an element: kind 0 iaload, 1 baload -/
def rf_eld (T : rf_Tb) (kd : Nat) (S : rf_St) : rf_R := match S with
  | (L, .int i :: .ref k :: st, n, σ) => cond (Nat.blt k 1000)
      (match T.1 k with
        | (kd', len, _) => cond (Nat.beq kd' kd && Nat.blt k n) ([rf_in i len], (L, .int (rf_row σ k i.toNatClampNeg) :: st, n, σ)) (rf_bad S))
      (match T.2 k with
        | (kd', len, f) => cond (Nat.beq kd' kd && Nat.ble k 1004) ([rf_in i len], (L, .int (f i.toNatClampNeg) :: st, n, σ)) (rf_bad S))
  | _ => rf_bad S
def rf_est (T : rf_Tb) (kd : Nat) (S : rf_St) : rf_R := match S with
  | (L, .int a :: .int i :: .ref k :: st, n, σ) => match T.1 k with
    | (kd', len, _) => cond (Nat.beq kd' kd && Nat.blt k n) (cond (Nat.beq kd 0) ([rf_in i len], (L, st, n, rf_wr σ k i.toNatClampNeg a)) ([rf_in i len, rf_bb a], (L, st, n, rf_wr σ k i.toNatClampNeg a))) (rf_bad S)
  | _ => rf_bad S
def rf_aald (T : rf_Tb) (S : rf_St) : rf_R := match S with
  | (L, .int i :: .ref k :: st, n, σ) => match T.1 k with
    | (kd, len, rs) => cond (Nat.beq kd 2 && Nat.blt k n) ([rf_in i len], (L, .ref (rs.getD i.toNatClampNeg 0) :: st, n, σ)) (rf_bad S)
  | _ => rf_bad S
def rf_alen (T : rf_Tb) (S : rf_St) : rf_R := match S with
  | (L, .ref k :: st, n, σ) => cond (Nat.blt k 1000)
      (match T.1 k with
        | (kd, len, _) => cond (Nat.ble kd 2 && Nat.blt k n) ([], (L, .int (Int32.ofNat len) :: st, n, σ)) (rf_bad S))
      (match T.2 k with
        | (_, len, _) => cond (Nat.ble k 1004) ([], (L, .int (Int32.ofNat len) :: st, n, σ)) (rf_bad S))
  | _ => rf_bad S
def rf_0 : Nat → Int32 := fun _ => 0
/-- a new object of class ci, or a new row (kd 0 ints, 1 booleans) of len -/
def rf_newo (T : rf_Tb) (ci : Nat) (S : rf_St) : rf_R := match S with
  | (L, st, n, σ) => match T.1 n with
    | (kd, len, sl) => cond (Nat.beq kd (ci + 3) && Nat.blt n 499 && decide (sl = rf_tkl.getD ci []) && Nat.beq len sl.length && rf_fr n L st) ([], (L, .ref n :: st, n + 1, rf_rs σ n rf_0)) (rf_bad S)
def rf_newr (T : rf_Tb) (kd len : Nat) (S : rf_St) : rf_R := match S with
  | (L, .int v :: st, n, σ) => match T.1 n with
    | (kd', len', sl) => cond (Nat.beq kd' kd && Nat.beq len' len && decide (sl = []) && Nat.blt n 499 && Nat.blt len 100000 && rf_fr n L st) ([rf_eqb v (Int32.ofNat len)], (L, .ref n :: st, n + 1, rf_rs σ n rf_0)) (rf_bad S)
  | _ => rf_bad S
/-- int[4][40]: the outer row n, its rows n + 1 to n + 4 -/
def rf_new2 (T : rf_Tb) (S : rf_St) : rf_R := match S with
  | (L, .int b :: .int a :: st, n, σ) =>
    cond (Nat.ble 1 n && Nat.beq (T.1 (n - 1)).1 0 && decide (T.1 n = (2, 4, [n + 1, n + 2, n + 3, n + 4])) && Nat.blt n 400 && decide (T.1 (n + 1) = (0, 40, [])) && decide (T.1 (n + 2) = (0, 40, [])) && decide (T.1 (n + 3) = (0, 40, [])) && decide (T.1 (n + 4) = (0, 40, [])) && rf_fr n L st && rf_fr (n + 1) L st && rf_fr (n + 2) L st && rf_fr (n + 3) L st && rf_fr (n + 4) L st)
      ([rf_eqb a 4, rf_eqb b 40], (L, .ref n :: st, n + 5, rf_rs (rf_rs (rf_rs (rf_rs (rf_rs σ n rf_0) (n + 1) rf_0) (n + 2) rf_0) (n + 3) rf_0) (n + 4) rf_0)) (rf_bad S)
  | _ => rf_bad S
def rf_oinit (S : rf_St) : rf_R := match S with
  | (L, .ref _ :: st, n, σ) => cond (Nat.ble st.length 8) ([], (L, st, n, σ)) (rf_bad S)
  | _ => rf_bad S
def rf_max (x y : Int32) : Int32 := if x < y then y else x
def rf_min (x y : Int32) : Int32 := if y < x then y else x
def rf_mm (f : Int32 → Int32 → Int32) (S : rf_St) : rf_R := match S with
  | (L, .int y :: .int x :: st, n, σ) => cond (Nat.ble st.length 8) ([], (L, .int (f x y) :: st, n, σ)) (rf_bad S)
  | _ => rf_bad S
def rf_copy (T : rf_Tb) (S : rf_St) : rf_R := match S with
  | (L, .int k :: .int dp :: .ref b :: .int sp :: .ref a :: st, n, σ) => match T.1 a, T.1 b with
    | (ka, la, _), (kb, lb, _) => cond (Nat.beq ka 0 && Nat.beq kb 0 && Nat.blt a n && Nat.blt b n && Nat.ble st.length 8)
        ([rf_cp sp dp k la lb], (L, st, n, rf_rs σ b (va_cpy (rf_row σ a) (rf_row σ b) sp.toNatClampNeg dp.toNatClampNeg k.toNatClampNeg))) (rf_bad S)
  | _ => rf_bad S
/-- a text's field: 0 its bytes, 1 its coder -/
def rf_sget (f : Nat) (S : rf_St) : rf_R := match S with
  | (L, .ref k :: st, n, σ) => cond (Nat.ble 1005 k && Nat.ble k 1006) (cond (Nat.beq f 0) ([], (L, .ref (k - 2) :: st, n, σ)) ([], (L, .int 0 :: st, n, σ))) (rf_bad S)
  | _ => rf_bad S
/-- one step. x, y, z, v, w: the numbers that the row bears. -/
def rf_ex1 (T : rf_Tb) (i : rf_I) (S : rf_St) : rf_R := match i with
  | (op, _, x, y, _, v, w) => match op with
    | .nop => rf_kill x S
    | .iconst _ => rf_push (.int v) S
    | .bipush _ => rf_push (.int v) S
    | .sipush _ => rf_push (.int v) S
    | .ldc _ => cond (Nat.beq x 0) (rf_push (.int v) S) (rf_push (.ref x) S)
    | .ldc_w _ => rf_push (.int v) S
    | .lconst _ => rf_push (.long w) S
    | .ldc2_w _ => rf_push (.long w) S
    | .aconst_null => rf_push .null S
    | .iload _ => rf_ild x S
    | .iload_n _ => rf_ild x S
    | .lload _ => rf_lld x S
    | .lload_n _ => rf_lld x S
    | .aload _ => rf_ald x S
    | .aload_n _ => rf_ald x S
    | .istore _ => rf_ist x S
    | .istore_n _ => rf_ist x S
    | .lstore _ => rf_lst x S
    | .lstore_n _ => rf_lst x S
    | .astore _ => rf_ast x S
    | .astore_n _ => rf_ast x S
    | .iinc _ _ => rf_inc x v S
    | .iadd => rf_i2 (fun x y => x + y) S
    | .isub => rf_i2 (fun x y => x - y) S
    | .imul => rf_i2 (fun x y => x * y) S
    | .iand => rf_i2 (fun x y => x &&& y) S
    | .ior => rf_i2 (fun x y => x ||| y) S
    | .ixor => rf_i2 (fun x y => x ^^^ y) S
    | .idiv => rf_i2z (fun x y => x / y) S
    | .irem => rf_i2z (fun x y => x - x / y * y) S
    | .ishl => rf_i2 (fun x y => x <<< (y &&& 31)) S
    | .ishr => rf_i2 (fun x y => x >>> (y &&& 31)) S
    | .iushr => rf_i2 (fun x y => (x.toUInt32 >>> (y.toUInt32 &&& Int32.toUInt32 31)).toInt32) S
    | .ineg => rf_i1 (fun x => -x) S
    | .i2b => rf_i1 (fun x => x.toInt8.toInt32) S
    | .i2s => rf_i1 (fun x => x.toInt16.toInt32) S
    | .i2c => rf_i1 (fun x => (x.toUInt32 % 65536).toInt32) S
    | .i2l => rf_i2l S
    | .l2i => rf_l2i S
    | .ladd => rf_l2 (fun x y => x + y) S
    | .lsub => rf_l2 (fun x y => x - y) S
    | .lmul => rf_l2 (fun x y => x * y) S
    | .land => rf_l2 (fun x y => x &&& y) S
    | .lor => rf_l2 (fun x y => x ||| y) S
    | .ldiv => rf_l2z (fun x y => x / y) S
    | .lrem => rf_l2z (fun x y => x - x / y * y) S
    | .lshl => rf_lsh (fun x y => x <<< (y.toInt64 &&& 63)) S
    | .lshr => rf_lsh (fun x y => x >>> (y.toInt64 &&& 63)) S
    | .lushr => rf_lsh (fun x y => (x.toUInt64 >>> (y.toInt64.toUInt64 &&& Int64.toUInt64 63)).toInt64) S
    | .lcmp => rf_lcmp S
    | .dup => rf_dup S
    | .dup2 => rf_dup2 S
    | .pop => rf_pop S
    | .getfield _ => cond (Nat.blt x 100) (rf_get T x y v S) (rf_sget y S)
    | .putfield _ => rf_put T x y S
    | .getstatic _ => cond (Nat.beq x 0) (rf_push (.int 1) S) (rf_push (.ref x) S)
    | .iaload => rf_eld T 0 S
    | .baload => rf_eld T 1 S
    | .iastore => rf_est T 0 S
    | .bastore => rf_est T 1 S
    | .aaload => rf_aald T S
    | .arraylength => rf_alen T S
    | .new _ => rf_newo T x S
    | .newarray _ => rf_newr T x y S
    | .multianewarray _ _ => rf_new2 T S
    | .invokespecial _ => rf_oinit S
    | .invokestatic _ => match x with
      | 0 => rf_mm rf_max S
      | 1 => rf_mm rf_min S
      | _ => rf_copy T S
    | _ => rf_bad S
def rf_ex (T : rf_Tb) : List rf_I → rf_St → rf_R
  | [], S => ([], S)
  | i :: is, S => match rf_ex1 T i S with
    | (ps, S1) => match rf_ex T is S1 with
      | (qs, S2) => (ps ++ qs, S2)
def rf_all : List Bool → Prop
  | [] => True
  | b :: bs => b = true ∧ rf_all bs
theorem rf_all_app : ∀ {a b : List Bool}, rf_all (a ++ b) → rf_all a ∧ rf_all b
  | [], _, h => ⟨trivial, h⟩
  | _ :: a, b, h => ⟨⟨h.1, (rf_all_app (a := a) h.2).1⟩, (rf_all_app (a := a) h.2).2⟩
/-- a row of the tables, at its place -/
def rf_hw (z : Nat) (w : Cond) : Bool := decide (lw_tbl[z]? = some w) && goodWord w
def rf_cls (ci : Nat) : vw_C := vwCl.getD ci (RX0, TX0, 0)
/-- what the bytes of M have at pc, and the tables say of it -/
def rf_ck1 (M : rf_M) (pc : Nat) (i : rf_I) : Bool := match i with
  | (op, len, x, y, z, v, w) => match op with
    | .nop => Nat.beq len 0
    | _ => decide (decode M.2.1 pc = .ok (op, len)) && match op with
      | .iconst n => Nat.beq len 1 && decide (Int32.ofInt n = v)
      | .bipush n => Nat.beq len 2 && decide ((Int8.ofInt n).toInt32 = v)
      | .sipush n => Nat.beq len 3 && decide ((Int16.ofInt n).toInt32 = v)
      | .ldc k => Nat.beq len 2 && cond (Nat.beq x 0) (rf_hw z (.constant M.1.cls k v)) (decide (M.1.cls = RX2) && Nat.ble 1005 x && Nat.ble x 1006 && decide (lw_tbl[z]? = some (.stringRef RX2 k (if x = 1005 then "fgpqn" else "nlgb"))))
      | .ldc_w k => Nat.beq len 3 && rf_hw z (.constant M.1.cls k v)
      | .lconst n => Nat.beq len 1 && decide (Int64.ofNat n.val = w)
      | .ldc2_w k => Nat.beq len 3 && rf_hw z (.constantLong M.1.cls k w)
      | .iload k => Nat.beq len 2 && Nat.beq k x
      | .lload k => Nat.beq len 2 && Nat.beq k x
      | .aload k => Nat.beq len 2 && Nat.beq k x
      | .istore k => Nat.beq len 2 && Nat.beq k x
      | .lstore k => Nat.beq len 2 && Nat.beq k x
      | .astore k => Nat.beq len 2 && Nat.beq k x
      | .iload_n k => Nat.beq len 1 && Nat.beq k.val x
      | .lload_n k => Nat.beq len 1 && Nat.beq k.val x
      | .aload_n k => Nat.beq len 1 && Nat.beq k.val x
      | .istore_n k => Nat.beq len 1 && Nat.beq k.val x
      | .lstore_n k => Nat.beq len 1 && Nat.beq k.val x
      | .astore_n k => Nat.beq len 1 && Nat.beq k.val x
      | .iinc k n => Nat.beq len 3 && Nat.beq k x && decide (Int32.ofInt n = v)
      | .getfield k => Nat.beq len 3 && cond (Nat.blt x 100)
          (Nat.blt x 13 && Nat.blt y (rf_cls x).2.2 && rf_hw z (.fieldLink M.1.cls k ((rf_cls x).2.1 y).1 ((rf_cls x).2.1 y).2.1 ((rf_cls x).2.1 y).2.2.1))
          (cond (Nat.beq y 0) (rf_hw z (.fieldLink M.1.cls k "java/lang/String" "value" "[B")) (rf_hw z (.fieldLink M.1.cls k "java/lang/String" "coder" "B")))
      | .putfield k => Nat.beq len 3 && Nat.blt x 13 && Nat.blt y (rf_cls x).2.2 && rf_hw z (.fieldLink M.1.cls k ((rf_cls x).2.1 y).1 ((rf_cls x).2.1 y).2.1 ((rf_cls x).2.1 y).2.2.1) &&
          (!((rf_cls x).2.1 y).2.2.2 || (decide (M.1.name = "<init>") && decide (((rf_cls x).2.1 y).1 = M.1.cls)))
      | .getstatic k => Nat.beq len 3 && match x with
        | 0 => rf_hw z (.fieldLink M.1.cls k "java/lang/String" "COMPACT_STRINGS" "Z")
        | 1001 => rf_hw z (.fieldLink M.1.cls k "CoatsByLot" "ABOVE" "[I") || decide (lw_tbl[z]? = some (.fieldLinkNest M.1.cls k "CoatsByLot" "ABOVE" "[I" "CoatsByLot"))
        | 1002 => rf_hw z (.fieldLink M.1.cls k "CoatsByLot$Voices" "BODIES" "[I")
        | _ => false
      | .new k => Nat.beq len 3 && Nat.blt x 13 && rf_hw z (.classLink M.1.cls k (rf_cls x).1)
      | .newarray a => Nat.beq len 2 && (match x, a with
        | 0, .int => true
        | 1, .boolean => true
        | _, _ => false)
      | .multianewarray k n => Nat.beq len 4 && Nat.beq n 2 && rf_hw z (.classLink M.1.cls k "[[I")
      | .invokespecial k => Nat.beq len 3 && rf_hw z (.methodLink M.1.cls k Lib.objectInit)
      | .invokestatic k => Nat.beq len 3 && match x with
        | 0 => rf_hw z (.methodLink M.1.cls k Lib.Math.max.name)
        | 1 => rf_hw z (.methodLink M.1.cls k Lib.Math.min.name)
        | 2 => rf_hw z (.methodLink M.1.cls k arraycopyName)
        | _ => false
      | _ => Nat.beq len 1
def rf_ck (M : rf_M) : Nat → List rf_I → Bool
  | _, [] => true
  | pc, i :: is => rf_ck1 M pc i && rf_ck M (pc + i.2.1) is
def rf_end : Nat → List rf_I → Nat
  | pc, [] => pc
  | pc, i :: is => rf_end (pc + i.2.1) is
