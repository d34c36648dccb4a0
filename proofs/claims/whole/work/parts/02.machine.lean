/-! THE SMALL MACHINE: a machine of lists and functions that does what the bytecode does. A heap: ints, longs, references by cell and place, and a list of the cells' kinds and lengths (kind below 90: an object of that class; 100 int[], 101 long[], 102 byte[], 103 Room[]). A reference '.ref a' names the a-th cell that the run has made, '.retAddr j' names a constant thing that was there before (0 the script, 1 and 2 static arrays, 3 to 7 texts, 8 to 12 their bytes, 13 a thing that is only handed on). '.float 0' in a local: nothing is known of it. -/
abbrev mj_H : Type := (Nat → Nat → Int32) × (Nat → Nat → Int64) × (Nat → Nat → Value) × List (Nat × Nat)
abbrev mj_R : Type := Option (Option Value × mj_H)
abbrev mj_I : Type := Instr × Nat × Int32 × List Nat
abbrev mj_K : Type := List Value → List Value → mj_H → mj_R
abbrev mj_E : Type := Nat → Nat × (Nat → Int32)
abbrev mj_Me : Type := MethodName × ByteArray × Nat × Option FieldType × List (Nat × List mj_I)
def mj_u {α : Type} (f : Nat → Nat → α) (a i : Nat) (v : α) : Nat → Nat → α := fun x y => if x = a ∧ y = i then v else f x y
/-- a cell's row anew -/
def mj_ur {α : Type} (f : Nat → Nat → α) (a : Nat) (g : Nat → α) : Nat → Nat → α := fun x y => if x = a then g y else f x y
def mj_nth : List (Nat × Nat) → Nat → Nat × Nat
  | [], _ => (999, 0)
  | q :: _, 0 => q
  | _ :: t, n + 1 => mj_nth t n
def mj_kd (h : mj_H) (a : Nat) : Nat := (mj_nth h.2.2.2 a).1
def mj_ln (h : mj_H) (a : Nat) : Nat := (mj_nth h.2.2.2 a).2
def mj_at : List Value → Nat → Value
  | [], _ => .float 0
  | v :: _, 0 => v
  | _ :: t, n + 1 => mj_at t n
def mj_set : List Value → Nat → Value → List Value
  | [], _, _ => []
  | _ :: t, 0, v => v :: t
  | w :: t, n + 1, v => w :: mj_set t n v
/-- the local before a stored one: a long there is broken -/
def mj_brk : List Value → Nat → List Value
  | ls, 0 => ls
  | ls, n + 1 => match mj_at ls n with
    | .long _ => mj_set ls n (.float 0)
    | .double _ => mj_set ls n (.float 0)
    | _ => ls
def mj_sto (ls : List Value) (i : Nat) (v : Value) : List Value := mj_set (mj_brk ls i) i v
def mj_cat : List Value → Nat
  | [] => 0
  | .long _ :: t => 2 + mj_cat t
  | .double _ :: t => 2 + mj_cat t
  | _ :: t => 1 + mj_cat t
def mj_wi (f : Nat → Nat → Int32) (h : mj_H) : mj_H := (f, h.2)
def mj_wl (f : Nat → Nat → Int64) (h : mj_H) : mj_H := (h.1, f, h.2.2)
def mj_wr (f : Nat → Nat → Value) (h : mj_H) : mj_H := (h.1, h.2.1, f, h.2.2.2)
/-- a new cell, all its places as Java makes them -/
def mj_new (k n : Nat) (h : mj_H) : mj_H := (mj_ur h.1 h.2.2.2.length (fun _ => 0), mj_ur h.2.1 h.2.2.2.length (fun _ => 0), mj_ur h.2.2.1 h.2.2.2.length (fun _ => .null), h.2.2.2 ++ [(k, n)])
def mj_in (i : Int32) (n : Nat) : Prop := 0 ≤ i ∧ i.toNatClampNeg < n
/-- a test that only the shape of things decides -/
def mj_g (p : Prop) [dd : Decidable p] (x : mj_R) : mj_R := match dd with
  | .isTrue _ => x
  | .isFalse _ => none
theorem mj_g_if (p : Prop) [dd : Decidable p] (x : mj_R) : mj_g p x = if p then x else none := by
  unfold mj_g
  cases dd with
  | isTrue h => rw [if_pos h]
  | isFalse h => rw [if_neg h]
/-- reading a local -/
def mj_ild (ls st : List Value) (n : Nat) (h : mj_H) (K : mj_K) : mj_R := match mj_at ls n with
  | .int x => K ls (.int x :: st) h
  | _ => none
def mj_lld (ls st : List Value) (n : Nat) (h : mj_H) (K : mj_K) : mj_R := match mj_at ls n with
  | .long x => K ls (.long x :: st) h
  | _ => none
def mj_ald (ls st : List Value) (n : Nat) (h : mj_H) (K : mj_K) : mj_R := match mj_at ls n with
  | .ref x => K ls (.ref x :: st) h
  | .retAddr x => mj_g (x < 13) (K ls (.retAddr x :: st) h)
  | _ => none
def mj_ist (ls st : List Value) (n : Nat) (h : mj_H) (K : mj_K) : mj_R := match st with
  | .int x :: r => mj_g (n < ls.length) (K (mj_sto ls n (.int x)) r h)
  | _ => none
def mj_lst (ls st : List Value) (n : Nat) (h : mj_H) (K : mj_K) : mj_R := match st with
  | .long x :: r => mj_g (n + 1 < ls.length) (K (mj_set (mj_sto ls n (.long x)) (n + 1) (.float 0)) r h)
  | _ => none
def mj_ast (ls st : List Value) (n : Nat) (h : mj_H) (K : mj_K) : mj_R := match st with
  | .ref x :: r => mj_g (n < ls.length) (K (mj_sto ls n (.ref x)) r h)
  | _ => none
def mj_i2 (f : Int32 → Int32 → Int32) (ls st : List Value) (h : mj_H) (K : mj_K) : mj_R := match st with
  | .int y :: .int x :: r => K ls (.int (f x y) :: r) h
  | _ => none
def mj_l2 (f : Int64 → Int64 → Int64) (ls st : List Value) (h : mj_H) (K : mj_K) : mj_R := match st with
  | .long y :: .long x :: r => K ls (.long (f x y) :: r) h
  | _ => none
def mj_ls (f : Int64 → Int32 → Int64) (ls st : List Value) (h : mj_H) (K : mj_K) : mj_R := match st with
  | .int y :: .long x :: r => K ls (.long (f x y) :: r) h
  | _ => none
def mj_i1 (f : Int32 → Value) (ls st : List Value) (h : mj_H) (K : mj_K) : mj_R := match st with
  | .int x :: r => K ls (f x :: r) h
  | _ => none
/-- a cell's reference, seen by its kind -/
def mj_rf (v : Value) (ls st : List Value) (h : mj_H) (K : mj_K) : mj_R := match v with
  | .ref x => K ls (.ref x :: st) h
  | .retAddr x => K ls (.retAddr x :: st) h
  | .null => K ls (.null :: st) h
  | _ => none
def mj_getf (ax : List Nat) (ls st : List Value) (h : mj_H) (K : mj_K) : mj_R := match ax, st with
  | [0, _], .retAddr j :: r => mj_g (3 ≤ j ∧ j < 8) (K ls (.retAddr (j + 5) :: r) h)
  | [1, _], .retAddr j :: r => mj_g (3 ≤ j ∧ j < 8) (K ls (.int 0 :: r) h)
  | [ci, k, fc, _], .ref a :: r => mj_g (mj_kd h a = ci) (match fc with
      | 0 => K ls (.int (h.1 a k) :: r) h
      | 1 => K ls (.int (h.1 a k) :: r) h
      | 2 => K ls (.long (h.2.1 a k) :: r) h
      | _ => mj_rf (h.2.2.1 a k) ls r h K)
  | _, _ => none
def mj_putf (ax : List Nat) (ls st : List Value) (h : mj_H) (K : mj_K) : mj_R := match ax, st with
  | [ci, k, 0, _], .int x :: .ref a :: r => mj_g (mj_kd h a = ci) (K ls r (mj_wi (mj_u h.1 a k x) h))
  | [ci, k, 1, _], .int x :: .ref a :: r => mj_g (mj_kd h a = ci) (if x = 0 ∨ x = 1 then K ls r (mj_wi (mj_u h.1 a k x) h) else none)
  | [ci, k, 2, _], .long x :: .ref a :: r => mj_g (mj_kd h a = ci) (K ls r (mj_wl (mj_u h.2.1 a k x) h))
  | [ci, k, 3, _], .ref x :: .ref a :: r => mj_g (mj_kd h a = ci) (K ls r (mj_wr (mj_u h.2.2.1 a k (.ref x)) h))
  | [ci, k, 3, _], .retAddr x :: .ref a :: r => mj_g (mj_kd h a = ci) (mj_g (3 ≤ x ∧ x < 8) (K ls r (mj_wr (mj_u h.2.2.1 a k (.retAddr x)) h)))
  | [ci, k, 3, _], .null :: .ref a :: r => mj_g (mj_kd h a = ci) (K ls r (mj_wr (mj_u h.2.2.1 a k .null) h))
  | _, _ => none
/-- an int out of an array of the kind kd -/
def mj_iald (kd : Nat) (E : mj_E) (ls st : List Value) (h : mj_H) (K : mj_K) : mj_R := match st with
  | .int i :: .ref a :: r => mj_g (mj_kd h a = kd) (if 0 ≤ i ∧ i.toNatClampNeg < mj_ln h a then K ls (.int (h.1 a i.toNatClampNeg) :: r) h else none)
  | .int i :: .retAddr j :: r => if ((kd = 100 ∧ j < 3) ∨ (kd = 102 ∧ 8 ≤ j ∧ j < 13)) ∧ (E j).1 ≤ 65536 then (if 0 ≤ i ∧ i.toNatClampNeg < (E j).1 then K ls (.int ((E j).2 i.toNatClampNeg) :: r) h else none) else none
  | _ => none
def mj_lald (ls st : List Value) (h : mj_H) (K : mj_K) : mj_R := match st with
  | .int i :: .ref a :: r => mj_g (mj_kd h a = 101) (if 0 ≤ i ∧ i.toNatClampNeg < mj_ln h a then K ls (.long (h.2.1 a i.toNatClampNeg) :: r) h else none)
  | _ => none
def mj_aald (ls st : List Value) (h : mj_H) (K : mj_K) : mj_R := match st with
  | .int i :: .ref a :: r => mj_g (mj_kd h a = 103) (if 0 ≤ i ∧ i.toNatClampNeg < mj_ln h a then (match h.2.2.1 a i.toNatClampNeg with
      | .ref x => K ls (.ref x :: r) h
      | .null => K ls (.null :: r) h
      | _ => none) else none)
  | _ => none
def mj_iast (ls st : List Value) (h : mj_H) (K : mj_K) : mj_R := match st with
  | .int x :: .int i :: .ref a :: r => mj_g (mj_kd h a = 100) (if 0 ≤ i ∧ i.toNatClampNeg < mj_ln h a then K ls r (mj_wi (mj_u h.1 a i.toNatClampNeg x) h) else none)
  | _ => none
def mj_bast (ls st : List Value) (h : mj_H) (K : mj_K) : mj_R := match st with
  | .int x :: .int i :: .ref a :: r => mj_g (mj_kd h a = 102) (if 0 ≤ i ∧ i.toNatClampNeg < mj_ln h a then K ls r (mj_wi (mj_u h.1 a i.toNatClampNeg x.toInt8.toInt32) h) else none)
  | _ => none
def mj_last (ls st : List Value) (h : mj_H) (K : mj_K) : mj_R := match st with
  | .long x :: .int i :: .ref a :: r => mj_g (mj_kd h a = 101) (if 0 ≤ i ∧ i.toNatClampNeg < mj_ln h a then K ls r (mj_wl (mj_u h.2.1 a i.toNatClampNeg x) h) else none)
  | _ => none
def mj_aast (ls st : List Value) (h : mj_H) (K : mj_K) : mj_R := match st with
  | .ref x :: .int i :: .ref a :: r => mj_g (mj_kd h a = 103 ∧ mj_kd h x = 7) (if 0 ≤ i ∧ i.toNatClampNeg < mj_ln h a then K ls r (mj_wr (mj_u h.2.2.1 a i.toNatClampNeg (.ref x)) h) else none)
  | _ => none
def mj_alen (E : mj_E) (ls st : List Value) (h : mj_H) (K : mj_K) : mj_R := match st with
  | .ref a :: r => mj_g (100 ≤ mj_kd h a ∧ mj_kd h a < 104) (K ls (.int (Int32.ofNat (mj_ln h a)) :: r) h)
  | .retAddr j :: r => if (j < 3 ∨ (8 ≤ j ∧ j < 13)) ∧ (E j).1 ≤ 65536 then K ls (.int (Int32.ofNat (E j).1) :: r) h else none
  | _ => none
def mj_newa (kd : Nat) (ls st : List Value) (h : mj_H) (K : mj_K) : mj_R := match st with
  | .int n :: r => if 0 ≤ n ∧ n.toNatClampNeg ≤ 65536 then K ls (.ref h.2.2.2.length :: r) (mj_new kd n.toNatClampNeg h) else none
  | _ => none
def mj_copy (ls st : List Value) (h : mj_H) (K : mj_K) : mj_R := match st with
  | .int n :: .int dp :: .ref b :: .int sp :: .ref a :: r => mj_g (mj_kd h a = 100 ∧ mj_kd h b = 100 ∧ r.length ≤ 4) (      (if 0 ≤ sp ∧ 0 ≤ dp ∧ 0 ≤ n ∧ sp.toNatClampNeg + n.toNatClampNeg ≤ mj_ln h a ∧ dp.toNatClampNeg + n.toNatClampNeg ≤ mj_ln h b then
        K ls r (mj_wi (mj_ur h.1 b (fun k => if dp.toNatClampNeg ≤ k ∧ k < dp.toNatClampNeg + n.toNatClampNeg then h.1 a (sp.toNatClampNeg + (k - dp.toNatClampNeg)) else h.1 b k)) h) else none))
  | _ => none
/-- what a call brings: nothing, an int, a long, a reference -/
def mj_bv (q : mj_R) (f : mj_H → mj_R) : mj_R := match q with
  | some (none, h') => f h'
  | _ => none
def mj_bi (q : mj_R) (f : Int32 → mj_H → mj_R) : mj_R := match q with
  | some (some (.int x), h') => f x h'
  | _ => none
def mj_bj (q : mj_R) (f : Int64 → mj_H → mj_R) : mj_R := match q with
  | some (some (.long x), h') => f x h'
  | _ => none
def mj_br (q : mj_R) (f : Nat → mj_H → mj_R) : mj_R := match q with
  | some (some (.ref x), h') => f x h'
  | _ => none
def mj_back (rt : Nat) (q : mj_R) (ls rest : List Value) (K : mj_K) : mj_R := match rt with
  | 0 => mj_bv q (fun h' => K ls rest h')
  | 1 => mj_bi q (fun x h' => K ls (.int x :: rest) h')
  | 2 => mj_bj q (fun x h' => K ls (.long x :: rest) h')
  | 3 => mj_br q (fun x h' => K ls (.ref x :: rest) h')
  | _ => none
def mj_call (C : Nat → List Value → mj_H → mj_R) (ax : List Nat) (ls st : List Value) (h : mj_H) (K : mj_K) : mj_R := match ax with
  | [3, _] => match st with
    | .ref _ :: r => mj_g (mj_cat r ≤ 8) (K ls r h)
    | _ => none
  | [4, _] => mj_copy ls st h K
  | 1 :: mn :: _ :: n :: rt :: _ => mj_g (n ≤ st.length ∧ mj_cat (st.drop n) ≤ 8) (mj_back rt (C mn (st.take n).reverse h) ls (st.drop n) K)
  | 6 :: mn :: _ :: n :: rt :: _ => mj_g (n ≤ st.length ∧ mj_cat (st.drop n) ≤ 8) (mj_back rt (C mn (st.take n).reverse h) ls (st.drop n) K)
  | 0 :: mn :: ci :: n :: rt :: _ => match st.drop n with
    | .ref a :: r => mj_g (mj_kd h a = ci ∧ mj_cat r ≤ 8) (mj_back rt (C mn (.ref a :: (st.take n).reverse) h) ls r K)
    | _ => none
  | 2 :: mn :: ci :: n :: _ => match st.drop n with
    | .ref a :: r => mj_g (mj_kd h a = ci ∧ mj_cat r ≤ 8) (mj_back 0 (C mn (.ref a :: (st.take n).reverse) h) ls r K)
    | _ => none
  | 7 :: mn :: ci :: n :: _ => match st.drop n with
    | .ref a :: r => mj_g (mj_kd h a = ci ∧ mj_cat r ≤ 8) (mj_back 0 (C mn (.ref a :: (st.take n).reverse) h) ls r K)
    | _ => none
  | 8 :: mn :: _ :: n :: rt :: _ => match st.drop n with
    | .retAddr j :: r => mj_g ((3 ≤ j ∧ j < 8) ∧ mj_cat r ≤ 8) (mj_back rt (C mn (.retAddr j :: (st.take n).reverse) h) ls r K)
    | _ => none
  | _ => none
def mj_sw (x lo : Int32) (d : Nat) : List Nat → Nat
  | [] => d
  | t :: ts => if x = lo then t else mj_sw x (lo + 1) d ts
def mj_c1 (p : Int32 → Prop) [DecidablePred p] (t : Nat) (ls st : List Value) (h : mj_H) (K : mj_K) (J : Nat → mj_K) : mj_R := match st with
  | .int x :: r => if p x then J t ls r h else K ls r h
  | _ => none
def mj_c2 (p : Int32 → Int32 → Prop) [∀ x y, Decidable (p x y)] (t : Nat) (ls st : List Value) (h : mj_H) (K : mj_K) (J : Nat → mj_K) : mj_R := match st with
  | .int y :: .int x :: r => if p x y then J t ls r h else K ls r h
  | _ => none
def mj_ret (rt : Nat) (st : List Value) (h : mj_H) : mj_R := match st with
  | [.int x] => match rt with
    | 0 => some (some (.int x), h)
    | 1 => if x = 0 ∨ x = 1 then some (some (.int x), h) else none
    | 2 => if narrow .char (.int x) = .int x then some (some (.int x), h) else none
    | 3 => if narrow .byte (.int x) = .int x then some (some (.int x), h) else none
    | _ => none
  | _ => none
def mj_rem (x y : Int32) : Int32 := x - x / y * y
def mj_ush (x y : Int32) : Int32 := (x.toUInt32 >>> (y.toUInt32 &&& Int32.toUInt32 31)).toInt32
def mj_lush (x : Int64) (y : Int32) : Int64 := (x.toUInt64 >>> (y.toInt64.toUInt64 &&& Int64.toUInt64 63)).toInt64
/-- one instruction: K goes on behind it, J at a place of the code, C does a call -/
def mj_ex (E : mj_E) (C : Nat → List Value → mj_H → mj_R) (i : Instr) (cst : Int32) (ax : List Nat) (ls st : List Value) (h : mj_H) (K : mj_K) (J : Nat → mj_K) : mj_R := match i with
  | .iconst _ => K ls (.int cst :: st) h
  | .bipush _ => K ls (.int cst :: st) h
  | .sipush _ => K ls (.int cst :: st) h
  | .ldc _ => match ax with
    | [0, _] => K ls (.int cst :: st) h
    | [1, j, _] => K ls (.retAddr j :: st) h
    | _ => none
  | .ldc_w _ => match ax with
    | [0, _] => K ls (.int cst :: st) h
    | _ => none
  | .ldc2_w _ => match ax with
    | [v, _] => K ls (.long (Int64.ofNat v) :: st) h
    | _ => none
  | .lconst n => K ls (.long (Int64.ofNat (n : Nat)) :: st) h
  | .aconst_null => K ls (.null :: st) h
  | .iload n => mj_ild ls st n h K
  | .iload_n n => mj_ild ls st (n : Nat) h K
  | .lload n => mj_lld ls st n h K
  | .lload_n n => mj_lld ls st (n : Nat) h K
  | .aload n => mj_ald ls st n h K
  | .aload_n n => mj_ald ls st (n : Nat) h K
  | .istore n => mj_ist ls st n h K
  | .istore_n n => mj_ist ls st (n : Nat) h K
  | .lstore n => mj_lst ls st n h K
  | .lstore_n n => mj_lst ls st (n : Nat) h K
  | .astore n => mj_ast ls st n h K
  | .astore_n n => mj_ast ls st (n : Nat) h K
  | .iinc n _ => match mj_at ls n with
    | .int x => mj_g (n < ls.length) (K (mj_sto ls n (.int (x + cst))) st h)
    | _ => none
  | .iadd => mj_i2 (fun x y => x + y) ls st h K
  | .isub => mj_i2 (fun x y => x - y) ls st h K
  | .imul => mj_i2 (fun x y => x * y) ls st h K
  | .iand => mj_i2 (fun x y => x &&& y) ls st h K
  | .ior => mj_i2 (fun x y => x ||| y) ls st h K
  | .ixor => mj_i2 (fun x y => x ^^^ y) ls st h K
  | .ishl => mj_i2 (fun x y => x <<< (y &&& 31)) ls st h K
  | .ishr => mj_i2 (fun x y => x >>> (y &&& 31)) ls st h K
  | .iushr => mj_i2 mj_ush ls st h K
  | .idiv => match st with
    | .int y :: .int x :: r => if y = 0 then none else K ls (.int (x / y) :: r) h
    | _ => none
  | .irem => match st with
    | .int y :: .int x :: r => if y = 0 then none else K ls (.int (mj_rem x y) :: r) h
    | _ => none
  | .ladd => mj_l2 (fun x y => x + y) ls st h K
  | .lsub => mj_l2 (fun x y => x - y) ls st h K
  | .lmul => mj_l2 (fun x y => x * y) ls st h K
  | .land => mj_l2 (fun x y => x &&& y) ls st h K
  | .lor => mj_l2 (fun x y => x ||| y) ls st h K
  | .ldiv => match st with
    | .long y :: .long x :: r => if y = 0 then none else K ls (.long (x / y) :: r) h
    | _ => none
  | .lshl => mj_ls (fun x y => x <<< (y.toInt64 &&& 63)) ls st h K
  | .lshr => mj_ls (fun x y => x >>> (y.toInt64 &&& 63)) ls st h K
  | .lushr => mj_ls mj_lush ls st h K
  | .lcmp => match st with
    | .long y :: .long x :: r => K ls (.int (lg_cmp x y) :: r) h
    | _ => none
  | .i2l => mj_i1 (fun x => .long x.toInt64) ls st h K
  | .i2b => mj_i1 (fun x => .int x.toInt8.toInt32) ls st h K
  | .i2c => mj_i1 (fun x => .int (x.toUInt32 % 65536).toInt32) ls st h K
  | .l2i => match st with
    | .long x :: r => K ls (.int x.toInt32 :: r) h
    | _ => none
  | .dup => match st with
    | .int x :: r => K ls (.int x :: .int x :: r) h
    | .ref x :: r => K ls (.ref x :: .ref x :: r) h
    | _ => none
  | .dup2 => match st with
    | .int y :: .int x :: r => K ls (.int y :: .int x :: .int y :: .int x :: r) h
    | .int y :: .ref x :: r => K ls (.int y :: .ref x :: .int y :: .ref x :: r) h
    | _ => none
  | .pop => match st with
    | .int _ :: r => K ls r h
    | _ => none
  | .getfield _ => mj_getf ax ls st h K
  | .putfield _ => mj_putf ax ls st h K
  | .getstatic _ => match ax with
    | [0, _, _] => K ls (.retAddr 1 :: st) h
    | [1, _, _] => K ls (.retAddr 2 :: st) h
    | [2, _, _] => K ls (.int 1 :: st) h
    | [3, _, _] => K ls (.retAddr 13 :: st) h
    | _ => none
  | .iaload => mj_iald 100 E ls st h K
  | .baload => mj_iald 102 E ls st h K
  | .laload => mj_lald ls st h K
  | .aaload => mj_aald ls st h K
  | .iastore => mj_iast ls st h K
  | .bastore => mj_bast ls st h K
  | .lastore => mj_last ls st h K
  | .aastore => mj_aast ls st h K
  | .arraylength => mj_alen E ls st h K
  | .new _ => match ax with
    | [ci, n, _, _, _] => K ls (.ref h.2.2.2.length :: st) (mj_new ci n h)
    | _ => none
  | .newarray _ => match ax with
    | [kd] => mj_newa kd ls st h K
    | _ => none
  | .anewarray _ => mj_newa 103 ls st h K
  | .if_icmp .eq _ => mj_c2 (fun x y => x = y) (ax.headD 0) ls st h K J
  | .if_icmp .ne _ => mj_c2 (fun x y => ¬ x = y) (ax.headD 0) ls st h K J
  | .if_icmp .lt _ => mj_c2 (fun x y => x < y) (ax.headD 0) ls st h K J
  | .if_icmp .ge _ => mj_c2 (fun x y => y ≤ x) (ax.headD 0) ls st h K J
  | .if_icmp .gt _ => mj_c2 (fun x y => y < x) (ax.headD 0) ls st h K J
  | .if_icmp .le _ => mj_c2 (fun x y => x ≤ y) (ax.headD 0) ls st h K J
  | .ifCond .eq _ => mj_c1 (fun x => x = 0) (ax.headD 0) ls st h K J
  | .ifCond .ne _ => mj_c1 (fun x => ¬ x = 0) (ax.headD 0) ls st h K J
  | .ifCond .lt _ => mj_c1 (fun x => x < 0) (ax.headD 0) ls st h K J
  | .ifCond .ge _ => mj_c1 (fun x => 0 ≤ x) (ax.headD 0) ls st h K J
  | .ifCond .gt _ => mj_c1 (fun x => 0 < x) (ax.headD 0) ls st h K J
  | .ifCond .le _ => mj_c1 (fun x => x ≤ 0) (ax.headD 0) ls st h K J
  | .ifnonnull _ => match st with
    | .ref _ :: r => J (ax.headD 0) ls r h
    | .null :: r => K ls r h
    | _ => none
  | .goto _ => J (ax.headD 0) ls st h
  | .tableswitch _ _ _ _ => match ax, st with
    | d :: ts, .int x :: r => J (mj_sw x cst d ts) ls r h
    | _, _ => none
  | .invokevirtual _ => mj_call C ax ls st h K
  | .invokestatic _ => mj_call C ax ls st h K
  | .invokespecial _ => mj_call C ax ls st h K
  | .ireturn => mj_ret (ax.headD 9) st h
  | .lreturn => match st with
    | [.long x] => some (some (.long x), h)
    | _ => none
  | .areturn => match st with
    | [.ref x] => some (some (.ref x), h)
    | _ => none
  | .return_ => match st with
    | [] => some (none, h)
    | _ => none
  | _ => none
/-- a stretch of code from pc on -/
def mj_bl (E : mj_E) (C : Nat → List Value → mj_H → mj_R) (J : Nat → mj_K) : List mj_I → Nat → mj_K
  | [], pc => J pc
  | i :: is, pc => fun ls st h => mj_ex E C i.1 i.2.2.1 i.2.2.2 ls st h (mj_bl E C J is (pc + i.2.1)) J
def mj_find : List (Nat × List mj_I) → Nat → List mj_I
  | [], _ => []
  | b :: bs, pc => if b.1 = pc then b.2 else mj_find bs pc
/-- the locals at a method's entry: a long takes two -/
def mj_loc : List Value → List Value
  | [] => []
  | .long x :: t => .long x :: .float 0 :: mj_loc t
  | .double x :: t => .double x :: .float 0 :: mj_loc t
  | v :: t => v :: mj_loc t
def mj_pad (ls : List Value) (n : Nat) : List Value := ls ++ List.replicate (n - ls.length) (.float 0)
/-- the run: P the methods, d calls deep at most, n steps from place to place at most -/
def mj_run (P : Nat → mj_Me) (E : mj_E) : Nat → Nat → Nat → Nat → mj_K
  | 0, _, _, _ => fun _ _ _ => none
  | n + 1, d, m, pc => mj_bl E (fun m' as h => match d with
        | 0 => none
        | d + 1 => if (mj_loc as).length ≤ (P m').2.2.1 then mj_run P E n d m' 0 (mj_pad (mj_loc as) (P m').2.2.1) [] h else none) (fun pc' => mj_run P E n d m pc') (mj_find (P m).2.2.2.2 pc) pc
