/-! A PURE MACHINE for the instructions that this system uses: a state is a program counter, the locals, the stack and a picture of the heap; references are numbers (0 to 16: what was there before, 17 on: what is made, in the order of the making). Part 03 shows that the machine itself follows it. -/
abbrev pe_T : Type := Nat × Instr × Nat × Nat × Int
abbrev pm_T : Type := String × MethodName × ByteArray × Nat × Option FieldType × Nat × List pe_T
abbrev ph_T : Type := List (Nat × Nat) × (Nat → Nat → Nat) × (Nat → Nat → Int32)
abbrev ps_T : Type := Nat × List (Nat × Value) × List Value × ph_T
/-- what was there before: the script, the class's two tables, the seven words, their bytes -/
def px_sh (L : Nat) (a : Nat) : Nat × Nat := ([(0, L), (0, 6), (0, 4), (20, 2), (20, 2), (20, 2), (20, 2), (20, 2), (20, 2), (20, 2), (1, 4), (1, 4), (1, 6), (1, 6), (1, 7), (1, 3), (1, 6)] : List (Nat × Nat)).getD a (99, 0)
/-- kind and size of a cell: 0 ints, 1 bytes, 2 shorts, 3 booleans, 4 to 6 references, 10 on objects, 20 a word -/
def ps_sh (L : Nat) (h : ph_T) (a : Nat) : Nat × Nat := if a < 17 then px_sh L a else h.1.getD (a - 17) (99, 0)
def pi_up (f : Nat → Nat → Int32) (a i : Nat) (v : Int32) : Nat → Nat → Int32 := fun b j => if b = a ∧ j = i then v else f b j
def pi_row (f : Nat → Nat → Int32) (a : Nat) (g : Nat → Int32) : Nat → Nat → Int32 := fun b j => if b = a then g j else f b j
def pr_up (f : Nat → Nat → Nat) (a i : Nat) (v : Nat) : Nat → Nat → Nat := fun b j => if b = a ∧ j = i then v else f b j
def pr_row (f : Nat → Nat → Nat) (a : Nat) (g : Nat → Nat) : Nat → Nat → Nat := fun b j => if b = a then g j else f b j
/-- a field's kind: 0 int, 1 reference, 2 boolean -/
def pf_ty (ci k : Nat) : Nat := (([[1, 0], [1, 1, 1, 0], [1, 1, 1, 1, 0], [1, 1, 1, 0, 0], [0, 0, 0, 0, 0, 0, 0, 0, 0], [1, 2, 0, 0], [1, 1, 1, 0], [1, 1, 1, 1], [1, 1, 1, 1, 1, 1, 0, 0, 0], [0, 0, 1, 1, 1, 1, 1, 1, 1, 1, 1, 1, 0, 0, 1, 1, 1, 1, 1, 1, 1, 1, 1, 1, 1, 1, 1, 1, 1, 1, 0, 0, 0, 0, 0, 0, 0, 0, 0, 1, 1, 1, 1, 0]] : List (List Nat)).getD ci []).getD k 0
def pf_n (ci : Nat) : Nat := ([2, 4, 5, 5, 9, 4, 4, 4, 9, 44] : List Nat).getD ci 0
def pl_get (lv : List (Nat × Value)) (i : Nat) : Option Value := (lv.find? (fun q => q.1 == i)).map (fun q => q.2)
def pl_set (lv : List (Nat × Value)) (i : Nat) (v : Value) : List (Nat × Value) := (i, v) :: lv.filter (fun q => !(q.1 == i) && !(q.1 + 1 == i && q.2.category == 2))
def pl_set2 (lv : List (Nat × Value)) (i : Nat) (v : Value) : List (Nat × Value) := (i, v) :: lv.filter (fun q => !(q.1 == i) && (!(q.1 == i + 1) && !(q.1 + 1 == i && q.2.category == 2)))
def pk_sum (st : List Value) : Nat := (st.map fun v => v.category).sum
def pc_b (c : ClassFile.Cond) (x y : Int32) : Bool := match c with
  | .eq => decide (x = y)
  | .ne => decide (¬ x = y)
  | .lt => decide (x < y)
  | .ge => decide (y ≤ x)
  | .gt => decide (y < x)
  | .le => decide (x ≤ y)
def ph_new (h : ph_T) (kind n : Nat) : ph_T := (h.1 ++ [(kind, n)], pr_row h.2.1 (17 + h.1.length) (fun _ => 0), pi_row h.2.2 (17 + h.1.length) (fun _ => 0))
def pg_get (L : Nat) (h : ph_T) (a k kind : Nat) : Option Value :=
  if (ps_sh L h a).1 = kind then
    if kind = 20 ∧ a < 17 then (if k = 0 then some (.ref (a + 7)) else some (.int 0))
    else if 10 ≤ kind ∧ kind < 20 ∧ k < (ps_sh L h a).2 then
      (if pf_ty (kind - 10) k = 1 then (if h.2.1 a k = 0 then none else some (.ref (h.2.1 a k - 1))) else some (.int (h.2.2 a k)))
    else none
  else none
def pg_put (L : Nat) (h : ph_T) (a k kind : Nat) (w : Value) : Option ph_T :=
  if 17 ≤ a ∧ (ps_sh L h a).1 = kind ∧ 10 ≤ kind ∧ kind < 20 ∧ k < (ps_sh L h a).2 then
    match w with
    | .int x => if pf_ty (kind - 10) k = 0 ∨ (pf_ty (kind - 10) k = 2 ∧ (x = 0 ∨ x = 1)) then some (h.1, h.2.1, pi_up h.2.2 a k x) else none
    | .ref b => if pf_ty (kind - 10) k = 1 then some (h.1, pr_up h.2.1 a k (b + 1), h.2.2) else none
    | _ => none
  else none
def pa_in (i : Int32) (n : Nat) : Bool := decide (¬ (i < 0 ∨ n ≤ i.toNatClampNeg))
def pa_ld (L : Nat) (h : ph_T) (ks : List Nat) (a : Nat) (i : Int32) : Option Value := if (ps_sh L h a).1 ∈ ks ∧ pa_in i (ps_sh L h a).2 = true then some (.int (h.2.2 a i.toNatClampNeg)) else none
def pa_ldr (L : Nat) (h : ph_T) (a : Nat) (i : Int32) : Option Value := if 17 ≤ a ∧ (ps_sh L h a).1 ∈ [4, 5, 6] ∧ pa_in i (ps_sh L h a).2 = true ∧ h.2.1 a i.toNatClampNeg ≠ 0 then some (.ref (h.2.1 a i.toNatClampNeg - 1)) else none
def pa_nar (kind : Nat) (x : Int32) : Int32 := match kind with
  | 0 => x
  | 1 => vp_nar .byte x
  | 2 => vp_nar .short x
  | _ => vp_nar .boolean x
def pa_st (L : Nat) (h : ph_T) (ks : List Nat) (a : Nat) (i x : Int32) : Option ph_T := if 17 ≤ a ∧ (ps_sh L h a).1 ∈ ks ∧ pa_in i (ps_sh L h a).2 = true then some (h.1, h.2.1, pi_up h.2.2 a i.toNatClampNeg (pa_nar (ps_sh L h a).1 x)) else none
/-- of an array of references the kind of its elements -/
def pa_el (kind : Nat) : Nat := match kind with
  | 4 => 15
  | 5 => 14
  | _ => 10
def pa_str (L : Nat) (h : ph_T) (a : Nat) (i : Int32) (b : Nat) : Option ph_T := if 17 ≤ a ∧ 17 ≤ b ∧ (ps_sh L h a).1 ∈ [4, 5, 6] ∧ pa_in i (ps_sh L h a).2 = true ∧ (ps_sh L h b).1 = pa_el (ps_sh L h a).1 then some (h.1, pr_up h.2.1 a i.toNatClampNeg (b + 1), h.2.2) else none
def pa_len (L : Nat) (h : ph_T) (a : Nat) : Option Value := if (ps_sh L h a).1 ≤ 6 then some (.int (Int32.ofNat (ps_sh L h a).2)) else none
def pa_new (h : ph_T) (kind : Nat) (n : Int32) : Option ph_T := if ¬ n < 0 ∧ n.toNatClampNeg ≤ 10000 then some (ph_new h kind n.toNatClampNeg) else none
def pa_cpy (L : Nat) (h : ph_T) (a0 : Nat) (sp : Int32) (a1 : Nat) (dp n : Int32) : Option ph_T :=
  if (17 ≤ a0 ∧ 17 ≤ a1 ∧ (ps_sh L h a0).1 = 0 ∧ (ps_sh L h a1).1 = 0) ∧ ¬ sp < 0 ∧ ¬ dp < 0 ∧ ¬ n < 0 ∧ sp.toNatClampNeg + n.toNatClampNeg ≤ (ps_sh L h a0).2 ∧ dp.toNatClampNeg + n.toNatClampNeg ≤ (ps_sh L h a1).2 then
    some (h.1, h.2.1, pi_row h.2.2 a1 (va_cpy (h.2.2 a0) (h.2.2 a1) sp.toNatClampNeg dp.toNatClampNeg n.toNatClampNeg))
  else none
def po_i (st : List Value) (f : Int32 → Value) : Option (List Value) := match st with
  | .int x :: r => some (f x :: r)
  | _ => none
def po_l (st : List Value) (f : Int64 → Value) : Option (List Value) := match st with
  | .long x :: r => some (f x :: r)
  | _ => none
def po_ii (st : List Value) (f : Int32 → Int32 → Value) : Option (List Value) := match st with
  | .int y :: .int x :: r => some (f x y :: r)
  | _ => none
def po_ll (st : List Value) (f : Int64 → Int64 → Value) : Option (List Value) := match st with
  | .long y :: .long x :: r => some (f x y :: r)
  | _ => none
def po_li (st : List Value) (f : Int64 → Int32 → Value) : Option (List Value) := match st with
  | .int y :: .long x :: r => some (f x y :: r)
  | _ => none
def pt_to (pc : Nat) (off : Int) : Option Nat := if 0 ≤ (pc : Int) + off then some ((pc : Int) + off).toNat else none
def pt_sw (pc : Nat) (d lo hi : Int) (offs : Array Int) (x : Int32) : Option Nat := if x.toInt < lo ∨ hi < x.toInt then pt_to pc d else (offs[(x.toInt - lo).toNat]?).bind (pt_to pc)
def pw_i (o : Option Value) : Option Value := match o with
  | some (.int x) => some (.int x)
  | _ => none
def pw_l (o : Option Value) : Option Value := match o with
  | some (.long x) => some (.long x)
  | _ => none
def pw_a (o : Option Value) : Option Value := match o with
  | some (.ref x) => some (.ref x)
  | _ => none
/-- one instruction, calls of our own methods and returns apart -/
def ps_step (L : Nat) (e : pe_T) (s : ps_T) : Option ps_T :=
  let lv := s.2.1
  let st := s.2.2.1
  let h := s.2.2.2
  let nx := e.2.2.1
  let k := e.2.2.2.1
  let v := e.2.2.2.2
  match e.2.1 with
  | .iconst z => some (nx, lv, .int (Int32.ofInt z) :: st, h)
  | .bipush z => some (nx, lv, .int ((Int8.ofInt z).toInt32) :: st, h)
  | .sipush z => some (nx, lv, .int ((Int16.ofInt z).toInt32) :: st, h)
  | .ldc _ => if k = 0 then some (nx, lv, .int (Int32.ofInt v) :: st, h) else some (nx, lv, .ref v.toNat :: st, h)
  | .ldc_w _ => some (nx, lv, .int (Int32.ofInt v) :: st, h)
  | .lconst z => some (nx, lv, .long (Int64.ofNat (z : Nat)) :: st, h)
  | .ldc2_w _ => some (nx, lv, .long (Int64.ofInt v) :: st, h)
  | .iload j => (pw_i (pl_get lv j)).map (fun w => (nx, lv, w :: st, h))
  | .iload_n j => (pw_i (pl_get lv (j : Nat))).map (fun w => (nx, lv, w :: st, h))
  | .lload j => (pw_l (pl_get lv j)).map (fun w => (nx, lv, w :: st, h))
  | .lload_n j => (pw_l (pl_get lv (j : Nat))).map (fun w => (nx, lv, w :: st, h))
  | .aload j => (pw_a (pl_get lv j)).map (fun w => (nx, lv, w :: st, h))
  | .aload_n j => (pw_a (pl_get lv (j : Nat))).map (fun w => (nx, lv, w :: st, h))
  | .istore j => match st with
    | .int x :: r => some (nx, pl_set lv j (.int x), r, h)
    | _ => none
  | .istore_n j => match st with
    | .int x :: r => some (nx, pl_set lv (j : Nat) (.int x), r, h)
    | _ => none
  | .lstore j => match st with
    | .long x :: r => some (nx, pl_set2 lv j (.long x), r, h)
    | _ => none
  | .lstore_n j => match st with
    | .long x :: r => some (nx, pl_set2 lv (j : Nat) (.long x), r, h)
    | _ => none
  | .astore j => match st with
    | .ref x :: r => some (nx, pl_set lv j (.ref x), r, h)
    | _ => none
  | .astore_n j => match st with
    | .ref x :: r => some (nx, pl_set lv (j : Nat) (.ref x), r, h)
    | _ => none
  | .iinc j z => match pl_get lv j with
    | some (.int x) => some (nx, pl_set lv j (.int (x + Int32.ofInt z)), st, h)
    | _ => none
  | .iadd => (po_ii st fun x y => .int (x + y)).map (fun st => (nx, lv, st, h))
  | .isub => (po_ii st fun x y => .int (x - y)).map (fun st => (nx, lv, st, h))
  | .imul => (po_ii st fun x y => .int (x * y)).map (fun st => (nx, lv, st, h))
  | .iand => (po_ii st fun x y => .int (x &&& y)).map (fun st => (nx, lv, st, h))
  | .ior => (po_ii st fun x y => .int (x ||| y)).map (fun st => (nx, lv, st, h))
  | .ixor => (po_ii st fun x y => .int (x ^^^ y)).map (fun st => (nx, lv, st, h))
  | .ishl => (po_ii st fun x y => .int (x <<< (y &&& 31))).map (fun st => (nx, lv, st, h))
  | .ishr => (po_ii st fun x y => .int (x >>> (y &&& 31))).map (fun st => (nx, lv, st, h))
  | .iushr => (po_ii st fun x y => .int (x.toUInt32 >>> (y.toUInt32 &&& Int32.toUInt32 31)).toInt32).map (fun st => (nx, lv, st, h))
  | .idiv => match st with
    | .int y :: .int x :: r => if y = 0 then none else some (nx, lv, .int (x / y) :: r, h)
    | _ => none
  | .irem => match st with
    | .int y :: .int x :: r => if y = 0 then none else some (nx, lv, .int (x - x / y * y) :: r, h)
    | _ => none
  | .ineg => (po_i st fun x => .int (-x)).map (fun st => (nx, lv, st, h))
  | .i2l => (po_i st fun x => .long x.toInt64).map (fun st => (nx, lv, st, h))
  | .i2b => (po_i st fun x => .int x.toInt8.toInt32).map (fun st => (nx, lv, st, h))
  | .i2s => (po_i st fun x => .int x.toInt16.toInt32).map (fun st => (nx, lv, st, h))
  | .i2c => (po_i st fun x => .int (x.toUInt32 % 65536).toInt32).map (fun st => (nx, lv, st, h))
  | .l2i => (po_l st fun x => .int x.toInt32).map (fun st => (nx, lv, st, h))
  | .ladd => (po_ll st fun x y => .long (x + y)).map (fun st => (nx, lv, st, h))
  | .land => (po_ll st fun x y => .long (x &&& y)).map (fun st => (nx, lv, st, h))
  | .lor => (po_ll st fun x y => .long (x ||| y)).map (fun st => (nx, lv, st, h))
  | .lcmp => (po_ll st fun x y => .int (lg_cmp x y)).map (fun st => (nx, lv, st, h))
  | .lshl => (po_li st fun x y => .long (x <<< (y.toInt64 &&& 63))).map (fun st => (nx, lv, st, h))
  | .lshr => (po_li st fun x y => .long (x >>> (y.toInt64 &&& 63))).map (fun st => (nx, lv, st, h))
  | .dup => match st with
    | w :: r => if w.category = 1 then some (nx, lv, w :: w :: r, h) else none
    | _ => none
  | .dup2 => match st with
    | w :: u :: r => if w.category = 1 ∧ u.category = 1 then some (nx, lv, w :: u :: w :: u :: r, h) else none
    | _ => none
  | .pop => match st with
    | w :: r => if w.category = 1 then some (nx, lv, r, h) else none
    | _ => none
  | .ifCond c _ => match st with
    | .int x :: r => some (if pc_b c x 0 = true then k else nx, lv, r, h)
    | _ => none
  | .if_icmp c _ => match st with
    | .int y :: .int x :: r => some (if pc_b c x y = true then k else nx, lv, r, h)
    | _ => none
  | .goto _ => some (k, lv, st, h)
  | .tableswitch d lo hi offs => match st with
    | .int x :: r => (pt_sw e.1 d lo hi offs x).map (fun t => (t, lv, r, h))
    | _ => none
  | .getfield _ => match st with
    | .ref a :: r => (pg_get L h a k v.toNat).map (fun w => (nx, lv, w :: r, h))
    | _ => none
  | .putfield _ => match st with
    | w :: .ref a :: r => (pg_put L h a k v.toNat w).map (fun h => (nx, lv, r, h))
    | _ => none
  | .getstatic _ => if k = 0 then some (nx, lv, .int (Int32.ofInt v) :: st, h) else if k = 1 then some (nx, lv, .ref v.toNat :: st, h) else if k = 2 then some (nx, lv, .null :: st, h) else none
  | .iaload => match st with
    | .int i :: .ref a :: r => (pa_ld L h [0] a i).map (fun w => (nx, lv, w :: r, h))
    | _ => none
  | .baload => match st with
    | .int i :: .ref a :: r => (pa_ld L h [1, 3] a i).map (fun w => (nx, lv, w :: r, h))
    | _ => none
  | .saload => match st with
    | .int i :: .ref a :: r => (pa_ld L h [2] a i).map (fun w => (nx, lv, w :: r, h))
    | _ => none
  | .aaload => match st with
    | .int i :: .ref a :: r => (pa_ldr L h a i).map (fun w => (nx, lv, w :: r, h))
    | _ => none
  | .iastore => match st with
    | .int x :: .int i :: .ref a :: r => (pa_st L h [0] a i x).map (fun h => (nx, lv, r, h))
    | _ => none
  | .bastore => match st with
    | .int x :: .int i :: .ref a :: r => (pa_st L h [1, 3] a i x).map (fun h => (nx, lv, r, h))
    | _ => none
  | .sastore => match st with
    | .int x :: .int i :: .ref a :: r => (pa_st L h [2] a i x).map (fun h => (nx, lv, r, h))
    | _ => none
  | .aastore => match st with
    | .ref b :: .int i :: .ref a :: r => (pa_str L h a i b).map (fun h => (nx, lv, r, h))
    | _ => none
  | .arraylength => match st with
    | .ref a :: r => (pa_len L h a).map (fun w => (nx, lv, w :: r, h))
    | _ => none
  | .new _ => if k < 10 then some (nx, lv, .ref (17 + h.1.length) :: st, ph_new h (10 + k) (pf_n k)) else none
  | .newarray _ => match st with
    | .int n :: r => (pa_new h k n).map (fun h' => (nx, lv, .ref (17 + h.1.length) :: r, h'))
    | _ => none
  | .anewarray _ => match st with
    | .int n :: r => (pa_new h k n).map (fun h' => (nx, lv, .ref (17 + h.1.length) :: r, h'))
    | _ => none
  | .invokespecial _ => match st with
    | .ref _ :: r => if k = 1000 ∧ pk_sum r ≤ 8 then some (nx, lv, r, h) else none
    | _ => none
  | .invokestatic _ => match st with
    | [.int n, .int dp, .ref a1, .int sp, .ref a0] => if k = 1001 then (pa_cpy L h a0 sp a1 dp n).map (fun h => (nx, lv, [], h)) else none
    | _ => none
  | _ => none
