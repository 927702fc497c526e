/-! THE ABSTRACT MACHINE: the instructions over the cells of one object graph -/
abbrev am_R0 : Type := am_S ⊕ (Prop × am_S) ⊕ (Option Value × Prop × am_X) ⊕ (Nat × List Value × am_S)
def am_up {α : Type} (f : Nat → α) (k : Nat) (v : α) : Nat → α := fun j => if j = k then v else f j
def am_uI (x : am_X) (k : Nat) (v : Int32) : am_X := (am_up x.1 k v, x.2.1, x.2.2.1, x.2.2.2)
def am_uL (x : am_X) (k : Nat) (v : Int64) : am_X := (x.1, am_up x.2.1 k v, x.2.2.1, x.2.2.2)
def am_sA (x : am_X) (k : Nat) (f : Nat → Int32) : am_X := (x.1, x.2.1, am_up x.2.2.1 k f, x.2.2.2)
def am_sB (x : am_X) (k : Nat) (f : Nat → Int64) : am_X := (x.1, x.2.1, x.2.2.1, am_up x.2.2.2 k f)
def am_at {α : Type} : List α → Nat → Option α
  | [], _ => none
  | a :: _, 0 => some a
  | _ :: t, n + 1 => am_at t n
theorem am_at_eq {α : Type} (l : List α) (n : Nat) : am_at l n = l[n]? := by
  induction l generalizing n with
  | nil => simp [am_at]
  | cons a t ih => cases n with
    | zero => simp [am_at]
    | succ n => simp [am_at, ih]
def am_find : am_C → Nat → Option am_I
  | [], _ => none
  | (p, q) :: t, pc => bif Nat.beq p pc then some q else am_find t pc
/-- the locals by their places: a store of a value of one slot, of two -/
def am_c2 : Option Value → Option Value
  | some (.long _) => none
  | some (.double _) => none
  | o => o
def am_set1 : am_L → Nat → Value → am_L
  | [], _, _ => []
  | _ :: t, 0, v => some v :: t
  | [_], 1, _ => []
  | o :: _ :: t, 1, v => am_c2 o :: some v :: t
  | o :: t, n + 2, v => o :: am_set1 t (n + 1) v
def am_set2 : am_L → Nat → Value → am_L
  | [], _, _ => []
  | [_], _, _ => []
  | _ :: _ :: t, 0, v => some v :: none :: t
  | [_, _], 1, _ => []
  | o :: _ :: _ :: t, 1, v => am_c2 o :: some v :: none :: t
  | o :: t, n + 2, v => o :: am_set2 t (n + 1) v
/-- fewer known locals -/
def am_le : am_L → am_L → Prop
  | [], _ => True
  | none :: t, [] => am_le t []
  | some _ :: _, [] => False
  | none :: t, _ :: u => am_le t u
  | some v :: t, o :: u => o = some v ∧ am_le t u
def am_ent : Nat → am_L → List (Nat × Value)
  | _, [] => []
  | i, none :: t => am_ent (i + 1) t
  | i, some v :: t => (i, v) :: am_ent (i + 1) t
def am_entry : List Value → am_L
  | [] => []
  | .long y :: t => some (.long y) :: none :: am_entry t
  | .double y :: t => some (.double y) :: none :: am_entry t
  | v :: t => some v :: am_entry t
def am_pad : Nat → am_L → am_L
  | 0, l => l
  | n + 1, [] => none :: am_pad n []
  | n + 1, o :: t => o :: am_pad n t
/-- what needs the stack alone -/
def am_pure (i : Instr) (v : Value) (st : List Value) : Option (List Value) := match i with
  | .iconst _ | .bipush _ | .sipush _ | .lconst _ | .ldc _ | .ldc_w _ | .ldc2_w _ | .getstatic _ => some (v :: st)
  | .i2b => match st with | .int a :: r => some (.int a.toInt8.toInt32 :: r) | _ => none
  | .iadd => match st with | .int b :: .int a :: r => some (.int (a + b) :: r) | _ => none
  | .isub => match st with | .int b :: .int a :: r => some (.int (a - b) :: r) | _ => none
  | .imul => match st with | .int b :: .int a :: r => some (.int (a * b) :: r) | _ => none
  | .iand => match st with | .int b :: .int a :: r => some (.int (a &&& b) :: r) | _ => none
  | .ishl => match st with | .int b :: .int a :: r => some (.int (a <<< (b &&& 31)) :: r) | _ => none
  | .ishr => match st with | .int b :: .int a :: r => some (.int (a >>> (b &&& 31)) :: r) | _ => none
  | .iushr => match st with | .int b :: .int a :: r => some (.int (a.toUInt32 >>> (b.toUInt32 &&& Int32.toUInt32 31)).toInt32 :: r) | _ => none
  | .ineg => match st with | .int a :: r => some (.int (-a) :: r) | _ => none
  | .ladd => match st with | .long b :: .long a :: r => some (.long (a + b) :: r) | _ => none
  | .lsub => match st with | .long b :: .long a :: r => some (.long (a - b) :: r) | _ => none
  | .land => match st with | .long b :: .long a :: r => some (.long (a &&& b) :: r) | _ => none
  | .lor => match st with | .long b :: .long a :: r => some (.long (a ||| b) :: r) | _ => none
  | .lxor => match st with | .long b :: .long a :: r => some (.long (a ^^^ b) :: r) | _ => none
  | .lneg => match st with | .long a :: r => some (.long (-a) :: r) | _ => none
  | .lshl => match st with | .int b :: .long a :: r => some (.long (a <<< (b.toInt64 &&& 63)) :: r) | _ => none
  | .lushr => match st with | .int b :: .long a :: r => some (.long (a.toUInt64 >>> (b.toInt64.toUInt64 &&& Int64.toUInt64 63)).toInt64 :: r) | _ => none
  | .i2l => match st with | .int a :: r => some (.long a.toInt64 :: r) | _ => none
  | .l2i => match st with | .long a :: r => some (.int a.toInt32 :: r) | _ => none
  | .i2c => match st with | .int a :: r => some (.int (a.toUInt32 % 65536).toInt32 :: r) | _ => none
  | .lcmp => match st with | .long b :: .long a :: r => some (.int (lg_cmp a b) :: r) | _ => none
  | .dup => match st with | .int a :: r => some (.int a :: .int a :: r) | .ref a :: r => some (.ref a :: .ref a :: r) | _ => none
  | .dup2 => match st with | .int a :: .ref b :: r => some (.int a :: .ref b :: .int a :: .ref b :: r) | _ => none
  | .pop => match st with | .int _ :: r => some r | .ref _ :: r => some r | _ => none
  | .pop2 => match st with | .long _ :: r => some r | _ => none
  | _ => none
/-- a division: the divisor, and what comes if it isn't 0 -/
def am_div (i : Instr) (st : List Value) : Option (Prop × List Value) := match i with
  | .idiv => match st with | .int b :: .int a :: r => some (¬ b = 0, .int (a / b) :: r) | _ => none
  | .irem => match st with | .int b :: .int a :: r => some (¬ b = 0, .int (a - a / b * b) :: r) | _ => none
  | .ldiv => match st with | .long b :: .long a :: r => some (¬ b = 0, .long (a / b) :: r) | _ => none
  | .lrem => match st with | .long b :: .long a :: r => some (¬ b = 0, .long (a - a / b * b) :: r) | _ => none
  | _ => none
/-- locals -/
def am_loc (i : Instr) (a : Nat) (v : Value) (ls : am_L) (st : List Value) : Option (am_L × List Value) := match i with
  | .iload _ | .iload_n _ => match am_at ls a with | some (some (.int y)) => some (ls, .int y :: st) | _ => none
  | .lload _ | .lload_n _ => match am_at ls a with | some (some (.long y)) => some (ls, .long y :: st) | _ => none
  | .aload _ | .aload_n _ => match am_at ls a with | some (some (.ref y)) => some (ls, .ref y :: st) | _ => none
  | .istore _ | .istore_n _ => match st with | .int y :: r => some (am_set1 ls a (.int y), r) | _ => none
  | .lstore _ | .lstore_n _ => match st with | .long y :: r => some (am_set2 ls a (.long y), r) | _ => none
  | .astore _ | .astore_n _ => match st with | .ref y :: r => some (am_set1 ls a (.ref y), r) | _ => none
  | .iinc _ _ => match am_at ls a with | some (some (.int y)) => (match v with | .int z => some (am_set1 ls a (.int (y + z)), st) | _ => none) | _ => none
  | _ => none
def am_sw (d : Nat) : List (Int32 × Nat) → Int32 → Nat
  | [], _ => d
  | (k, t) :: r, z => if z = k then t else am_sw d r z
/-- branches -/
def am_br (i : Instr) (a nx : Nat) (tb : List (Int32 × Nat)) (st : List Value) : Option (Nat × List Value) := match i with
  | .goto _ => some (a, st)
  | .if_icmp .eq _ => match st with | .int y :: .int x :: r => some (if x = y then a else nx, r) | _ => none
  | .if_icmp .ne _ => match st with | .int y :: .int x :: r => some (if x = y then nx else a, r) | _ => none
  | .if_icmp .lt _ => match st with | .int y :: .int x :: r => some (if x < y then a else nx, r) | _ => none
  | .if_icmp .ge _ => match st with | .int y :: .int x :: r => some (if y ≤ x then a else nx, r) | _ => none
  | .if_icmp .gt _ => match st with | .int y :: .int x :: r => some (if y < x then a else nx, r) | _ => none
  | .if_icmp .le _ => match st with | .int y :: .int x :: r => some (if x ≤ y then a else nx, r) | _ => none
  | .ifCond .eq _ => match st with | .int x :: r => some (if x = 0 then a else nx, r) | _ => none
  | .ifCond .ne _ => match st with | .int x :: r => some (if x = 0 then nx else a, r) | _ => none
  | .ifCond .lt _ => match st with | .int x :: r => some (if x < 0 then a else nx, r) | _ => none
  | .ifCond .ge _ => match st with | .int x :: r => some (if 0 ≤ x then a else nx, r) | _ => none
  | .ifCond .gt _ => match st with | .int x :: r => some (if 0 < x then a else nx, r) | _ => none
  | .ifCond .le _ => match st with | .int x :: r => some (if x ≤ 0 then a else nx, r) | _ => none
  | .tableswitch _ _ _ _ => match st with | .int x :: r => some (am_sw a tb x, r) | _ => none
  | .lookupswitch _ _ => match st with | .int x :: r => some (am_sw a tb x, r) | _ => none
  | _ => none
def am_fv (x : am_X) (q : Nat × Nat) : Value := match q.1 with
  | 0 => .ref q.2
  | 2 => .long (x.2.1 q.2)
  | _ => .int (x.1 q.2)
def am_fld (ci k i : Nat) : Option (Nat × Nat) := match am_at am_shp i with
  | some (.inl (c2, fs)) => bif Nat.beq c2 ci then am_at fs k else none
  | _ => none
def am_arr (i : Nat) : Option (Nat × Nat) := match am_at am_shp i with
  | some (.inr q) => some q
  | _ => none
/-- the String constants -/
def am_txt : Nat → String := fun k => match k with
  | 1000 => "" | 1001 => "KDD;" | 1002 => "KDDDD;" | 1003 => "DD;" | 1004 => "D;" | 1005 => "SDD;" | 1006 => "lhgsbr" | _ => "fnmea"
def am_byt (k : Nat) : List Nat := (am_txt k).toList.map Char.toNat
def am_idx (c : Int32) : List Nat → Nat → Int32
  | [], _ => -1
  | b :: l, k => if nI b = c then nI k else am_idx c l (k + 1)
def am_len : List Nat := (List.range 8).map (fun i => (am_byt (1000 + i)).length)
def am_bI : List (List Int32) := (List.range 8).map (fun i => (am_byt (1000 + i)).map nI)
def am_bat (k : Nat) (j : Int32) : Int32 := (am_bI.getD (k - 1100) []).getD j.toNatClampNeg 0
def am_sum (r : List Value) : Nat := (r.map fun v => v.category).sum
/-- cells: reads and writes, with what must hold -/
def am_cel (i : Instr) (a : Nat) (v : Value) (st : List Value) (x : am_X) : Option (Option Prop × List Value × am_X) := match i with
  | .getfield _ => match st, v with
    | .ref k :: r, .ref ci => bif Nat.beq ci 20 then (bif Nat.ble 1000 k && Nat.blt k 1008 then some (none, (match a with | 0 => .ref (k + 100) | _ => .int 0) :: r, x) else none) else (match am_fld ci a k with | some q => some (none, am_fv x q :: r, x) | none => none)
    | _, _ => none
  | .putfield _ => match st, v with
    | .int y :: .ref k :: r, .ref ci => (match am_fld ci a k with
      | some (1, id) => some (none, r, am_uI x id y)
      | some (3, id) => some (some (y = 0 ∨ y = 1), r, am_uI x id y)
      | _ => none)
    | .long y :: .ref k :: r, .ref ci => (match am_fld ci a k with
      | some (2, id) => some (none, r, am_uL x id y)
      | _ => none)
    | _, _ => none
  | .arraylength => match st with
    | .ref k :: r => (match am_arr k with | some (_, n) => some (none, .int (Int32.ofNat n) :: r, x) | none => bif Nat.ble 1100 k && Nat.blt k 1108 then some (none, .int (Int32.ofNat (am_len.getD (k - 1100) 0)) :: r, x) else none)
    | _ => none
  | .iaload => match st with
    | .int j :: .ref k :: r => (match am_arr k with | some (0, n) => some (some (vp_in j n), .int (x.2.2.1 k j.toNatClampNeg) :: r, x) | _ => none)
    | _ => none
  | .baload => match st with
    | .int j :: .ref k :: r => (match am_arr k with | some (2, n) => some (some (vp_in j n), .int (x.2.2.1 k j.toNatClampNeg) :: r, x) | some _ => none | none => bif Nat.ble 1100 k && Nat.blt k 1108 then some (some (vp_in j (am_len.getD (k - 1100) 0)), .int (am_bat k j) :: r, x) else none)
    | _ => none
  | .caload => match st with
    | .int j :: .ref k :: r => (match am_arr k with | some (3, n) => some (some (vp_in j n), .int (x.2.2.1 k j.toNatClampNeg) :: r, x) | _ => none)
    | _ => none
  | .laload => match st with
    | .int j :: .ref k :: r => (match am_arr k with | some (1, n) => some (some (vp_in j n), .long (x.2.2.2 k j.toNatClampNeg) :: r, x) | _ => none)
    | _ => none
  | .iastore => match st with
    | .int y :: .int j :: .ref k :: r => (match am_arr k with | some (0, n) => some (some (vp_in j n), r, am_sA x k (upd (x.2.2.1 k) j.toNatClampNeg y)) | _ => none)
    | _ => none
  | .bastore => match st with
    | .int y :: .int j :: .ref k :: r => (match am_arr k with | some (2, n) => some (some (vp_in j n), r, am_sA x k (upd (x.2.2.1 k) j.toNatClampNeg (vp_nar .boolean y))) | _ => none)
    | _ => none
  | .lastore => match st with
    | .long y :: .int j :: .ref k :: r => (match am_arr k with | some (1, n) => some (some (vp_in j n), r, am_sB x k (vp_updL (x.2.2.2 k) j.toNatClampNeg y)) | _ => none)
    | _ => none
  | .invokestatic _ => match a with
    | 999 => (match st with
      | .int n :: .int dp :: .ref q :: .int sp :: .ref p :: r => (match am_arr p, am_arr q with
        | some (0, n0), some (0, n1) => some (some ((¬ sp < 0 ∧ ¬ dp < 0 ∧ ¬ n < 0 ∧ sp.toNatClampNeg + n.toNatClampNeg ≤ n0 ∧ dp.toNatClampNeg + n.toNatClampNeg ≤ n1) ∧ r = []), r, am_sA x q (va_cpy (x.2.2.1 p) (x.2.2.1 q) sp.toNatClampNeg dp.toNatClampNeg n.toNatClampNeg))
        | some (1, n0), some (1, n1) => some (some ((¬ sp < 0 ∧ ¬ dp < 0 ∧ ¬ n < 0 ∧ sp.toNatClampNeg + n.toNatClampNeg ≤ n0 ∧ dp.toNatClampNeg + n.toNatClampNeg ≤ n1) ∧ r = []), r, am_sB x q (va_cpy (x.2.2.2 p) (x.2.2.2 q) sp.toNatClampNeg dp.toNatClampNeg n.toNatClampNeg))
        | _, _ => none)
      | _ => none)
    | 1000 => (match st with | .int y :: .int z :: r => bif Nat.ble (am_sum r) 8 then some (none, .int (if z < y then y else z) :: r, x) else none | _ => none)
    | 1001 => (match st with | .int y :: .int z :: r => bif Nat.ble (am_sum r) 8 then some (none, .int (if y < z then y else z) :: r, x) else none | _ => none)
    | 1002 => (match st with | .int z :: r => bif Nat.ble (am_sum r) 8 then some (none, .int (if 0 ≤ z then z else 0 - z) :: r, x) else none | _ => none)
    | _ => none
  | _ => none
def am_spl : Nat → List Value → List Value → Option (List Value × List Value)
  | 0, acc, st => some (acc, st)
  | n + 1, acc, v :: st => am_spl n (v :: acc) st
  | _ + 1, _, [] => none
def am_cls (b : Nat) : Nat := match am_at am_shp b with
  | some (.inl (c, _)) => c
  | some (.inr _) => 98
  | none => bif Nat.ble 1000 b && Nat.blt b 1008 then 20 else 97
/-- a call: the callee, its arguments, the stack that stays -/
def am_inv (i : Instr) (a : Nat) (v : Value) (st : List Value) : Option (Nat × List Value × List Value) := match i with
  | .invokestatic _ => match v with
    | .ref n => (match am_spl n [] st with
      | some (as, r) => bif Nat.ble (am_sum r) 8 then some (a, as, r) else none
      | none => none)
    | _ => none
  | .invokevirtual _ => match v with
    | .ref n => (match am_spl (n % 10) [] st with
      | some (as, .ref b :: r) => bif Nat.beq (am_cls b + 1) (n / 10) && Nat.ble (am_sum r) 8 then some (a, .ref b :: as, r) else none
      | _ => none)
    | _ => none
  | _ => none
/-- an end: the answer, and what must hold of it -/
def am_ret (i : Instr) (a : Nat) (st : List Value) : Option (Option Value × Prop) := match i with
  | .ireturn => match st with
    | [.int y] => (match a with | 0 => some (some (.int y), True) | 1 => some (some (.int y), y = 0 ∨ y = 1) | _ => some (some (.int y), narrow .char (.int y) = .int y))
    | _ => none
  | .lreturn => match st with | [.long y] => some (some (.long y), True) | _ => none
  | .areturn => match st with | [.ref y] => some (some (.ref y), True) | _ => none
  | .return_ => match st with | [] => some (none, True) | _ => none
  | _ => none
/-- which of them an instruction is -/
def am_grp (i : Instr) (a : Nat) : Nat := match i with
  | .idiv | .irem | .ldiv | .lrem => 1
  | .iload _ | .iload_n _ | .lload _ | .lload_n _ | .aload _ | .aload_n _ | .istore _ | .istore_n _ | .lstore _ | .lstore_n _ | .astore _ | .astore_n _ | .iinc _ _ => 2
  | .goto _ | .if_icmp _ _ | .ifCond _ _ | .tableswitch _ _ _ _ | .lookupswitch _ _ => 3
  | .getfield _ | .putfield _ | .arraylength | .iaload | .baload | .caload | .laload | .iastore | .bastore | .lastore => 4
  | .invokestatic _ => bif Nat.ble 999 a then 4 else 5
  | .invokevirtual _ => 5
  | .ireturn | .lreturn | .areturn | .return_ => 6
  | _ => 0
def am_exec (q : am_I) (ls : am_L) (st : List Value) (x : am_X) : Option am_R0 :=
  match am_grp q.1 q.2.1 with
  | 0 => (match am_pure q.1 q.2.2.1 st with | some st' => some (.inl (q.2.2.2.1, ls, st', x)) | none => none)
  | 1 => (match am_div q.1 st with | some (P, st') => some (.inr (.inl (P, (q.2.2.2.1, ls, st', x)))) | none => none)
  | 2 => (match am_loc q.1 q.2.1 q.2.2.1 ls st with | some (ls', st') => some (.inl (q.2.2.2.1, ls', st', x)) | none => none)
  | 3 => (match am_br q.1 q.2.1 q.2.2.2.1 q.2.2.2.2 st with | some (pc, st') => some (.inl (pc, ls, st', x)) | none => none)
  | 4 => (match am_cel q.1 q.2.1 q.2.2.1 st x with | some (none, st', x') => some (.inl (q.2.2.2.1, ls, st', x')) | some (some P, st', x') => some (.inr (.inl (P, (q.2.2.2.1, ls, st', x')))) | none => none)
  | 5 => (match am_inv q.1 q.2.1 q.2.2.1 st with | some (M, as, r) => some (.inr (.inr (.inr (M, as, (q.2.2.2.1, ls, r, x))))) | none => none)
  | _ => (match am_ret q.1 q.2.1 st with | some (v, P) => some (.inr (.inr (.inl (v, P, x)))) | none => none)
def am_step (cd : am_C) (σ : am_S) : Option am_R0 := match am_find cd σ.1 with
  | some q => am_exec q σ.2.1 σ.2.2.1 σ.2.2.2
  | none => none
abbrev am_Rel : Type := Nat → List Value → am_X → Option Value → am_X → Prop
def am_run (C : am_Rel) (cd : am_C) : Nat → am_S → Option Value → am_X → Prop
  | 0, _, _, _ => False
  | n + 1, σ, r, x' => ∃ ls0, am_le ls0 σ.2.1 ∧ (match am_step cd (σ.1, ls0, σ.2.2.1, σ.2.2.2) with
    | none => False
    | some (.inl σ') => am_run C cd n σ' r x'
    | some (.inr (.inl (P, σ'))) => P ∧ am_run C cd n σ' r x'
    | some (.inr (.inr (.inl (v, P, x)))) => P ∧ v = r ∧ x = x'
    | some (.inr (.inr (.inr (M, as, (pc, ls, st, x))))) => ∃ r1 x1, C M as x r1 x1 ∧ am_run C cd n (pc, ls, r1.toList ++ st, x1) r x')
def am_me (M : Nat) : am_Me := (am_at am_mt M).getD meX7_isSquare
def am_ent0 (M : Nat) (as : List Value) : am_L := am_entry as ++ am_pad ((am_me M).2.2.2.1 - (am_entry as).length) []
def am_Ev : Nat → am_Rel
  | 0 => fun _ _ _ _ _ => False
  | d + 1 => fun M as x r x' => 1 ≤ d ∧ Nat.ble (am_entry as).length (am_me M).2.2.2.1 = true ∧ ∃ n, am_run (am_Ev d) (am_code M) n (0, am_ent0 M as, [], x) r x'
