/-! THE PURE MACHINE: a method's frame (pc, locals, stack) over a heap of cells; a reference is the number of its cell; .retAddr stands for the script -/
abbrev vwCl : List vw_C := [(RX0, TX0, 5), (RX1, TX1, 3), (RX2, TX2, 7), (RX3, TX3, 4), (RX4, TX4, 2), (RX5, TX5, 11), (RX6, TX6, 8), (RX7, TX7, 4), (RX8, TX8, 46)]
abbrev pm_L : Type := List (Nat × Value)
abbrev pm_C : Type := (Nat × List Value) ⊕ (Nat × List Value)
abbrev pm_H : Type := List pm_C × Nat × Nat
abbrev pm_S : Type := Nat × pm_L × List Value × pm_H
abbrev pm_Sc : Type := Nat × (Nat → Int32)
abbrev pm_K : Type := Nat × List Value × List Value
def pm_ld (lv : pm_L) (i : Nat) : Option Value := (lv.find? (fun q => q.1 == i)).map (fun q => q.2)
def pm_s1 (lv : pm_L) (i : Nat) (v : Value) : pm_L := (i, v) :: lv.filter (fun q => !(q.1 == i) && !(q.1 + 1 == i && q.2.category == 2))
def pm_s2 (lv : pm_L) (i : Nat) (v : Value) : pm_L := (i, v) :: lv.filter (fun q => !(q.1 == i) && (!(q.1 == i + 1) && !(q.1 + 1 == i && q.2.category == 2)))
def pm_br (pc : Nat) (off : Int) : Option Nat := if 0 ≤ (pc : Int) + off then some ((pc : Int) + off).toNat else none
def pm_cmp (c : ClassFile.Cond) (x y : Int32) : Bool := match c with
  | .eq => decide (x = y)
  | .ne => decide (¬ x = y)
  | .lt => decide (x < y)
  | .ge => decide (y ≤ x)
  | .gt => decide (y < x)
  | .le => decide (x ≤ y)
def pm_tyf : List (Nat → FieldType) := [tyX0, tyX1, tyX2, tyX3, tyX4, tyX5, tyX6, tyX7, tyX8]
def pm_ty (ci k : Nat) : FieldType := (pm_tyf.getD ci tyX0) k
def pm_fit (t : FieldType) (v : Value) : Bool := match t, v with
  | .int, .int _ => true
  | .boolean, .int x => x == 0 || x == 1
  | .long, .long _ => true
  | .object _, .ref _ => true
  | .object _, .null => true
  | .array _, .ref _ => true
  | .array _, .null => true
  | _, _ => false
/-- the values of a new object of a class -/
def pm_df (ci : Nat) : List Value := match ci with
  | 0 => [.null, .null, .null, .int 0, .int 0]
  | 1 => [.null, .int 0, .int 0]
  | 2 => [.int 0, .int 0, .int 0, .int 0, .int 0, .int 0, .null]
  | 3 => [.int 0, .int 0, .null, .int 0]
  | 4 => [.null, .int 0]
  | 5 => [.int 0, .null, .null, .null, .null, .null, .null, .int 0, .int 0, .int 0, .int 0]
  | 6 => [.int 0, .int 0, .int 0, .null, .null, .int 0, .int 0, .int 0]
  | 7 => [.int 0, .null, .null, .null]
  | _ => [.int 0, .int 0, .int 0, .null, .null, .null, .null, .null, .null, .null, .null, .null, .null, .null, .null, .null, .null, .int 0, .null, .null, .null, .null, .null, .null, .null, .null, .null, .null, .null, .int 0, .null, .null, .null, .null, .null, .null, .null, .null, .null, .null, .null, .null, .null, .null, .null, .null]
/-- the first value of an array of a kind (0 int, 1 long, 2 boolean, 3 .. of references), and the class of its objects -/
def pm_dv (t : Nat) : Value := match t with
  | 0 => .int 0
  | 1 => .long 0
  | 2 => .int 0
  | _ => .null
def pm_el (t : Nat) : Nat := match t with
  | 3 => 2
  | 4 => 3
  | 5 => 5
  | _ => 6
def pm_cpy (vs ws : List Value) (sp dp n : Nat) : List Value := (List.range ws.length).map (fun k => if dp ≤ k ∧ k < dp + n then vs.getD (sp + (k - dp)) .null else ws.getD k .null)
def pm_sum (st : List Value) : Nat := (st.map fun v => v.category).sum
abbrev pm_nx (pc : Nat) (lv : pm_L) (st : List Value) (h : pm_H) : Option (pm_S ⊕ pm_K) := some (.inl (pc, lv, st, h))
/-- one instruction (ins, what it names: res) of a method with nL locals and rank rk; np, mc, rkOf: of the methods that it may call -/
def pm_do (sc : pm_Sc) (nL rk : Nat) (np mc rkOf : Nat → Nat) (ins : Instr) (res : List Nat) (pc : Nat) (lv : pm_L) (st : List Value) (h : pm_H) : Option (pm_S ⊕ pm_K) := match ins with
  | .aconst_null => pm_nx (pc + 1) lv (.null :: st) h
  | .iconst n => pm_nx (pc + 1) lv (.int (Int32.ofInt n) :: st) h
  | .bipush n => pm_nx (pc + 2) lv (.int (Int8.ofInt n).toInt32 :: st) h
  | .sipush n => pm_nx (pc + 3) lv (.int (Int16.ofInt n).toInt32 :: st) h
  | .lconst n => pm_nx (pc + 1) lv (.long (Int64.ofNat (n : Nat)) :: st) h
  | .ldc_w _ => match res with
    | [v] => pm_nx (pc + 3) lv (.int (Int32.ofNat v) :: st) h
    | _ => none
  | .ldc2_w _ => match res with
    | [v] => pm_nx (pc + 3) lv (.long (Int64.ofNat v) :: st) h
    | _ => none
  | .iload_n k => match pm_ld lv k with
    | some (.int x) => pm_nx (pc + 1) lv (.int x :: st) h
    | _ => none
  | .iload k => match pm_ld lv k with
    | some (.int x) => pm_nx (pc + 2) lv (.int x :: st) h
    | _ => none
  | .lload_n k => match pm_ld lv k with
    | some (.long x) => pm_nx (pc + 1) lv (.long x :: st) h
    | _ => none
  | .lload k => match pm_ld lv k with
    | some (.long x) => pm_nx (pc + 2) lv (.long x :: st) h
    | _ => none
  | .aload_n k => match pm_ld lv k with
    | some (.ref x) => pm_nx (pc + 1) lv (.ref x :: st) h
    | some .null => pm_nx (pc + 1) lv (.null :: st) h
    | some (.retAddr x) => pm_nx (pc + 1) lv (.retAddr x :: st) h
    | _ => none
  | .aload k => match pm_ld lv k with
    | some (.ref x) => pm_nx (pc + 2) lv (.ref x :: st) h
    | some .null => pm_nx (pc + 2) lv (.null :: st) h
    | some (.retAddr x) => pm_nx (pc + 2) lv (.retAddr x :: st) h
    | _ => none
  | .istore_n k => match st with
    | .int x :: r => if (k : Nat) < nL then pm_nx (pc + 1) (pm_s1 lv k (.int x)) r h else none
    | _ => none
  | .istore k => match st with
    | .int x :: r => if k < nL then pm_nx (pc + 2) (pm_s1 lv k (.int x)) r h else none
    | _ => none
  | .lstore_n k => match st with
    | .long x :: r => if (k : Nat) + 1 < nL then pm_nx (pc + 1) (pm_s2 lv k (.long x)) r h else none
    | _ => none
  | .lstore k => match st with
    | .long x :: r => if k + 1 < nL then pm_nx (pc + 2) (pm_s2 lv k (.long x)) r h else none
    | _ => none
  | .astore_n k => match st with
    | .ref x :: r => if (k : Nat) < nL then pm_nx (pc + 1) (pm_s1 lv k (.ref x)) r h else none
    | .null :: r => if (k : Nat) < nL then pm_nx (pc + 1) (pm_s1 lv k .null) r h else none
    | _ => none
  | .astore k => match st with
    | .ref x :: r => if k < nL then pm_nx (pc + 2) (pm_s1 lv k (.ref x)) r h else none
    | .null :: r => if k < nL then pm_nx (pc + 2) (pm_s1 lv k .null) r h else none
    | _ => none
  | .iinc k n => match pm_ld lv k with
    | some (.int x) => if k < nL then pm_nx (pc + 3) (pm_s1 lv k (.int (x + Int32.ofInt n))) st h else none
    | _ => none
  | .iadd => match st with
    | .int y :: .int x :: r => pm_nx (pc + 1) lv (.int (x + y) :: r) h
    | _ => none
  | .isub => match st with
    | .int y :: .int x :: r => pm_nx (pc + 1) lv (.int (x - y) :: r) h
    | _ => none
  | .imul => match st with
    | .int y :: .int x :: r => pm_nx (pc + 1) lv (.int (x * y) :: r) h
    | _ => none
  | .irem => match st with
    | .int y :: .int x :: r => if y = 0 then none else pm_nx (pc + 1) lv (.int (x - x / y * y) :: r) h
    | _ => none
  | .iand => match st with
    | .int y :: .int x :: r => pm_nx (pc + 1) lv (.int (x &&& y) :: r) h
    | _ => none
  | .ior => match st with
    | .int y :: .int x :: r => pm_nx (pc + 1) lv (.int (x ||| y) :: r) h
    | _ => none
  | .ixor => match st with
    | .int y :: .int x :: r => pm_nx (pc + 1) lv (.int (x ^^^ y) :: r) h
    | _ => none
  | .ishl => match st with
    | .int y :: .int x :: r => pm_nx (pc + 1) lv (.int (x <<< (y &&& 31)) :: r) h
    | _ => none
  | .ishr => match st with
    | .int y :: .int x :: r => pm_nx (pc + 1) lv (.int (x >>> (y &&& 31)) :: r) h
    | _ => none
  | .iushr => match st with
    | .int y :: .int x :: r => pm_nx (pc + 1) lv (.int ((x.toUInt32 >>> (y.toUInt32 &&& Int32.toUInt32 31)).toInt32) :: r) h
    | _ => none
  | .lsub => match st with
    | .long y :: .long x :: r => pm_nx (pc + 1) lv (.long (x - y) :: r) h
    | _ => none
  | .land => match st with
    | .long y :: .long x :: r => pm_nx (pc + 1) lv (.long (x &&& y) :: r) h
    | _ => none
  | .lor => match st with
    | .long y :: .long x :: r => pm_nx (pc + 1) lv (.long (x ||| y) :: r) h
    | _ => none
  | .lshl => match st with
    | .int y :: .long x :: r => pm_nx (pc + 1) lv (.long (x <<< (y.toInt64 &&& 63)) :: r) h
    | _ => none
  | .lshr => match st with
    | .int y :: .long x :: r => pm_nx (pc + 1) lv (.long (x >>> (y.toInt64 &&& 63)) :: r) h
    | _ => none
  | .i2l => match st with
    | .int x :: r => pm_nx (pc + 1) lv (.long x.toInt64 :: r) h
    | _ => none
  | .l2i => match st with
    | .long x :: r => pm_nx (pc + 1) lv (.int x.toInt32 :: r) h
    | _ => none
  | .lcmp => match st with
    | .long y :: .long x :: r => pm_nx (pc + 1) lv (.int (lg_cmp x y) :: r) h
    | _ => none
  | .dup => match st with
    | v :: r => if v.category = 1 then pm_nx (pc + 1) lv (v :: v :: r) h else none
    | _ => none
  | .pop => match st with
    | v :: r => if v.category = 1 then pm_nx (pc + 1) lv r h else none
    | _ => none
  | .dup2 => match st with
    | v :: w :: r => if v.category = 1 ∧ w.category = 1 then pm_nx (pc + 1) lv (v :: w :: v :: w :: r) h else none
    | _ => none
  | .goto off => match pm_br pc off with
    | some t => pm_nx t lv st h
    | none => none
  | .ifCond q off => match st, pm_br pc off with
    | .int x :: r, some t => pm_nx (if pm_cmp q x 0 = true then t else pc + 3) lv r h
    | _, _ => none
  | .if_icmp q off => match st, pm_br pc off with
    | .int y :: .int x :: r, some t => pm_nx (if pm_cmp q x y = true then t else pc + 3) lv r h
    | _, _ => none
  | .ifnull off => match st, pm_br pc off with
    | .null :: r, some t => pm_nx t lv r h
    | .ref _ :: r, some _ => pm_nx (pc + 3) lv r h
    | _, _ => none
  | .ifnonnull off => match st, pm_br pc off with
    | .ref _ :: r, some t => pm_nx t lv r h
    | .null :: r, some _ => pm_nx (pc + 3) lv r h
    | _, _ => none
  | .tableswitch dflt lo hi offs => match st with
    | .int x :: r => if x.toInt < lo ∨ hi < x.toInt then (match pm_br pc dflt with | some t => pm_nx t lv r h | none => none) else (match offs[(x.toInt - lo).toNat]? with | some off => (match pm_br pc off with | some t => pm_nx t lv r h | none => none) | none => none)
    | _ => none
  | .getfield _ => match res, st with
    | [ci, k, _], .ref p :: r => match h.1[p]? with
      | some (.inr (c, fs)) => if c = ci then (match fs[k]? with | some v => pm_nx (pc + 3) lv (v :: r) h | none => none) else none
      | _ => none
    | _, _ => none
  | .putfield _ => match res, st with
    | [ci, k, _], v :: .ref p :: r => match h.1[p]? with
      | some (.inr (c, fs)) => if c = ci ∧ k < fs.length ∧ pm_fit (pm_ty ci k) v = true then pm_nx (pc + 3) lv r (h.1.set p (.inr (c, fs.set k v)), h.2) else none
      | _ => none
    | _, _ => none
  | .arraylength => match st with
    | .ref p :: r => match h.1[p]? with
      | some (.inl (t, vs)) => if t < 7 then pm_nx (pc + 1) lv (.int (Int32.ofNat vs.length) :: r) h else none
      | _ => none
    | .retAddr _ :: r => pm_nx (pc + 1) lv (.int (Int32.ofNat sc.1) :: r) h
    | _ => none
  | .iaload => match st with
    | .int i :: .ref p :: r => match h.1[p]? with
      | some (.inl (0, vs)) => if i < 0 then none else (match vs[i.toNatClampNeg]? with | some (.int x) => pm_nx (pc + 1) lv (.int x :: r) h | _ => none)
      | _ => none
    | .int i :: .retAddr _ :: r => if ¬ i < 0 ∧ i.toNatClampNeg < sc.1 then pm_nx (pc + 1) lv (.int (sc.2 i.toNatClampNeg) :: r) h else none
    | _ => none
  | .laload => match st with
    | .int i :: .ref p :: r => match h.1[p]? with
      | some (.inl (1, vs)) => if i < 0 then none else (match vs[i.toNatClampNeg]? with | some (.long x) => pm_nx (pc + 1) lv (.long x :: r) h | _ => none)
      | _ => none
    | _ => none
  | .baload => match st with
    | .int i :: .ref p :: r => match h.1[p]? with
      | some (.inl (2, vs)) => if i < 0 then none else (match vs[i.toNatClampNeg]? with | some (.int x) => pm_nx (pc + 1) lv (.int x :: r) h | _ => none)
      | _ => none
    | _ => none
  | .aaload => match st with
    | .int i :: .ref p :: r => match h.1[p]? with
      | some (.inl (t, vs)) => if i < 0 ∨ t < 3 ∨ 6 < t then none else (match vs[i.toNatClampNeg]? with | some (.ref x) => pm_nx (pc + 1) lv (.ref x :: r) h | some .null => pm_nx (pc + 1) lv (.null :: r) h | _ => none)
      | _ => none
    | _ => none
  | .iastore => match st with
    | .int x :: .int i :: .ref p :: r => match h.1[p]? with
      | some (.inl (0, vs)) => if ¬ i < 0 ∧ i.toNatClampNeg < vs.length then pm_nx (pc + 1) lv r (h.1.set p (.inl (0, vs.set i.toNatClampNeg (.int x))), h.2) else none
      | _ => none
    | _ => none
  | .lastore => match st with
    | .long x :: .int i :: .ref p :: r => match h.1[p]? with
      | some (.inl (1, vs)) => if ¬ i < 0 ∧ i.toNatClampNeg < vs.length then pm_nx (pc + 1) lv r (h.1.set p (.inl (1, vs.set i.toNatClampNeg (.long x))), h.2) else none
      | _ => none
    | _ => none
  | .bastore => match st with
    | .int x :: .int i :: .ref p :: r => match h.1[p]? with
      | some (.inl (2, vs)) => if (x = 0 ∨ x = 1) ∧ ¬ i < 0 ∧ i.toNatClampNeg < vs.length then pm_nx (pc + 1) lv r (h.1.set p (.inl (2, vs.set i.toNatClampNeg (.int x))), h.2) else none
      | _ => none
    | _ => none
  | .aastore => match st with
    | .ref q :: .int i :: .ref p :: r => match h.1[p]?, h.1[q]? with
      | some (.inl (t, vs)), some (.inr (c, _)) => if ¬ i < 0 ∧ i.toNatClampNeg < vs.length ∧ 3 ≤ t ∧ t ≤ 6 ∧ c = pm_el t then pm_nx (pc + 1) lv r (h.1.set p (.inl (t, vs.set i.toNatClampNeg (.ref q))), h.2) else none
      | _, _ => none
    | .null :: .int i :: .ref p :: r => match h.1[p]? with
      | some (.inl (t, vs)) => if ¬ i < 0 ∧ i.toNatClampNeg < vs.length ∧ 3 ≤ t ∧ t ≤ 6 then pm_nx (pc + 1) lv r (h.1.set p (.inl (t, vs.set i.toNatClampNeg .null)), h.2) else none
      | _ => none
    | _ => none
  | .new _ => match res with
    | [ci] => if ci < 9 then pm_nx (pc + 3) lv (.ref h.1.length :: st) (h.1 ++ [.inr (ci, pm_df ci)], h.2.1 + 1, h.2.2 + (pm_df ci).length) else none
    | _ => none
  | .newarray a => match res, st with
    | [t], .int n :: r => if ((a = .int ∧ t = 0) ∨ (a = .long ∧ t = 1) ∨ (a = .boolean ∧ t = 2)) ∧ ¬ n < 0 ∧ n.toNatClampNeg ≤ 1000 then pm_nx (pc + 2) lv (.ref h.1.length :: r) (h.1 ++ [.inl (t, List.replicate n.toNatClampNeg (pm_dv t))], h.2.1 + 1, h.2.2 + n.toNatClampNeg) else none
    | _, _ => none
  | .anewarray _ => match res, st with
    | [t], .int n :: r => if 3 ≤ t ∧ t ≤ 6 ∧ ¬ n < 0 ∧ n.toNatClampNeg ≤ 1000 then pm_nx (pc + 3) lv (.ref h.1.length :: r) (h.1 ++ [.inl (t, List.replicate n.toNatClampNeg .null)], h.2.1 + 1, h.2.2 + n.toNatClampNeg) else none
    | _, _ => none
  | .invokevirtual _ => match res with
    | [j, kd] => if kd ≤ 1 then (match st.drop (np j) with
      | .ref b :: r => match h.1[b]? with
        | some (.inr (c, _)) => if np j < st.length ∧ c = mc j ∧ pm_sum r ≤ 12 ∧ rkOf j < rk then some (.inr (j, .ref b :: (st.take (np j)).reverse, r)) else none
        | _ => none
      | _ => none) else none
    | _ => none
  | .invokespecial _ => match res with
    | [j, kd] => if kd = 6 then (match st with
        | .ref _ :: r => if pm_sum r ≤ 8 ∧ 1 ≤ rk then pm_nx (pc + 3) lv r h else none
        | _ => none)
      else if kd = 2 ∨ kd = 3 then (match st.drop (np j) with
        | .ref b :: r => if np j < st.length ∧ pm_sum r ≤ 8 ∧ rkOf j < rk then some (.inr (j, .ref b :: (st.take (np j)).reverse, r)) else none
        | _ => none) else none
    | _ => none
  | .invokestatic _ => match res with
    | [j, kd] => if kd = 7 then (match st with
        | .int y :: .int x :: r => if pm_sum r ≤ 8 ∧ 1 ≤ rk then pm_nx (pc + 3) lv (.int (if x < y then y else x) :: r) h else none
        | _ => none)
      else if kd = 8 then (match st with
        | .int n :: .int dp :: .ref q :: .int sp :: .ref p :: r => match h.1[p]?, h.1[q]? with
          | some (.inl (0, vs)), some (.inl (0, ws)) => if pm_sum r ≤ 8 ∧ 1 ≤ rk ∧ ¬ sp < 0 ∧ ¬ dp < 0 ∧ ¬ n < 0 ∧ sp.toNatClampNeg + n.toNatClampNeg ≤ vs.length ∧ dp.toNatClampNeg + n.toNatClampNeg ≤ ws.length then pm_nx (pc + 3) lv r (h.1.set q (.inl (0, pm_cpy vs ws sp.toNatClampNeg dp.toNatClampNeg n.toNatClampNeg)), h.2) else none
          | _, _ => none
        | _ => none)
      else if kd = 4 ∨ kd = 5 ∨ kd = 9 then (if np j ≤ st.length ∧ pm_sum (st.drop (np j)) ≤ 8 ∧ rkOf j < rk then some (.inr (j, (st.take (np j)).reverse, st.drop (np j))) else none)
      else none
    | _ => none
  | _ => none
