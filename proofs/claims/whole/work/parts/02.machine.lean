/-! AN ABSTRACT MACHINE over numbered cells: what a method does, as a computation on lists; its soundness over the machine itself stands behind it (own work) -/
/-- a cell: an object (its class's number, its fields); a row of ints (0: int, 1: byte, 2: boolean, 9: the script, which is only read); a row of longs; a row of references (its kind's number) -/
abbrev xC : Type := (Nat × List Value) ⊕ ((Nat × List Int32) ⊕ (List Int64 ⊕ (Nat × List (Option Nat))))
abbrev xH : Type := List xC
abbrev xO (ci : Nat) (fs : List Value) : xC := .inl (ci, fs)
abbrev xI (kd : Nat) (xs : List Int32) : xC := .inr (.inl (kd, xs))
abbrev xL (xs : List Int64) : xC := .inr (.inr (.inl xs))
abbrev xQ (kd : Nat) (rs : List (Option Nat)) : xC := .inr (.inr (.inr (kd, rs)))
/-- place in the code, locals, operands, cells -/
abbrev xF : Type := Nat × List (Option Value) × List Value × xH
/-- goes on; returns; calls (the method's number, what it is given, where it goes on) -/
abbrev xK : Type := xF ⊕ ((Option Value × xH) ⊕ (Nat × List Value × xF))
/-- the tables: a method's instruction at a place; a class's pool (kind, two numbers); a class's constants; of a method: its class, parameters, locals, whether it makes an object, whether it is a member by law, its answer's type; a field's type and whether it is final; the class of the elements of a row of references -/
abbrev xM : Type := (Nat → Nat → Option Instr) × (Nat → Nat → Option (Nat × Nat × Nat)) × (Nat → Nat → Option Value) × (Nat → Nat × Nat × Nat × Bool × Bool × Option FieldType) × (Nat → Nat → FieldType × Bool) × (Nat → Option Nat)
def x_fe (M : xM) (j pc : Nat) : Option Instr := M.1 j pc
def x_pl (M : xM) (o idx : Nat) : Option (Nat × Nat × Nat) := M.2.1 o idx
def x_kc (M : xM) (o idx : Nat) : Option Value := M.2.2.1 o idx
def x_ow (M : xM) (j : Nat) : Nat := (M.2.2.2.1 j).1
def x_np (M : xM) (j : Nat) : Nat := (M.2.2.2.1 j).2.1
def x_nL (M : xM) (j : Nat) : Nat := (M.2.2.2.1 j).2.2.1
def x_in (M : xM) (j : Nat) : Bool := (M.2.2.2.1 j).2.2.2.1
def x_pr (M : xM) (j : Nat) : Bool := (M.2.2.2.1 j).2.2.2.2.1
def x_rt (M : xM) (j : Nat) : Option FieldType := (M.2.2.2.1 j).2.2.2.2.2
def x_ft (M : xM) (ci k : Nat) : FieldType := (M.2.2.2.2.1 ci k).1
def x_ff (M : xM) (ci k : Nat) : Bool := (M.2.2.2.2.1 ci k).2
def x_el (M : xM) (kd : Nat) : Option Nat := M.2.2.2.2.2 kd
/-- a local -/
def x_ld (L : List (Option Value)) (i : Nat) : Option Value := match L[i]? with
  | some (some v) => some v
  | _ => none
def x_kl (L : List (Option Value)) : Nat → List (Option Value)
  | 0 => L
  | i + 1 => match x_ld L i with
    | some v => if v.category = 2 then L.set i none else L
    | none => L
def x_st (L : List (Option Value)) (i : Nat) (v : Value) : List (Option Value) := (x_kl L i).set i (some v)
def x_wd : List Value → Nat
  | [] => 0
  | v :: vs => (if v.category = 2 then 2 else 1) + x_wd vs
def x_sp : List Value → List (Option Value)
  | [] => []
  | v :: vs => if v.category = 2 then some v :: none :: x_sp vs else some v :: x_sp vs
def x_ent (n : Nat) (as : List Value) : List (Option Value) := x_sp as ++ List.replicate (n - x_wd as) none
/-- what fits a field of a type -/
def x_ok (ty : FieldType) (v : Value) : Bool := match v with
  | .int x => decide (narrow ty (.int x) = .int x) && fits ty (.int x)
  | .long x => decide (narrow ty (.long x) = .long x) && fits ty (.long x)
  | .ref _ => match ty with
    | .object _ => true
    | .array _ => true
    | _ => false
  | _ => false
def x_df (M : xM) (ci n : Nat) : List Value := (List.range n).map (fun k => defaultValue (x_ft M ci k))
def x_cmp (c : ClassFile.Cond) (x y : Int32) : Bool := match c with
  | .eq => decide (x = y)
  | .ne => decide (¬ x = y)
  | .lt => decide (x < y)
  | .ge => decide (y ≤ x)
  | .gt => decide (y < x)
  | .le => decide (x ≤ y)
def x_tg (pc : Nat) (off : Int) (L : List (Option Value)) (st : List Value) (h : xH) : Option xK := if 0 ≤ (pc : Int) + off then some (.inl (((pc : Int) + off).toNat, L, st, h)) else none
-- operands
def x_i1 (st : List Value) (g : Int32 → List Value → Option xK) : Option xK := match st with
  | .int x :: st => g x st
  | _ => none
def x_i2 (st : List Value) (g : Int32 → Int32 → List Value → Option xK) : Option xK := match st with
  | .int y :: .int x :: st => g x y st
  | _ => none
def x_l1 (st : List Value) (g : Int64 → List Value → Option xK) : Option xK := match st with
  | .long x :: st => g x st
  | _ => none
def x_l2 (st : List Value) (g : Int64 → Int64 → List Value → Option xK) : Option xK := match st with
  | .long y :: .long x :: st => g x y st
  | _ => none
def x_li (st : List Value) (g : Int64 → Int32 → List Value → Option xK) : Option xK := match st with
  | .int y :: .long x :: st => g x y st
  | _ => none
def x_r1 (st : List Value) (g : Nat → List Value → Option xK) : Option xK := match st with
  | .ref x :: st => g x st
  | _ => none
def x_ri (st : List Value) (g : Nat → Int32 → List Value → Option xK) : Option xK := match st with
  | .int i :: .ref x :: st => g x i st
  | _ => none
def x_rii (st : List Value) (g : Nat → Int32 → Int32 → List Value → Option xK) : Option xK := match st with
  | .int v :: .int i :: .ref x :: st => g x i v st
  | _ => none
def x_ril (st : List Value) (g : Nat → Int32 → Int64 → List Value → Option xK) : Option xK := match st with
  | .long v :: .int i :: .ref x :: st => g x i v st
  | _ => none
def x_rir (st : List Value) (g : Nat → Int32 → Nat → List Value → Option xK) : Option xK := match st with
  | .ref v :: .int i :: .ref x :: st => g x i v st
  | _ => none
def x_v1 (st : List Value) (g : Value → List Value → Option xK) : Option xK := match st with
  | v :: st => if v.category = 1 then g v st else none
  | _ => none
def x_vr (st : List Value) (g : Value → Nat → List Value → Option xK) : Option xK := match st with
  | v :: .ref x :: st => g v x st
  | _ => none
-- cells
def x_ob (h : xH) (r ci : Nat) (g : List Value → Option xK) : Option xK := match h[r]? with
  | some (.inl (c, fs)) => if c = ci then g fs else none
  | _ => none
def x_ri0 (h : xH) (r : Nat) (g : Nat → List Int32 → Option xK) : Option xK := match h[r]? with
  | some (.inr (.inl (kd, xs))) => g kd xs
  | _ => none
def x_rl0 (h : xH) (r : Nat) (g : List Int64 → Option xK) : Option xK := match h[r]? with
  | some (.inr (.inr (.inl xs))) => g xs
  | _ => none
def x_rq0 (h : xH) (r : Nat) (g : Nat → List (Option Nat) → Option xK) : Option xK := match h[r]? with
  | some (.inr (.inr (.inr (kd, rs)))) => g kd rs
  | _ => none
/-- at a place of a row -/
def x_at' {α : Type} (xs : List α) (i : Int32) (g : α → Option xK) : Option xK := if i < 0 then none else match xs[i.toNatClampNeg]? with
  | some x => g x
  | none => none
def x_len (h : xH) (r : Nat) : Option Nat := match h[r]? with
  | some (.inr (.inl (kd, xs))) => if kd = 0 ∨ kd = 9 then some xs.length else none
  | some (.inr (.inr (.inl xs))) => some xs.length
  | _ => none
/-- what a row of bytes or booleans keeps of a number -/
def x_nr (kd : Nat) (x : Int32) : Int32 := match kd with
  | 1 => vp_nar .byte x
  | 2 => vp_nar .boolean x
  | _ => x
def x_cpy {α : Type} (f g : List α) (sp dp n : Nat) : List α := g.take dp ++ ((f.drop sp).take n ++ g.drop (dp + n))
def x_lim : Nat := 1000000
def x_made (h : xH) (c : xC) (g : Nat → xH → Option xK) : Option xK := if h.length < x_lim then g h.length (h ++ [c]) else none
def x_sum (st : List Value) : Nat := (st.map fun v => v.category).sum
/-- a call's operands: what it is given, the rest -/
def x_cut (n : Nat) (st : List Value) (g : List Value → List Value → Option xK) : Option xK := if (st.take n).length = n ∧ x_sum (st.drop n) ≤ 8 then g (st.take n).reverse (st.drop n) else none
def x_cls (h : xH) (r ci : Nat) : Bool := match h[r]? with
  | some (.inl (c, _)) => decide (c = ci)
  | _ => false
def x_n (pc : Nat) (L : List (Option Value)) (st : List Value) (h : xH) : Option xK := some (.inl (pc, L, st, h))
def x_br (pc : Nat) (off : Int) (c : Bool) (L : List (Option Value)) (st : List Value) (h : xH) : Option xK := if 0 ≤ (pc : Int) + off then (if c = true then x_n ((pc : Int) + off).toNat L st h else x_n (pc + 3) L st h) else none
def x_call (k : Nat) (as : List Value) (pc : Nat) (L : List (Option Value)) (st : List Value) (h : xH) : Option xK := some (.inr (.inr (k, as, (pc, L, st, h))))
def x_ret (v : Option Value) (h : xH) : Option xK := some (.inr (.inl (v, h)))
def x_ldi (L : List (Option Value)) (i : Nat) (g : Int32 → Option xK) : Option xK := match x_ld L i with
  | some (.int x) => g x
  | _ => none
def x_ldl (L : List (Option Value)) (i : Nat) (g : Int64 → Option xK) : Option xK := match x_ld L i with
  | some (.long x) => g x
  | _ => none
def x_lda (L : List (Option Value)) (i : Nat) (g : Nat → Option xK) : Option xK := match x_ld L i with
  | some (.ref x) => g x
  | _ => none
def x_sto (L : List (Option Value)) (i : Nat) (v : Value) (pc : Nat) (st : List Value) (h : xH) : Option xK := if i < L.length then some (.inl (pc, x_st L i v, st, h)) else none
def x_hd (as : List Value) (g : Nat → Option xK) : Option xK := match as with
  | .ref r :: _ => g r
  | _ => none
/-- a virtual call: the receiver is an object of the method's own class (or, of a member by law, any) -/
def x_virt (M : xM) (k pc : Nat) (L : List (Option Value)) (st : List Value) (h : xH) : Option xK := x_cut (x_np M k + 1) st fun as rest => x_hd as fun r => if x_cls h r (x_ow M k) = true ∨ (x_pr M k = true ∧ x_lim ≤ r) then x_call k as (pc + 3) L rest h else none
def x_spec (M : xM) (k pc : Nat) (L : List (Option Value)) (st : List Value) (h : xH) : Option xK := x_cut (x_np M k + 1) st fun as rest => x_hd as fun _ => x_call k as (pc + 3) L rest h
def x_copy (pc : Nat) (L : List (Option Value)) (st : List Value) (h : xH) : Option xK := match st with
  | .int n :: .int dp :: .ref d :: .int sp :: .ref s :: rest =>
    if n < 0 ∨ dp < 0 ∨ sp < 0 ∨ 8 < x_sum rest then none else match h[s]?, h[d]? with
    | some (.inr (.inl (a, f))), some (.inr (.inl (b, g))) => if a = 0 ∧ b = 0 ∧ sp.toNatClampNeg + n.toNatClampNeg ≤ f.length ∧ dp.toNatClampNeg + n.toNatClampNeg ≤ g.length then x_n (pc + 3) L rest (h.set d (xI 0 (x_cpy f g sp.toNatClampNeg dp.toNatClampNeg n.toNatClampNeg))) else none
    | some (.inr (.inr (.inl f))), some (.inr (.inr (.inl g))) => if sp.toNatClampNeg + n.toNatClampNeg ≤ f.length ∧ dp.toNatClampNeg + n.toNatClampNeg ≤ g.length then x_n (pc + 3) L rest (h.set d (xL (x_cpy f g sp.toNatClampNeg dp.toNatClampNeg n.toNatClampNeg))) else none
    | _, _ => none
  | _ => none
def x_ins (M : xM) (j : Nat) (i : Instr) (pc : Nat) (L : List (Option Value)) (st : List Value) (h : xH) : Option xK := match i with
  | .iconst z => x_n (pc + 1) L (.int (Int32.ofInt z) :: st) h
  | .bipush z => x_n (pc + 2) L (.int (Int8.ofInt z).toInt32 :: st) h
  | .sipush z => x_n (pc + 3) L (.int (Int16.ofInt z).toInt32 :: st) h
  | .lconst z => x_n (pc + 1) L (.long (Int64.ofNat z) :: st) h
  | .ldc idx => match x_kc M (x_ow M j) idx with
    | some (.int v) => x_n (pc + 2) L (.int v :: st) h
    | some (.ref r) => x_n (pc + 2) L (.ref r :: st) h
    | _ => none
  | .ldc_w idx => match x_kc M (x_ow M j) idx with
    | some (.int v) => x_n (pc + 3) L (.int v :: st) h
    | _ => none
  | .ldc2_w idx => match x_kc M (x_ow M j) idx with
    | some (.long v) => x_n (pc + 3) L (.long v :: st) h
    | _ => none
  | .iload_n k => x_ldi L k fun x => x_n (pc + 1) L (.int x :: st) h
  | .iload k => x_ldi L k fun x => x_n (pc + 2) L (.int x :: st) h
  | .lload_n k => x_ldl L k fun x => x_n (pc + 1) L (.long x :: st) h
  | .lload k => x_ldl L k fun x => x_n (pc + 2) L (.long x :: st) h
  | .aload_n k => x_lda L k fun x => x_n (pc + 1) L (.ref x :: st) h
  | .aload k => x_lda L k fun x => x_n (pc + 2) L (.ref x :: st) h
  | .istore_n k => x_i1 st fun x st => x_sto L k (.int x) (pc + 1) st h
  | .istore k => x_i1 st fun x st => x_sto L k (.int x) (pc + 2) st h
  | .astore_n k => x_r1 st fun x st => x_sto L k (.ref x) (pc + 1) st h
  | .astore k => x_r1 st fun x st => x_sto L k (.ref x) (pc + 2) st h
  | .iinc k z => x_ldi L k fun x => x_sto L k (.int (x + Int32.ofInt z)) (pc + 3) st h
  | .iadd => x_i2 st fun x y st => x_n (pc + 1) L (.int (x + y) :: st) h
  | .isub => x_i2 st fun x y st => x_n (pc + 1) L (.int (x - y) :: st) h
  | .imul => x_i2 st fun x y st => x_n (pc + 1) L (.int (x * y) :: st) h
  | .iand => x_i2 st fun x y st => x_n (pc + 1) L (.int (x &&& y) :: st) h
  | .ior => x_i2 st fun x y st => x_n (pc + 1) L (.int (x ||| y) :: st) h
  | .ixor => x_i2 st fun x y st => x_n (pc + 1) L (.int (x ^^^ y) :: st) h
  | .ishl => x_i2 st fun x y st => x_n (pc + 1) L (.int (x <<< (y &&& 31)) :: st) h
  | .ishr => x_i2 st fun x y st => x_n (pc + 1) L (.int (x >>> (y &&& 31)) :: st) h
  | .iushr => x_i2 st fun x y st => x_n (pc + 1) L (.int (x.toUInt32 >>> (y.toUInt32 &&& Int32.toUInt32 31)).toInt32 :: st) h
  | .idiv => x_i2 st fun x y st => if y = 0 then none else x_n (pc + 1) L (.int (x / y) :: st) h
  | .irem => x_i2 st fun x y st => if y = 0 then none else x_n (pc + 1) L (.int (x - x / y * y) :: st) h
  | .ineg => x_i1 st fun x st => x_n (pc + 1) L (.int (-x) :: st) h
  | .ladd => x_l2 st fun x y st => x_n (pc + 1) L (.long (x + y) :: st) h
  | .lmul => x_l2 st fun x y st => x_n (pc + 1) L (.long (x * y) :: st) h
  | .land => x_l2 st fun x y st => x_n (pc + 1) L (.long (x &&& y) :: st) h
  | .lor => x_l2 st fun x y st => x_n (pc + 1) L (.long (x ||| y) :: st) h
  | .ldiv => x_l2 st fun x y st => if y = 0 then none else x_n (pc + 1) L (.long (x / y) :: st) h
  | .lrem => x_l2 st fun x y st => if y = 0 then none else x_n (pc + 1) L (.long (x - x / y * y) :: st) h
  | .lshl => x_li st fun x y st => x_n (pc + 1) L (.long (x <<< (y.toInt64 &&& 63)) :: st) h
  | .lshr => x_li st fun x y st => x_n (pc + 1) L (.long (x >>> (y.toInt64 &&& 63)) :: st) h
  | .lcmp => x_l2 st fun x y st => x_n (pc + 1) L (.int (lg_cmp x y) :: st) h
  | .i2l => x_i1 st fun x st => x_n (pc + 1) L (.long x.toInt64 :: st) h
  | .l2i => x_l1 st fun x st => x_n (pc + 1) L (.int x.toInt32 :: st) h
  | .i2b => x_i1 st fun x st => x_n (pc + 1) L (.int x.toInt8.toInt32 :: st) h
  | .i2s => x_i1 st fun x st => x_n (pc + 1) L (.int x.toInt16.toInt32 :: st) h
  | .dup => x_v1 st fun v st => x_n (pc + 1) L (v :: v :: st) h
  | .pop => x_v1 st fun _ st => x_n (pc + 1) L st h
  | .dup2 => x_v1 st fun v st => x_v1 st fun w st => x_n (pc + 1) L (v :: w :: v :: w :: st) h
  | .ifCond c off => x_i1 st fun x st => x_br pc off (x_cmp c x 0) L st h
  | .if_icmp c off => x_i2 st fun x y st => x_br pc off (x_cmp c x y) L st h
  | .goto off => x_tg pc off L st h
  | .tableswitch d lo hi offs => x_i1 st fun x st => if x.toInt < lo ∨ hi < x.toInt then x_tg pc d L st h else match offs[(x.toInt - lo).toNat]? with
    | some o => x_tg pc o L st h
    | none => none
  | .getfield idx => x_r1 st fun r st => match x_pl M (x_ow M j) idx with
    | some (0, ci, k) => x_ob h r ci fun fs => match fs[k]? with
      | some v => x_n (pc + 3) L (v :: st) h
      | none => none
    | _ => none
  | .putfield idx => x_vr st fun v r st => match x_pl M (x_ow M j) idx with
    | some (0, ci, k) => x_ob h r ci fun fs => if k < fs.length ∧ x_ok (x_ft M ci k) v = true ∧ (x_ff M ci k = true → x_in M j = true ∧ x_ow M j = ci) then x_n (pc + 3) L st (h.set r (xO ci (fs.set k v))) else none
    | _ => none
  | .new idx => match x_pl M (x_ow M j) idx with
    | some (6, ci, n) => x_made h (xO ci (x_df M ci n)) fun a h => x_n (pc + 3) L (.ref a :: st) h
    | _ => none
  | .newarray ty => x_i1 st fun n st => if n < 0 ∨ 60000000 < n.toNatClampNeg then none else match ty with
    | .int => x_made h (xI 0 (List.replicate n.toNatClampNeg 0)) fun a h => x_n (pc + 2) L (.ref a :: st) h
    | .byte => x_made h (xI 1 (List.replicate n.toNatClampNeg 0)) fun a h => x_n (pc + 2) L (.ref a :: st) h
    | .boolean => x_made h (xI 2 (List.replicate n.toNatClampNeg 0)) fun a h => x_n (pc + 2) L (.ref a :: st) h
    | .long => x_made h (xL (List.replicate n.toNatClampNeg 0)) fun a h => x_n (pc + 2) L (.ref a :: st) h
    | _ => none
  | .anewarray idx => x_i1 st fun n st => if n < 0 ∨ 60000000 < n.toNatClampNeg then none else match x_pl M (x_ow M j) (idx + 100000) with
    | some (7, kd, _) => x_made h (xQ kd (List.replicate n.toNatClampNeg none)) fun a h => x_n (pc + 3) L (.ref a :: st) h
    | _ => none
  | .arraylength => x_r1 st fun r st => match x_len h r with
    | some n => x_n (pc + 1) L (.int (Int32.ofNat n) :: st) h
    | none => none
  | .iaload => x_ri st fun r i st => x_ri0 h r fun kd xs => if kd = 0 ∨ kd = 9 then x_at' xs i fun x => x_n (pc + 1) L (.int x :: st) h else none
  | .baload => x_ri st fun r i st => x_ri0 h r fun kd xs => if kd = 1 ∨ kd = 2 then x_at' xs i fun x => x_n (pc + 1) L (.int x :: st) h else none
  | .laload => x_ri st fun r i st => x_rl0 h r fun xs => x_at' xs i fun x => x_n (pc + 1) L (.long x :: st) h
  | .aaload => x_ri st fun r i st => x_rq0 h r fun kd xs => x_at' xs i fun x => match x, x_el M kd with
    | some q, some _ => x_n (pc + 1) L (.ref q :: st) h
    | _, _ => none
  | .iastore => x_rii st fun r i v st => x_ri0 h r fun kd xs => if kd = 0 then x_at' xs i fun _ => x_n (pc + 1) L st (h.set r (xI 0 (xs.set i.toNatClampNeg v))) else none
  | .bastore => x_rii st fun r i v st => x_ri0 h r fun kd xs => if kd = 1 ∨ kd = 2 then x_at' xs i fun _ => x_n (pc + 1) L st (h.set r (xI kd (xs.set i.toNatClampNeg (x_nr kd v)))) else none
  | .lastore => x_ril st fun r i v st => x_rl0 h r fun xs => x_at' xs i fun _ => x_n (pc + 1) L st (h.set r (xL (xs.set i.toNatClampNeg v)))
  | .aastore => x_rir st fun r i v st => x_rq0 h r fun kd xs => match x_el M kd with
    | some ci => if x_cls h v ci = true then x_at' xs i fun _ => x_n (pc + 1) L st (h.set r (xQ kd (xs.set i.toNatClampNeg (some v)))) else none
    | none => none
  | .invokevirtual idx => match x_pl M (x_ow M j) idx with
    | some (1, k, _) => x_virt M k pc L st h
    | _ => none
  | .invokespecial idx => match x_pl M (x_ow M j) idx with
    | some (2, k, _) => x_spec M k pc L st h
    | some (4, k, _) => x_spec M k pc L st h
    | some (5, _, _) => x_r1 st fun _ st => if x_sum st ≤ 8 then x_n (pc + 3) L st h else none
    | _ => none
  | .invokestatic idx => match x_pl M (x_ow M j) idx with
    | some (3, k, _) => x_cut (x_np M k) st fun as rest => x_call k as (pc + 3) L rest h
    | some (9, k, _) => x_cut (x_np M k) st fun as rest => x_call k as (pc + 3) L rest h
    | some (8, _, _) => x_copy pc L st h
    | some (10, _, _) => x_i2 st fun x y st => if x_sum st ≤ 8 then x_n (pc + 3) L (.int (if x < y then y else x) :: st) h else none
    | some (11, _, _) => x_i2 st fun x y st => if x_sum st ≤ 8 then x_n (pc + 3) L (.int (if y < x then y else x) :: st) h else none
    | _ => none
  | .ireturn => match st with
    | [.int x] => match x_rt M j with
      | some ty => if narrow ty (.int x) = .int x then x_ret (some (.int x)) h else none
      | none => none
    | _ => none
  | .lreturn => match st with
    | [.long x] => if x_rt M j = some .long then x_ret (some (.long x)) h else none
    | _ => none
  | .return_ => match st with
    | [] => if x_rt M j = none then x_ret none h else none
    | _ => none
  | _ => none
def x_kind (M : xM) (j : Nat) (f : xF) : Option xK := match x_fe M j f.1 with
  | some i => x_ins M j i f.1 f.2.1 f.2.2.1 f.2.2.2
  | none => none
/-- a frame's run, over what its calls do -/
def x_run (C : Nat → List Value → xH → Option Value × xH → Prop) (M : xM) (j : Nat) : Nat → xF → Option Value × xH → Prop
  | 0, _, _ => False
  | n + 1, f, r => match x_kind M j f with
    | some (.inl g) => x_run C M j n g r
    | some (.inr (.inl q)) => q = r
    | some (.inr (.inr (k, as, g))) => ∃ q, C k as g.2.2.2 q ∧ x_run C M j n (g.1, g.2.1, q.1.toList ++ g.2.2.1, q.2) r
    | none => False
/-- a method's run, its calls at most d deep; P: what the members by law answer -/
def x_ev (M : xM) (P : Nat → List Value → Option Value) : Nat → Nat → List Value → xH → Option Value × xH → Prop
  | 0, _, _, _, _ => False
  | d + 1, k, as, h, r => if x_pr M k = true then 4 ≤ d ∧ ∃ v, P k as = some v ∧ r = (some v, h) else x_wd as ≤ x_nL M k ∧ ∃ n, x_run (x_ev M P d) M k n (0, x_ent (x_nL M k) as, [], h) r
def x_one (c : xC) : Nat := match c with
  | .inl (_, fs) => fs.length
  | .inr (.inl (_, xs)) => xs.length
  | .inr (.inr (.inl xs)) => xs.length
  | .inr (.inr (.inr (_, rs))) => rs.length
def x_sz (h : xH) : Nat := (h.map x_one).sum
