/-! THE SMALL MACHINE (mm_): the methods, without making of cells. A run of it (a pure function) is a walk of the real machine: mm_W, mm_Met. Cells are numbered; a reference of the small machine is a number of a cell; 'retAddr' stands for the script. -/
abbrev mm_C : Type := (FieldType × vp_A) ⊕ (Nat × List Value)
abbrev mm_H : Type := List mm_C
abbrev mm_L : Type := List (Option Value)
abbrev mm_R : Type := Nat × mm_L × List Value × mm_H
/-- what a number of the pool is: a field (kind, place, its type where it is written), a constant, a call (method, parameters, kind of the receiver) -/
abbrev mm_K : Type := (Nat × Nat × Option FieldType) ⊕ Value ⊕ (Nat × Nat × Option Nat) ⊕ Nat
/-- an instruction, the place behind it, its targets -/
abbrev mm_I : Type := Jvm.ClassFile.Instr × Nat × List Nat
/-- a method: instructions by their places, pool, locals, what it answers -/
abbrev mm_M : Type := List (Option mm_I) × List (Nat × mm_K) × Nat × Option FieldType
abbrev mm_X : Type := Option (Nat × (Nat → Int32))
def mm_nth {α : Type} : List α → Nat → Option α
  | [], _ => none
  | x :: _, 0 => some x
  | _ :: l, n + 1 => mm_nth l n
def mm_put {α : Type} : List α → Nat → α → Option (List α)
  | [], _, _ => none
  | _ :: l, 0, v => some (v :: l)
  | x :: l, n + 1, v => match mm_put l n v with
    | some l' => some (x :: l')
    | none => none
def mm_look : List (Nat × mm_K) → Nat → Option mm_K
  | [], _ => none
  | x :: l, i => match Nat.beq x.1 i with
    | true => some x.2
    | false => mm_look l i
def mm_cut1 (L : mm_L) (j : Nat) : mm_L := match mm_nth L j with
  | some (some (.long _)) => L.set j none
  | some (some (.double _)) => L.set j none
  | _ => L
def mm_cut (L : mm_L) (i : Nat) : mm_L := match i with
  | 0 => L
  | j + 1 => mm_cut1 L j
def mm_st1 (L : mm_L) (i : Nat) (v : Value) : Option mm_L := mm_put (mm_cut L i) i (some v)
def mm_st2 (L : mm_L) (i : Nat) (v : Value) : Option mm_L := match mm_put (mm_cut L i) (i + 1) none with
  | some L1 => mm_put L1 i (some v)
  | none => none
def mm_go (nx : Nat) (L : mm_L) (st : List Value) (h : mm_H) : Option mm_R := some (nx, L, st, h)
def mm_ild (nx : Nat) (L : mm_L) (st : List Value) (h : mm_H) (i : Nat) : Option mm_R := match mm_nth L i with
  | some (some (.int x)) => mm_go nx L (.int x :: st) h
  | _ => none
def mm_lld (nx : Nat) (L : mm_L) (st : List Value) (h : mm_H) (i : Nat) : Option mm_R := match mm_nth L i with
  | some (some (.long x)) => mm_go nx L (.long x :: st) h
  | _ => none
def mm_rld (nx : Nat) (L : mm_L) (st : List Value) (h : mm_H) (i : Nat) : Option mm_R := match mm_nth L i with
  | some (some (.ref x)) => mm_go nx L (.ref x :: st) h
  | some (some .null) => mm_go nx L (.null :: st) h
  | some (some (.retAddr x)) => mm_go nx L (.retAddr x :: st) h
  | _ => none
def mm_goL (nx : Nat) (o : Option mm_L) (st : List Value) (h : mm_H) : Option mm_R := match o with
  | some L => mm_go nx L st h
  | none => none
def mm_ist (nx : Nat) (L : mm_L) (st : List Value) (h : mm_H) (i : Nat) : Option mm_R := match st with
  | .int x :: r => mm_goL nx (mm_st1 L i (.int x)) r h
  | _ => none
def mm_lst (nx : Nat) (L : mm_L) (st : List Value) (h : mm_H) (i : Nat) : Option mm_R := match st with
  | .long x :: r => mm_goL nx (mm_st2 L i (.long x)) r h
  | _ => none
def mm_rst (nx : Nat) (L : mm_L) (st : List Value) (h : mm_H) (i : Nat) : Option mm_R := match st with
  | .ref x :: r => mm_goL nx (mm_st1 L i (.ref x)) r h
  | .null :: r => mm_goL nx (mm_st1 L i .null) r h
  | _ => none
def mm_inc (nx : Nat) (L : mm_L) (st : List Value) (h : mm_H) (i : Nat) (d : Int32) : Option mm_R := match mm_nth L i with
  | some (some (.int x)) => mm_goL nx (mm_st1 L i (.int (x + d))) st h
  | _ => none
def mm_ii (nx : Nat) (L : mm_L) (st : List Value) (h : mm_H) (f : Int32 → Int32 → Int32) : Option mm_R := match st with
  | .int y :: .int x :: r => mm_go nx L (.int (f x y) :: r) h
  | _ => none
def mm_ll (nx : Nat) (L : mm_L) (st : List Value) (h : mm_H) (f : Int64 → Int64 → Int64) : Option mm_R := match st with
  | .long y :: .long x :: r => mm_go nx L (.long (f x y) :: r) h
  | _ => none
def mm_iz (nx : Nat) (L : mm_L) (st : List Value) (h : mm_H) (f : Int32 → Int32 → Int32) : Option mm_R := match st with
  | .int y :: .int x :: r => if y = 0 then none else mm_go nx L (.int (f x y) :: r) h
  | _ => none
def mm_lz (nx : Nat) (L : mm_L) (st : List Value) (h : mm_H) (f : Int64 → Int64 → Int64) : Option mm_R := match st with
  | .long y :: .long x :: r => if y = 0 then none else mm_go nx L (.long (f x y) :: r) h
  | _ => none
def mm_li (nx : Nat) (L : mm_L) (st : List Value) (h : mm_H) (f : Int64 → Int32 → Int64) : Option mm_R := match st with
  | .int y :: .long x :: r => mm_go nx L (.long (f x y) :: r) h
  | _ => none
def mm_br {α : Type} (c : Jvm.ClassFile.Cond) (x y : Int32) (a b : α) : α := match c with
  | .eq => if x = y then a else b
  | .ne => if x = y then b else a
  | .lt => if x < y then a else b
  | .ge => if y ≤ x then a else b
  | .gt => if y < x then a else b
  | .le => if x ≤ y then a else b
def mm_to (tg : List Nat) (L : mm_L) (st : List Value) (h : mm_H) : Option mm_R := match tg with
  | [t] => mm_go t L st h
  | _ => none
def mm_nul (nx : Nat) (tg : List Nat) (L : mm_L) (st : List Value) (h : mm_H) : Option mm_R := match st with
  | .null :: r => mm_to tg L r h
  | .ref _ :: r => mm_go nx L r h
  | _ => none
def mm_nnl (nx : Nat) (tg : List Nat) (L : mm_L) (st : List Value) (h : mm_H) : Option mm_R := match st with
  | .ref _ :: r => mm_to tg L r h
  | .null :: r => mm_go nx L r h
  | _ => none
def mm_iald (scr : mm_X) (nx : Nat) (L : mm_L) (st : List Value) (h : mm_H) : Option mm_R := match st with
  | .int i :: .ref a :: r => (match mm_nth h a with
    | some (.inl (.int, n, .inl f)) => if 0 ≤ i.toInt ∧ i.toInt < (n : Int) then mm_go nx L (.int (f i.toNatClampNeg) :: r) h else none
    | _ => none)
  | .int i :: .retAddr _ :: r => (match scr with
    | some (n, f) => if 0 ≤ i.toInt ∧ i.toInt < (n : Int) then mm_go nx L (.int (f i.toNatClampNeg) :: r) h else none
    | none => none)
  | _ => none
def mm_lald (nx : Nat) (L : mm_L) (st : List Value) (h : mm_H) : Option mm_R := match st with
  | .int i :: .ref a :: r => (match mm_nth h a with
    | some (.inl (.long, n, .inr (.inl f))) => if 0 ≤ i.toInt ∧ i.toInt < (n : Int) then mm_go nx L (.long (f i.toNatClampNeg) :: r) h else none
    | _ => none)
  | _ => none
def mm_zald (nx : Nat) (L : mm_L) (st : List Value) (h : mm_H) : Option mm_R := match st with
  | .int i :: .ref a :: r => (match mm_nth h a with
    | some (.inl (.boolean, n, .inl f)) => if 0 ≤ i.toInt ∧ i.toInt < (n : Int) then mm_go nx L (.int (f i.toNatClampNeg) :: r) h else none
    | _ => none)
  | _ => none
def mm_goH (nx : Nat) (L : mm_L) (st : List Value) (o : Option mm_H) : Option mm_R := match o with
  | some h => mm_go nx L st h
  | none => none
def mm_iast (nx : Nat) (L : mm_L) (st : List Value) (h : mm_H) : Option mm_R := match st with
  | .int x :: .int i :: .ref a :: r => (match mm_nth h a with
    | some (.inl (.int, n, .inl f)) => if 0 ≤ i.toInt ∧ i.toInt < (n : Int) then mm_goH nx L r (mm_put h a (.inl (.int, n, .inl (upd f i.toNatClampNeg x)))) else none
    | _ => none)
  | _ => none
def mm_last (nx : Nat) (L : mm_L) (st : List Value) (h : mm_H) : Option mm_R := match st with
  | .long x :: .int i :: .ref a :: r => (match mm_nth h a with
    | some (.inl (.long, n, .inr (.inl f))) => if 0 ≤ i.toInt ∧ i.toInt < (n : Int) then mm_goH nx L r (mm_put h a (.inl (.long, n, .inr (.inl (vp_updL f i.toNatClampNeg x))))) else none
    | _ => none)
  | _ => none
def mm_zast (nx : Nat) (L : mm_L) (st : List Value) (h : mm_H) : Option mm_R := match st with
  | .int x :: .int i :: .ref a :: r => (match mm_nth h a with
    | some (.inl (.boolean, n, .inl f)) => if 0 ≤ i.toInt ∧ i.toInt < (n : Int) then mm_goH nx L r (mm_put h a (.inl (.boolean, n, .inl (upd f i.toNatClampNeg (vp_nar .boolean x))))) else none
    | _ => none)
  | _ => none
def mm_len (scr : mm_X) (nx : Nat) (L : mm_L) (st : List Value) (h : mm_H) : Option mm_R := match st with
  | .ref a :: r => (match mm_nth h a with
    | some (.inl (_, n, _)) => mm_go nx L (.int (Int32.ofNat n) :: r) h
    | _ => none)
  | .retAddr _ :: r => (match scr with
    | some (n, _) => mm_go nx L (.int (Int32.ofNat n) :: r) h
    | none => none)
  | _ => none
def mm_gfd (nx : Nat) (L : mm_L) (st : List Value) (h : mm_H) (q : Nat × Nat × Option FieldType) : Option mm_R := match st with
  | .ref a :: r => (match mm_nth h a with
    | some (.inr (ci, fs)) => (match Nat.beq ci q.1 with
      | true => (match mm_nth fs q.2.1 with
        | some v => mm_go nx L (v :: r) h
        | none => none)
      | false => none)
    | _ => none)
  | _ => none
def mm_pfd1 (nx : Nat) (L : mm_L) (r : List Value) (h : mm_H) (q : Nat × Nat × Option FieldType) (a : Nat) (v : Value) : Option mm_R := match mm_nth h a with
  | some (.inr (ci, fs)) => (match Nat.beq ci q.1 with
    | true => (match mm_put fs q.2.1 v with
      | some fs' => mm_goH nx L r (mm_put h a (.inr (ci, fs')))
      | none => none)
    | false => none)
  | _ => none
def mm_pfd (nx : Nat) (L : mm_L) (st : List Value) (h : mm_H) (q : Nat × Nat × Option FieldType) : Option mm_R := match q.2.2, st with
  | some .int, .int x :: .ref a :: r => mm_pfd1 nx L r h q a (.int x)
  | some .long, .long x :: .ref a :: r => mm_pfd1 nx L r h q a (.long x)
  | _, _ => none
def mm_take : Nat → List Value → List Value → Option (List Value × List Value)
  | 0, acc, st => some (acc, st)
  | n + 1, acc, v :: st => mm_take n (v :: acc) st
  | _ + 1, _, [] => none
def mm_cat : List Value → Nat
  | [] => 0
  | v :: r => v.category + mm_cat r
def mm_back (nx : Nat) (L : mm_L) (r : List Value) (o : Option (Option Value × mm_H)) : Option mm_R := match o with
  | some (some v, h) => mm_go nx L (v :: r) h
  | some (none, h) => mm_go nx L r h
  | none => none
def mm_cv1 (call : Nat → List Value → mm_H → Option (Option Value × mm_H)) (nx : Nat) (L : mm_L) (h : mm_H) (k ci : Nat) (As r : List Value) : Option mm_R := match r with
  | .ref b :: r' => (match mm_nth h b with
    | some (.inr (cj, _)) => (match Nat.beq cj ci, Nat.ble (mm_cat r') 8 with
      | true, true => mm_back nx L r' (call k (.ref b :: As) h)
      | _, _ => none)
    | _ => none)
  | _ => none
def mm_cs1 (call : Nat → List Value → mm_H → Option (Option Value × mm_H)) (nx : Nat) (L : mm_L) (h : mm_H) (k : Nat) (As r : List Value) : Option mm_R := match Nat.ble (mm_cat r) 8 with
  | true => mm_back nx L r (call k As h)
  | false => none
def mm_max (nx : Nat) (L : mm_L) (st : List Value) (h : mm_H) : Option mm_R := match st with
  | .int y :: .int x :: r => (match Nat.ble (mm_cat r) 8 with
    | true => mm_go nx L (.int (if x < y then y else x) :: r) h
    | false => none)
  | _ => none
def mm_min (nx : Nat) (L : mm_L) (st : List Value) (h : mm_H) : Option mm_R := match st with
  | .long y :: .long x :: r => (match Nat.ble (mm_cat r) 8 with
    | true => mm_go nx L (.long (if y < x then y else x) :: r) h
    | false => none)
  | _ => none
def mm_ivv (call : Nat → List Value → mm_H → Option (Option Value × mm_H)) (nx : Nat) (L : mm_L) (st : List Value) (h : mm_H) (q : Nat × Nat × Option Nat) : Option mm_R := match q.2.2, mm_take q.2.1 [] st with
  | some ci, some (As, r) => mm_cv1 call nx L h q.1 ci As r
  | _, _ => none
def mm_ivs (call : Nat → List Value → mm_H → Option (Option Value × mm_H)) (nx : Nat) (L : mm_L) (st : List Value) (h : mm_H) (q : Nat × Nat × Option Nat) : Option mm_R := match q.2.2, mm_take q.2.1 [] st with
  | none, some (As, r) => mm_cs1 call nx L h q.1 As r
  | _, _ => none
def mm_ret (ret : Option FieldType) (ins : Jvm.ClassFile.Instr) (st : List Value) : Option (Option Value) := match ins with
  | .ireturn => (match ret, st with
    | some .int, [.int x] => some (some (.int x))
    | some .boolean, [.int x] => if vp_nar .boolean x = x then some (some (.int x)) else none
    | _, _ => none)
  | .areturn => (match ret, st with
    | some (.object _), [.ref x] => some (some (.ref x))
    | some (.object _), [.null] => some (some .null)
    | _, _ => none)
  | .lreturn => (match ret, st with
    | some .long, [.long x] => some (some (.long x))
    | _, _ => none)
  | .return_ => (match ret, st with
    | none, [] => some none
    | _, _ => none)
  | _ => none
def mm_tsw (lo hi : Int) (tg : List Nat) (L : mm_L) (st : List Value) (h : mm_H) : Option mm_R := match st, tg with
  | .int x :: r, t :: ts => if x.toInt < lo ∨ hi < x.toInt then mm_go t L r h else (match mm_nth ts (x.toInt - lo).toNat with
    | some t' => mm_go t' L r h
    | none => none)
  | _, _ => none
def mm_ex (call : Nat → List Value → mm_H → Option (Option Value × mm_H)) (scr : mm_X) (pool : List (Nat × mm_K)) (ins : Jvm.ClassFile.Instr) (nx : Nat) (tg : List Nat) (L : mm_L) (st : List Value) (h : mm_H) : Option mm_R := match ins with
  | .iconst n => mm_go nx L (.int (Int32.ofInt n) :: st) h
  | .bipush n => mm_go nx L (.int (Int8.ofInt n).toInt32 :: st) h
  | .sipush n => mm_go nx L (.int (Int16.ofInt n).toInt32 :: st) h
  | .lconst n => mm_go nx L (.long (Int64.ofNat n.val) :: st) h
  | .aconst_null => mm_go nx L (.null :: st) h
  | .ldc i => (match mm_look pool i with
    | some (.inr (.inl (.int v))) => mm_go nx L (.int v :: st) h
    | _ => none)
  | .ldc_w i => (match mm_look pool i with
    | some (.inr (.inl (.int v))) => mm_go nx L (.int v :: st) h
    | _ => none)
  | .ldc2_w i => (match mm_look pool i with
    | some (.inr (.inl (.long v))) => mm_go nx L (.long v :: st) h
    | _ => none)
  | .iload_n k => mm_ild nx L st h k.val
  | .iload i => mm_ild nx L st h i
  | .lload_n k => mm_lld nx L st h k.val
  | .lload i => mm_lld nx L st h i
  | .aload_n k => mm_rld nx L st h k.val
  | .aload i => mm_rld nx L st h i
  | .istore_n k => mm_ist nx L st h k.val
  | .istore i => mm_ist nx L st h i
  | .lstore_n k => mm_lst nx L st h k.val
  | .lstore i => mm_lst nx L st h i
  | .astore_n k => mm_rst nx L st h k.val
  | .astore i => mm_rst nx L st h i
  | .iinc i n => mm_inc nx L st h i (Int32.ofInt n)
  | .iadd => mm_ii nx L st h (fun x y => x + y)
  | .isub => mm_ii nx L st h (fun x y => x - y)
  | .imul => mm_ii nx L st h (fun x y => x * y)
  | .iand => mm_ii nx L st h (fun x y => x &&& y)
  | .ior => mm_ii nx L st h (fun x y => x ||| y)
  | .ixor => mm_ii nx L st h (fun x y => x ^^^ y)
  | .ishl => mm_ii nx L st h (fun x y => x <<< (y &&& 31))
  | .ishr => mm_ii nx L st h (fun x y => x >>> (y &&& 31))
  | .iushr => mm_ii nx L st h (fun x y => (x.toUInt32 >>> (y.toUInt32 &&& Int32.toUInt32 31)).toInt32)
  | .idiv => mm_iz nx L st h (fun x y => x / y)
  | .irem => mm_iz nx L st h (fun x y => x - x / y * y)
  | .ineg => (match st with
    | .int x :: r => mm_go nx L (.int (-x) :: r) h
    | _ => none)
  | .ladd => mm_ll nx L st h (fun x y => x + y)
  | .lsub => mm_ll nx L st h (fun x y => x - y)
  | .lmul => mm_ll nx L st h (fun x y => x * y)
  | .land => mm_ll nx L st h (fun x y => x &&& y)
  | .lor => mm_ll nx L st h (fun x y => x ||| y)
  | .lxor => mm_ll nx L st h (fun x y => x ^^^ y)
  | .ldiv => mm_lz nx L st h (fun x y => x / y)
  | .lrem => mm_lz nx L st h (fun x y => x - x / y * y)
  | .lshl => mm_li nx L st h (fun x y => x <<< (y.toInt64 &&& 63))
  | .lshr => mm_li nx L st h (fun x y => x >>> (y.toInt64 &&& 63))
  | .lneg => (match st with
    | .long x :: r => mm_go nx L (.long (-x) :: r) h
    | _ => none)
  | .lcmp => (match st with
    | .long y :: .long x :: r => mm_go nx L (.int (lg_cmp x y) :: r) h
    | _ => none)
  | .i2l => (match st with
    | .int x :: r => mm_go nx L (.long x.toInt64 :: r) h
    | _ => none)
  | .l2i => (match st with
    | .long x :: r => mm_go nx L (.int x.toInt32 :: r) h
    | _ => none)
  | .dup => (match st with
    | .int x :: r => mm_go nx L (.int x :: .int x :: r) h
    | .ref x :: r => mm_go nx L (.ref x :: .ref x :: r) h
    | _ => none)
  | .dup2 => (match st with
    | .int x :: .ref y :: r => mm_go nx L (.int x :: .ref y :: .int x :: .ref y :: r) h
    | _ => none)
  | .pop => (match st with
    | .int _ :: r => mm_go nx L r h
    | _ => none)
  | .goto _ => mm_to tg L st h
  | .ifCond c _ => (match st with
    | .int x :: r => mm_br c x 0 (mm_to tg L r h) (mm_go nx L r h)
    | _ => none)
  | .if_icmp c _ => (match st with
    | .int y :: .int x :: r => mm_br c x y (mm_to tg L r h) (mm_go nx L r h)
    | _ => none)
  | .ifnull _ => mm_nul nx tg L st h
  | .ifnonnull _ => mm_nnl nx tg L st h
  | .tableswitch _ lo hi _ => mm_tsw lo hi tg L st h
  | .iaload => mm_iald scr nx L st h
  | .laload => mm_lald nx L st h
  | .baload => mm_zald nx L st h
  | .iastore => mm_iast nx L st h
  | .lastore => mm_last nx L st h
  | .bastore => mm_zast nx L st h
  | .arraylength => mm_len scr nx L st h
  | .getfield i => (match mm_look pool i with
    | some (.inl q) => mm_gfd nx L st h q
    | _ => none)
  | .putfield i => (match mm_look pool i with
    | some (.inl q) => mm_pfd nx L st h q
    | _ => none)
  | .invokevirtual i => (match mm_look pool i with
    | some (.inr (.inr (.inl q))) => mm_ivv call nx L st h q
    | _ => none)
  | .invokestatic i => (match mm_look pool i with
    | some (.inr (.inr (.inl q))) => mm_ivs call nx L st h q
    | some (.inr (.inr (.inr 0))) => mm_max nx L st h
    | some (.inr (.inr (.inr 1))) => mm_min nx L st h
    | _ => none)
  | _ => none
def mm_lay : List Value → mm_L
  | [] => []
  | v :: t => match Nat.beq v.category 2 with
    | true => some v :: none :: mm_lay t
    | false => some v :: mm_lay t
def mm_pad : mm_L → Nat → mm_L
  | [], 0 => []
  | [], n + 1 => none :: mm_pad [] n
  | x :: l, 0 => x :: l
  | x :: l, n + 1 => x :: mm_pad l n
def mm_cal (G : List mm_M) (run : Nat → mm_L → mm_H → Option (Option Value × mm_H)) (j : Nat) (As : List Value) (g : mm_H) : Option (Option Value × mm_H) := match mm_nth G j with
  | none => none
  | some Mj => match Nat.ble (mm_lay As).length Mj.2.2.1 with
    | true => run j (mm_pad (mm_lay As) Mj.2.2.1) g
    | false => none
/-- a run: fuel, script, method, place, locals, stack, cells -/
def mm_run (G : List mm_M) : Nat → mm_X → Nat → Nat → mm_L → List Value → mm_H → Option (Option Value × mm_H)
  | 0, _, _, _, _, _, _ => none
  | n + 1, scr, k, pc, L, st, h => match mm_nth G k with
    | none => none
    | some M => match mm_nth M.1 pc with
      | some (some x) => (match mm_ret M.2.2.2 x.1 st with
        | some v => some (v, h)
        | none => match mm_ex (mm_cal G (fun j L g => mm_run G n none j 0 L [] g)) scr M.2.1 x.1 x.2.1 x.2.2 L st h with
          | some (pc', L', st', h') => mm_run G n scr k pc' L' st' h'
          | none => none)
      | _ => none
