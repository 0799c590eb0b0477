section
/-! THE SMALL MACHINE (mm_): the methods, without making of cells. A run of it (a pure function) is a walk of the real machine: mm_W, mm_Met. Cells are numbered; a reference of the small machine is a number of a cell; 'retAddr' stands for the script. -/
abbrev mm_C : Type := (FieldType × vp_A) ⊕ (Nat × List Value)
abbrev mm_H : Type := List mm_C
abbrev mm_L : Type := List (Option Value)
abbrev mm_R : Type := Nat × mm_L × List Value × mm_H
/-- what a number of the pool is: a field (kind, place, its type where it is written), a constant, a call (method, parameters, kind of the receiver) -/
abbrev mm_K : Type := (Nat × Nat × Option FieldType) ⊕ Value ⊕ (Nat × Nat × Option Nat) ⊕ Nat
/-- an instruction, the place behind it, its targets -/
abbrev mm_I : Type := Jvm.ClassFile.Instr × Nat × List Nat
/-- a method: instructions by their places, pool, locals, what it answers -/
abbrev mm_M : Type := List (Option mm_I) × List (Nat × mm_K) × Nat × Option FieldType
abbrev mm_X : Type := Option (Nat × (Nat → Int32))
def mm_nth {α : Type} : List α → Nat → Option α
  | [], _ => none
  | x :: _, 0 => some x
  | _ :: l, n + 1 => mm_nth l n
def mm_put {α : Type} : List α → Nat → α → Option (List α)
  | [], _, _ => none
  | _ :: l, 0, v => some (v :: l)
  | x :: l, n + 1, v => match mm_put l n v with
    | some l' => some (x :: l')
    | none => none
def mm_look : List (Nat × mm_K) → Nat → Option mm_K
  | [], _ => none
  | x :: l, i => match Nat.beq x.1 i with
    | true => some x.2
    | false => mm_look l i
def mm_cut1 (L : mm_L) (j : Nat) : mm_L := match mm_nth L j with
  | some (some (.long _)) => L.set j none
  | some (some (.double _)) => L.set j none
  | _ => L
def mm_cut (L : mm_L) (i : Nat) : mm_L := match i with
  | 0 => L
  | j + 1 => mm_cut1 L j
def mm_st1 (L : mm_L) (i : Nat) (v : Value) : Option mm_L := mm_put (mm_cut L i) i (some v)
def mm_st2 (L : mm_L) (i : Nat) (v : Value) : Option mm_L := match mm_put (mm_cut L i) (i + 1) none with
  | some L1 => mm_put L1 i (some v)
  | none => none
def mm_go (nx : Nat) (L : mm_L) (st : List Value) (h : mm_H) : Option mm_R := some (nx, L, st, h)
def mm_ild (nx : Nat) (L : mm_L) (st : List Value) (h : mm_H) (i : Nat) : Option mm_R := match mm_nth L i with
  | some (some (.int x)) => mm_go nx L (.int x :: st) h
  | _ => none
def mm_lld (nx : Nat) (L : mm_L) (st : List Value) (h : mm_H) (i : Nat) : Option mm_R := match mm_nth L i with
  | some (some (.long x)) => mm_go nx L (.long x :: st) h
  | _ => none
def mm_rld (nx : Nat) (L : mm_L) (st : List Value) (h : mm_H) (i : Nat) : Option mm_R := match mm_nth L i with
  | some (some (.ref x)) => mm_go nx L (.ref x :: st) h
  | some (some .null) => mm_go nx L (.null :: st) h
  | some (some (.retAddr x)) => mm_go nx L (.retAddr x :: st) h
  | _ => none
def mm_goL (nx : Nat) (o : Option mm_L) (st : List Value) (h : mm_H) : Option mm_R := match o with
  | some L => mm_go nx L st h
  | none => none
def mm_ist (nx : Nat) (L : mm_L) (st : List Value) (h : mm_H) (i : Nat) : Option mm_R := match st with
  | .int x :: r => mm_goL nx (mm_st1 L i (.int x)) r h
  | _ => none
def mm_lst (nx : Nat) (L : mm_L) (st : List Value) (h : mm_H) (i : Nat) : Option mm_R := match st with
  | .long x :: r => mm_goL nx (mm_st2 L i (.long x)) r h
  | _ => none
def mm_rst (nx : Nat) (L : mm_L) (st : List Value) (h : mm_H) (i : Nat) : Option mm_R := match st with
  | .ref x :: r => mm_goL nx (mm_st1 L i (.ref x)) r h
  | .null :: r => mm_goL nx (mm_st1 L i .null) r h
  | _ => none
def mm_inc (nx : Nat) (L : mm_L) (st : List Value) (h : mm_H) (i : Nat) (d : Int32) : Option mm_R := match mm_nth L i with
  | some (some (.int x)) => mm_goL nx (mm_st1 L i (.int (x + d))) st h
  | _ => none
def mm_ii (nx : Nat) (L : mm_L) (st : List Value) (h : mm_H) (f : Int32 → Int32 → Int32) : Option mm_R := match st with
  | .int y :: .int x :: r => mm_go nx L (.int (f x y) :: r) h
  | _ => none
def mm_ll (nx : Nat) (L : mm_L) (st : List Value) (h : mm_H) (f : Int64 → Int64 → Int64) : Option mm_R := match st with
  | .long y :: .long x :: r => mm_go nx L (.long (f x y) :: r) h
  | _ => none
def mm_iz (nx : Nat) (L : mm_L) (st : List Value) (h : mm_H) (f : Int32 → Int32 → Int32) : Option mm_R := match st with
  | .int y :: .int x :: r => if y = 0 then none else mm_go nx L (.int (f x y) :: r) h
  | _ => none
def mm_lz (nx : Nat) (L : mm_L) (st : List Value) (h : mm_H) (f : Int64 → Int64 → Int64) : Option mm_R := match st with
  | .long y :: .long x :: r => if y = 0 then none else mm_go nx L (.long (f x y) :: r) h
  | _ => none
def mm_li (nx : Nat) (L : mm_L) (st : List Value) (h : mm_H) (f : Int64 → Int32 → Int64) : Option mm_R := match st with
  | .int y :: .long x :: r => mm_go nx L (.long (f x y) :: r) h
  | _ => none
def mm_br {α : Type} (c : Jvm.ClassFile.Cond) (x y : Int32) (a b : α) : α := match c with
  | .eq => if x = y then a else b
  | .ne => if x = y then b else a
  | .lt => if x < y then a else b
  | .ge => if y ≤ x then a else b
  | .gt => if y < x then a else b
  | .le => if x ≤ y then a else b
def mm_to (tg : List Nat) (L : mm_L) (st : List Value) (h : mm_H) : Option mm_R := match tg with
  | [t] => mm_go t L st h
  | _ => none
def mm_nul (nx : Nat) (tg : List Nat) (L : mm_L) (st : List Value) (h : mm_H) : Option mm_R := match st with
  | .null :: r => mm_to tg L r h
  | .ref _ :: r => mm_go nx L r h
  | _ => none
def mm_nnl (nx : Nat) (tg : List Nat) (L : mm_L) (st : List Value) (h : mm_H) : Option mm_R := match st with
  | .ref _ :: r => mm_to tg L r h
  | .null :: r => mm_go nx L r h
  | _ => none
def mm_iald (scr : mm_X) (nx : Nat) (L : mm_L) (st : List Value) (h : mm_H) : Option mm_R := match st with
  | .int i :: .ref a :: r => (match mm_nth h a with
    | some (.inl (.int, n, .inl f)) => if 0 ≤ i.toInt ∧ i.toInt < (n : Int) then mm_go nx L (.int (f i.toNatClampNeg) :: r) h else none
    | _ => none)
  | .int i :: .retAddr _ :: r => (match scr with
    | some (n, f) => if 0 ≤ i.toInt ∧ i.toInt < (n : Int) then mm_go nx L (.int (f i.toNatClampNeg) :: r) h else none
    | none => none)
  | _ => none
def mm_lald (nx : Nat) (L : mm_L) (st : List Value) (h : mm_H) : Option mm_R := match st with
  | .int i :: .ref a :: r => (match mm_nth h a with
    | some (.inl (.long, n, .inr (.inl f))) => if 0 ≤ i.toInt ∧ i.toInt < (n : Int) then mm_go nx L (.long (f i.toNatClampNeg) :: r) h else none
    | _ => none)
  | _ => none
def mm_zald (nx : Nat) (L : mm_L) (st : List Value) (h : mm_H) : Option mm_R := match st with
  | .int i :: .ref a :: r => (match mm_nth h a with
    | some (.inl (.boolean, n, .inl f)) => if 0 ≤ i.toInt ∧ i.toInt < (n : Int) then mm_go nx L (.int (f i.toNatClampNeg) :: r) h else none
    | _ => none)
  | _ => none
def mm_goH (nx : Nat) (L : mm_L) (st : List Value) (o : Option mm_H) : Option mm_R := match o with
  | some h => mm_go nx L st h
  | none => none
def mm_iast (nx : Nat) (L : mm_L) (st : List Value) (h : mm_H) : Option mm_R := match st with
  | .int x :: .int i :: .ref a :: r => (match mm_nth h a with
    | some (.inl (.int, n, .inl f)) => if 0 ≤ i.toInt ∧ i.toInt < (n : Int) then mm_goH nx L r (mm_put h a (.inl (.int, n, .inl (upd f i.toNatClampNeg x)))) else none
    | _ => none)
  | _ => none
def mm_last (nx : Nat) (L : mm_L) (st : List Value) (h : mm_H) : Option mm_R := match st with
  | .long x :: .int i :: .ref a :: r => (match mm_nth h a with
    | some (.inl (.long, n, .inr (.inl f))) => if 0 ≤ i.toInt ∧ i.toInt < (n : Int) then mm_goH nx L r (mm_put h a (.inl (.long, n, .inr (.inl (vp_updL f i.toNatClampNeg x))))) else none
    | _ => none)
  | _ => none
def mm_zast (nx : Nat) (L : mm_L) (st : List Value) (h : mm_H) : Option mm_R := match st with
  | .int x :: .int i :: .ref a :: r => (match mm_nth h a with
    | some (.inl (.boolean, n, .inl f)) => if 0 ≤ i.toInt ∧ i.toInt < (n : Int) then mm_goH nx L r (mm_put h a (.inl (.boolean, n, .inl (upd f i.toNatClampNeg (vp_nar .boolean x))))) else none
    | _ => none)
  | _ => none
def mm_len (scr : mm_X) (nx : Nat) (L : mm_L) (st : List Value) (h : mm_H) : Option mm_R := match st with
  | .ref a :: r => (match mm_nth h a with
    | some (.inl (_, n, _)) => mm_go nx L (.int (Int32.ofNat n) :: r) h
    | _ => none)
  | .retAddr _ :: r => (match scr with
    | some (n, _) => mm_go nx L (.int (Int32.ofNat n) :: r) h
    | none => none)
  | _ => none
def mm_gfd (nx : Nat) (L : mm_L) (st : List Value) (h : mm_H) (q : Nat × Nat × Option FieldType) : Option mm_R := match st with
  | .ref a :: r => (match mm_nth h a with
    | some (.inr (ci, fs)) => (match Nat.beq ci q.1 with
      | true => (match mm_nth fs q.2.1 with
        | some v => mm_go nx L (v :: r) h
        | none => none)
      | false => none)
    | _ => none)
  | _ => none
def mm_pfd1 (nx : Nat) (L : mm_L) (r : List Value) (h : mm_H) (q : Nat × Nat × Option FieldType) (a : Nat) (v : Value) : Option mm_R := match mm_nth h a with
  | some (.inr (ci, fs)) => (match Nat.beq ci q.1 with
    | true => (match mm_put fs q.2.1 v with
      | some fs' => mm_goH nx L r (mm_put h a (.inr (ci, fs')))
      | none => none)
    | false => none)
  | _ => none
def mm_pfd (nx : Nat) (L : mm_L) (st : List Value) (h : mm_H) (q : Nat × Nat × Option FieldType) : Option mm_R := match q.2.2, st with
  | some .int, .int x :: .ref a :: r => mm_pfd1 nx L r h q a (.int x)
  | some .long, .long x :: .ref a :: r => mm_pfd1 nx L r h q a (.long x)
  | _, _ => none
def mm_take : Nat → List Value → List Value → Option (List Value × List Value)
  | 0, acc, st => some (acc, st)
  | n + 1, acc, v :: st => mm_take n (v :: acc) st
  | _ + 1, _, [] => none
def mm_cat : List Value → Nat
  | [] => 0
  | v :: r => v.category + mm_cat r
def mm_back (nx : Nat) (L : mm_L) (r : List Value) (o : Option (Option Value × mm_H)) : Option mm_R := match o with
  | some (some v, h) => mm_go nx L (v :: r) h
  | some (none, h) => mm_go nx L r h
  | none => none
def mm_cv1 (call : Nat → List Value → mm_H → Option (Option Value × mm_H)) (nx : Nat) (L : mm_L) (h : mm_H) (k ci : Nat) (As r : List Value) : Option mm_R := match r with
  | .ref b :: r' => (match mm_nth h b with
    | some (.inr (cj, _)) => (match Nat.beq cj ci, Nat.ble (mm_cat r') 8 with
      | true, true => mm_back nx L r' (call k (.ref b :: As) h)
      | _, _ => none)
    | _ => none)
  | _ => none
def mm_cs1 (call : Nat → List Value → mm_H → Option (Option Value × mm_H)) (nx : Nat) (L : mm_L) (h : mm_H) (k : Nat) (As r : List Value) : Option mm_R := match Nat.ble (mm_cat r) 8 with
  | true => mm_back nx L r (call k As h)
  | false => none
def mm_max (nx : Nat) (L : mm_L) (st : List Value) (h : mm_H) : Option mm_R := match st with
  | .int y :: .int x :: r => (match Nat.ble (mm_cat r) 8 with
    | true => mm_go nx L (.int (if x < y then y else x) :: r) h
    | false => none)
  | _ => none
def mm_min (nx : Nat) (L : mm_L) (st : List Value) (h : mm_H) : Option mm_R := match st with
  | .long y :: .long x :: r => (match Nat.ble (mm_cat r) 8 with
    | true => mm_go nx L (.long (if y < x then y else x) :: r) h
    | false => none)
  | _ => none
def mm_ivv (call : Nat → List Value → mm_H → Option (Option Value × mm_H)) (nx : Nat) (L : mm_L) (st : List Value) (h : mm_H) (q : Nat × Nat × Option Nat) : Option mm_R := match q.2.2, mm_take q.2.1 [] st with
  | some ci, some (As, r) => mm_cv1 call nx L h q.1 ci As r
  | _, _ => none
def mm_ivs (call : Nat → List Value → mm_H → Option (Option Value × mm_H)) (nx : Nat) (L : mm_L) (st : List Value) (h : mm_H) (q : Nat × Nat × Option Nat) : Option mm_R := match q.2.2, mm_take q.2.1 [] st with
  | none, some (As, r) => mm_cs1 call nx L h q.1 As r
  | _, _ => none
def mm_ret (ret : Option FieldType) (ins : Jvm.ClassFile.Instr) (st : List Value) : Option (Option Value) := match ins with
  | .ireturn => (match ret, st with
    | some .int, [.int x] => some (some (.int x))
    | some .boolean, [.int x] => if vp_nar .boolean x = x then some (some (.int x)) else none
    | _, _ => none)
  | .areturn => (match ret, st with
    | some (.object _), [.ref x] => some (some (.ref x))
    | some (.object _), [.null] => some (some .null)
    | _, _ => none)
  | .lreturn => (match ret, st with
    | some .long, [.long x] => some (some (.long x))
    | _, _ => none)
  | .return_ => (match ret, st with
    | none, [] => some none
    | _, _ => none)
  | _ => none
def mm_tsw (lo hi : Int) (tg : List Nat) (L : mm_L) (st : List Value) (h : mm_H) : Option mm_R := match st, tg with
  | .int x :: r, t :: ts => if x.toInt < lo ∨ hi < x.toInt then mm_go t L r h else (match mm_nth ts (x.toInt - lo).toNat with
    | some t' => mm_go t' L r h
    | none => none)
  | _, _ => none
def mm_ex (call : Nat → List Value → mm_H → Option (Option Value × mm_H)) (scr : mm_X) (pool : List (Nat × mm_K)) (ins : Jvm.ClassFile.Instr) (nx : Nat) (tg : List Nat) (L : mm_L) (st : List Value) (h : mm_H) : Option mm_R := match ins with
  | .iconst n => mm_go nx L (.int (Int32.ofInt n) :: st) h
  | .bipush n => mm_go nx L (.int (Int8.ofInt n).toInt32 :: st) h
  | .sipush n => mm_go nx L (.int (Int16.ofInt n).toInt32 :: st) h
  | .lconst n => mm_go nx L (.long (Int64.ofNat n.val) :: st) h
  | .aconst_null => mm_go nx L (.null :: st) h
  | .ldc i => (match mm_look pool i with
    | some (.inr (.inl (.int v))) => mm_go nx L (.int v :: st) h
    | _ => none)
  | .ldc_w i => (match mm_look pool i with
    | some (.inr (.inl (.int v))) => mm_go nx L (.int v :: st) h
    | _ => none)
  | .ldc2_w i => (match mm_look pool i with
    | some (.inr (.inl (.long v))) => mm_go nx L (.long v :: st) h
    | _ => none)
  | .iload_n k => mm_ild nx L st h k.val
  | .iload i => mm_ild nx L st h i
  | .lload_n k => mm_lld nx L st h k.val
  | .lload i => mm_lld nx L st h i
  | .aload_n k => mm_rld nx L st h k.val
  | .aload i => mm_rld nx L st h i
  | .istore_n k => mm_ist nx L st h k.val
  | .istore i => mm_ist nx L st h i
  | .lstore_n k => mm_lst nx L st h k.val
  | .lstore i => mm_lst nx L st h i
  | .astore_n k => mm_rst nx L st h k.val
  | .astore i => mm_rst nx L st h i
  | .iinc i n => mm_inc nx L st h i (Int32.ofInt n)
  | .iadd => mm_ii nx L st h (fun x y => x + y)
  | .isub => mm_ii nx L st h (fun x y => x - y)
  | .imul => mm_ii nx L st h (fun x y => x * y)
  | .iand => mm_ii nx L st h (fun x y => x &&& y)
  | .ior => mm_ii nx L st h (fun x y => x ||| y)
  | .ixor => mm_ii nx L st h (fun x y => x ^^^ y)
  | .ishl => mm_ii nx L st h (fun x y => x <<< (y &&& 31))
  | .ishr => mm_ii nx L st h (fun x y => x >>> (y &&& 31))
  | .iushr => mm_ii nx L st h (fun x y => (x.toUInt32 >>> (y.toUInt32 &&& Int32.toUInt32 31)).toInt32)
  | .idiv => mm_iz nx L st h (fun x y => x / y)
  | .irem => mm_iz nx L st h (fun x y => x - x / y * y)
  | .ineg => (match st with
    | .int x :: r => mm_go nx L (.int (-x) :: r) h
    | _ => none)
  | .ladd => mm_ll nx L st h (fun x y => x + y)
  | .lsub => mm_ll nx L st h (fun x y => x - y)
  | .lmul => mm_ll nx L st h (fun x y => x * y)
  | .land => mm_ll nx L st h (fun x y => x &&& y)
  | .lor => mm_ll nx L st h (fun x y => x ||| y)
  | .lxor => mm_ll nx L st h (fun x y => x ^^^ y)
  | .ldiv => mm_lz nx L st h (fun x y => x / y)
  | .lrem => mm_lz nx L st h (fun x y => x - x / y * y)
  | .lshl => mm_li nx L st h (fun x y => x <<< (y.toInt64 &&& 63))
  | .lshr => mm_li nx L st h (fun x y => x >>> (y.toInt64 &&& 63))
  | .lneg => (match st with
    | .long x :: r => mm_go nx L (.long (-x) :: r) h
    | _ => none)
  | .lcmp => (match st with
    | .long y :: .long x :: r => mm_go nx L (.int (lg_cmp x y) :: r) h
    | _ => none)
  | .i2l => (match st with
    | .int x :: r => mm_go nx L (.long x.toInt64 :: r) h
    | _ => none)
  | .l2i => (match st with
    | .long x :: r => mm_go nx L (.int x.toInt32 :: r) h
    | _ => none)
  | .dup => (match st with
    | .int x :: r => mm_go nx L (.int x :: .int x :: r) h
    | .ref x :: r => mm_go nx L (.ref x :: .ref x :: r) h
    | _ => none)
  | .dup2 => (match st with
    | .int x :: .ref y :: r => mm_go nx L (.int x :: .ref y :: .int x :: .ref y :: r) h
    | _ => none)
  | .pop => (match st with
    | .int _ :: r => mm_go nx L r h
    | _ => none)
  | .goto _ => mm_to tg L st h
  | .ifCond c _ => (match st with
    | .int x :: r => mm_br c x 0 (mm_to tg L r h) (mm_go nx L r h)
    | _ => none)
  | .if_icmp c _ => (match st with
    | .int y :: .int x :: r => mm_br c x y (mm_to tg L r h) (mm_go nx L r h)
    | _ => none)
  | .ifnull _ => mm_nul nx tg L st h
  | .ifnonnull _ => mm_nnl nx tg L st h
  | .tableswitch _ lo hi _ => mm_tsw lo hi tg L st h
  | .iaload => mm_iald scr nx L st h
  | .laload => mm_lald nx L st h
  | .baload => mm_zald nx L st h
  | .iastore => mm_iast nx L st h
  | .lastore => mm_last nx L st h
  | .bastore => mm_zast nx L st h
  | .arraylength => mm_len scr nx L st h
  | .getfield i => (match mm_look pool i with
    | some (.inl q) => mm_gfd nx L st h q
    | _ => none)
  | .putfield i => (match mm_look pool i with
    | some (.inl q) => mm_pfd nx L st h q
    | _ => none)
  | .invokevirtual i => (match mm_look pool i with
    | some (.inr (.inr (.inl q))) => mm_ivv call nx L st h q
    | _ => none)
  | .invokestatic i => (match mm_look pool i with
    | some (.inr (.inr (.inl q))) => mm_ivs call nx L st h q
    | some (.inr (.inr (.inr 0))) => mm_max nx L st h
    | some (.inr (.inr (.inr 1))) => mm_min nx L st h
    | _ => none)
  | _ => none
def mm_lay : List Value → mm_L
  | [] => []
  | v :: t => match Nat.beq v.category 2 with
    | true => some v :: none :: mm_lay t
    | false => some v :: mm_lay t
def mm_pad : mm_L → Nat → mm_L
  | [], 0 => []
  | [], n + 1 => none :: mm_pad [] n
  | x :: l, 0 => x :: l
  | x :: l, n + 1 => x :: mm_pad l n
def mm_cal (G : List mm_M) (run : Nat → mm_L → mm_H → Option (Option Value × mm_H)) (j : Nat) (As : List Value) (g : mm_H) : Option (Option Value × mm_H) := match mm_nth G j with
  | none => none
  | some Mj => match Nat.ble (mm_lay As).length Mj.2.2.1 with
    | true => run j (mm_pad (mm_lay As) Mj.2.2.1) g
    | false => none
/-- a run: fuel, script, method, place, locals, stack, cells -/
def mm_run (G : List mm_M) : Nat → mm_X → Nat → Nat → mm_L → List Value → mm_H → Option (Option Value × mm_H)
  | 0, _, _, _, _, _, _ => none
  | n + 1, scr, k, pc, L, st, h => match mm_nth G k with
    | none => none
    | some M => match mm_nth M.1 pc with
      | some (some x) => (match mm_ret M.2.2.2 x.1 st with
        | some v => some (v, h)
        | none => match mm_ex (mm_cal G (fun j L g => mm_run G n none j 0 L [] g)) scr M.2.1 x.1 x.2.1 x.2.2 L st h with
          | some (pc', L', st', h') => mm_run G n scr k pc' L' st' h'
          | none => none)
      | _ => none
end
section
/-! THE SMALL MACHINE IS SOUND: a run of it is a walk of the real one. -/
def mm_cv (ρ : Nat → Nat) (b : Nat) : Value → Value
  | .ref i => .ref (ρ i)
  | .retAddr _ => .ref b
  | .int x => .int x
  | .long x => .long x
  | .float x => .float x
  | .double x => .double x
  | .null => .null
theorem mm_cv_cat (ρ : Nat → Nat) (b : Nat) (v : Value) : (mm_cv ρ b v).category = v.category := by cases v <;> rfl
def mm_co (ρ : Nat → Nat) (κ : Nat → ClassId) (b : Nat) (i : Nat) (c : mm_C) : Nat × va_E := match c with
  | .inl x => (ρ i, .inl (κ i, x.2))
  | .inr x => (ρ i, .inr (x.1, x.2.map (mm_cv ρ b)))
def mm_rep (ρ : Nat → Nat) (κ : Nat → ClassId) (b : Nat) (h : mm_H) : va_W := h.mapIdx (mm_co ρ κ b)
theorem mm_nth_eq {α : Type} (l : List α) (i : Nat) : mm_nth l i = l[i]? := by
  induction l generalizing i with
  | nil => simp [mm_nth]
  | cons x l ih => cases i with
    | zero => simp [mm_nth]
    | succ n => simp [mm_nth, ih]
theorem mm_put_eq {α : Type} {l l' : List α} {i : Nat} {v : α} (h : mm_put l i v = some l') : i < l.length ∧ l' = l.set i v := by
  induction l generalizing i l' with
  | nil => simp [mm_put] at h
  | cons x l ih => cases i with
    | zero =>
      simp only [mm_put] at h
      cases h
      exact ⟨by simp, by simp⟩
    | succ n =>
      simp only [mm_put] at h
      split at h
      · rename_i l1 e1
        cases h
        obtain ⟨h1, h2⟩ := ih e1
        subst h2
        exact ⟨by simp; omega, by simp⟩
      · cases h
theorem mm_rep_at {ρ : Nat → Nat} {κ : Nat → ClassId} {b : Nat} {h : mm_H} {i : Nat} {c : mm_C} (hc : mm_nth h i = some c) : (mm_rep ρ κ b h)[i]? = some (mm_co ρ κ b i c) := by
  rw [mm_nth_eq] at hc
  simp [mm_rep, hc]
theorem mm_rep_set {ρ : Nat → Nat} {κ : Nat → ClassId} {b : Nat} (h : mm_H) (i : Nat) (c : mm_C) : mm_rep ρ κ b (h.set i c) = (mm_rep ρ κ b h).set i (mm_co ρ κ b i c) := by
  apply List.ext_getElem?
  intro j
  unfold mm_rep
  rw [List.getElem?_mapIdx, List.getElem?_set, List.getElem?_set, List.length_mapIdx, List.getElem?_mapIdx]
  by_cases hij : i = j
  · subst hij
    by_cases hl : i < h.length
    · simp [hl]
    · simp [hl]
  · simp [hij]
def mm_ty (κ : Nat → ClassId) (h : mm_H) (U : State) : Prop := ∀ (i : Nat) (ty : FieldType) (a : vp_A), h[i]? = some (.inl (ty, a)) → ArrOfT U (κ i) ty ∧ va_RA U (κ i) ty
theorem mm_ty_moved {κ : Nat → ClassId} {h : mm_H} {u U : State} (hvm : u.vm.Alike U.vm) (hT : mm_ty κ h u) : mm_ty κ h U := fun i ty a hi => ⟨arrOfT_moved hvm (hT i ty a hi).1, (hT i ty a hi).2.moved hvm⟩
theorem mm_ty_seti {κ : Nat → ClassId} {h : mm_H} {U : State} {i : Nat} {ty : FieldType} {a a' : vp_A} (hT : mm_ty κ h U) (hc : mm_nth h i = some (.inl (ty, a))) : mm_ty κ (h.set i (.inl (ty, a'))) U := by
  intro j ty' x hj
  rw [List.getElem?_set] at hj
  by_cases e : i = j
  · subst e
    rw [if_pos rfl] at hj
    split at hj
    · cases hj
      exact hT i ty a (by rw [← mm_nth_eq]; exact hc)
    · cases hj
  · rw [if_neg e] at hj
    exact hT j ty' x hj
theorem mm_ty_setr {κ : Nat → ClassId} {h : mm_H} {U : State} {i : Nat} {q : Nat × List Value} (hT : mm_ty κ h U) : mm_ty κ (h.set i (.inr q)) U := by
  intro j ty' x hj
  rw [List.getElem?_set] at hj
  by_cases e : i = j
  · subst e
    rw [if_pos rfl] at hj
    split at hj
    · cases hj
    · cases hj
  · rw [if_neg e] at hj
    exact hT j ty' x hj
theorem mm_K1 {D : va_G} {cl : List vw_C} {κ : Nat → ClassId} {h : mm_H} {s : State} {i : Nat} {ty : FieldType} {a : vp_A} (hK : va_K D cl [] s) (hT : mm_ty κ h s) (e : mm_nth h i = some (.inl (ty, a))) : va_K D cl [(κ i, ty)] s := by
  refine ⟨hK.1, fun k q hk => ?_⟩
  cases k with
  | zero =>
    cases hk
    exact hT i ty a (by rw [← mm_nth_eq]; exact e)
  | succ n => simp at hk
/-- the locals -/
def mm_loc (ρ : Nat → Nat) (b nL : Nat) (ls : Array Slot) (L : mm_L) : Prop := ls.size = nL ∧ L.length = nL ∧ lv_wf ls ∧ ∀ (i : Nat) (v : Value), L[i]? = some (some v) → ls[i]? = some (.val (mm_cv ρ b v))
def mm_lv (ρ : Nat → Nat) (b : Nat) (L : mm_L) : List (Nat × Value) := (List.range L.length).filterMap (fun i => match L[i]? with
  | some (some v) => some (i, mm_cv ρ b v)
  | _ => none)
theorem mm_lv_mem {ρ : Nat → Nat} {b : Nat} {L : mm_L} {q : Nat × Value} : q ∈ mm_lv ρ b L ↔ ∃ v, L[q.1]? = some (some v) ∧ q.2 = mm_cv ρ b v := by
  constructor
  · intro h
    obtain ⟨i, hi, e1⟩ := List.mem_filterMap.mp h
    split at e1
    · rename_i v hv
      cases e1
      exact ⟨v, hv, rfl⟩
    · cases e1
  · intro h
    obtain ⟨v, h1, h2⟩ := h
    refine List.mem_filterMap.mpr ⟨q.1, List.mem_range.mpr (List.getElem?_eq_some_iff.mp h1).1, ?_⟩
    rw [h1]
    show some (q.1, mm_cv ρ b v) = some q
    rw [← h2]
theorem mm_loc_has {ρ : Nat → Nat} {b nL : Nat} {ls : Array Slot} {L : mm_L} (h : mm_loc ρ b nL ls L) : lv_has ls nL (mm_lv ρ b L) := ⟨h.1, h.2.2.1, fun q hq => by
  obtain ⟨v, h1, h2⟩ := mm_lv_mem.mp hq
  rw [h2]
  exact h.2.2.2 _ v h1⟩
theorem mm_cut_len (L : mm_L) (i : Nat) : (mm_cut L i).length = L.length := by
  unfold mm_cut
  split
  · rfl
  · unfold mm_cut1
    split <;> simp
theorem mm_cut_get (L : mm_L) (i j : Nat) (v : Value) (h : (mm_cut L i)[j]? = some (some v)) : L[j]? = some (some v) ∧ ¬ (j + 1 = i ∧ v.category = 2) := by
  unfold mm_cut at h
  split at h
  · exact ⟨h, fun q => by omega⟩
  · rename_i n
    unfold mm_cut1 at h
    rw [mm_nth_eq] at h
    split at h
    · rename_i x hx
      rw [List.getElem?_set] at h
      by_cases e : n = j
      · subst e
        rw [if_pos rfl] at h
        split at h <;> cases h
      · rw [if_neg e] at h
        exact ⟨h, fun q => by omega⟩
    · rename_i x hx
      rw [List.getElem?_set] at h
      by_cases e : n = j
      · subst e
        rw [if_pos rfl] at h
        split at h <;> cases h
      · rw [if_neg e] at h
        exact ⟨h, fun q => by omega⟩
    · rename_i h1 h2
      refine ⟨h, fun q => ?_⟩
      have e : j = n := by omega
      subst e
      cases v with
      | long x => exact h1 x h
      | double x => exact h2 x h
      | _ => exact absurd q.2 (by simp [Value.category])
theorem mm_st1_lt {L L' : mm_L} {i : Nat} {v : Value} (h : mm_st1 L i v = some L') : i < L.length := by
  have h1 := (mm_put_eq h).1
  rwa [mm_cut_len] at h1
theorem mm_st1_loc {ρ : Nat → Nat} {b nL : Nat} {ls' : Array Slot} {L L' : mm_L} {i : Nat} {v : Value} (hn : L.length = nL) (hL : mm_st1 L i v = some L') (h : lv_has ls' nL ((i, mm_cv ρ b v) :: (mm_lv ρ b L).filter (fun q => !(q.1 == i) && !(q.1 + 1 == i && q.2.category == 2)))) : mm_loc ρ b nL ls' L' := by
  obtain ⟨h1, h2⟩ := mm_put_eq hL
  subst h2
  refine ⟨h.1, by rw [List.length_set, mm_cut_len]; exact hn, h.2.1, fun j w hj => ?_⟩
  rw [List.getElem?_set] at hj
  by_cases e : i = j
  · subst e
    rw [if_pos rfl, if_pos h1] at hj
    cases hj
    exact h.2.2 (i, _) List.mem_cons_self
  · rw [if_neg e] at hj
    obtain ⟨a1, a2⟩ := mm_cut_get L i j w hj
    refine h.2.2 (j, mm_cv ρ b w) (List.mem_cons_of_mem _ (List.mem_filter.mpr ⟨mm_lv_mem.mpr ⟨w, a1, rfl⟩, ?_⟩))
    have e' : ¬ j = i := fun q => e q.symm
    by_cases c1 : j + 1 = i
    · have c2 : ¬ w.category = 2 := fun q => a2 ⟨c1, q⟩
      simp [e', c2, mm_cv_cat]
    · simp [e', c1]
theorem mm_st2_lt {L L' : mm_L} {i : Nat} {v : Value} (h : mm_st2 L i v = some L') : i + 1 < L.length := by
  unfold mm_st2 at h
  split at h
  · rename_i L1 e1
    have h1 := (mm_put_eq e1).1
    rwa [mm_cut_len] at h1
  · cases h
theorem mm_st2_loc {ρ : Nat → Nat} {b nL : Nat} {ls' : Array Slot} {L L' : mm_L} {i : Nat} {v : Value} (hn : L.length = nL) (hL : mm_st2 L i v = some L') (h : lv_has ls' nL ((i, mm_cv ρ b v) :: (mm_lv ρ b L).filter (fun q => !(q.1 == i) && (!(q.1 == i + 1) && !(q.1 + 1 == i && q.2.category == 2))))) : mm_loc ρ b nL ls' L' := by
  unfold mm_st2 at hL
  split at hL
  · rename_i L1 e1
    obtain ⟨h3, h4⟩ := mm_put_eq e1
    obtain ⟨h1, h2⟩ := mm_put_eq hL
    subst h4
    subst h2
    refine ⟨h.1, by rw [List.length_set, List.length_set, mm_cut_len]; exact hn, h.2.1, fun j w hj => ?_⟩
    rw [List.getElem?_set] at hj
    by_cases e : i = j
    · subst e
      rw [if_pos rfl, if_pos h1] at hj
      cases hj
      exact h.2.2 (i, _) List.mem_cons_self
    · rw [if_neg e, List.getElem?_set] at hj
      by_cases e2 : i + 1 = j
      · subst e2
        rw [if_pos rfl, if_pos h3] at hj
        cases hj
      · rw [if_neg e2] at hj
        obtain ⟨a1, a2⟩ := mm_cut_get L i j w hj
        refine h.2.2 (j, mm_cv ρ b w) (List.mem_cons_of_mem _ (List.mem_filter.mpr ⟨mm_lv_mem.mpr ⟨w, a1, rfl⟩, ?_⟩))
        have e' : ¬ j = i := fun q => e q.symm
        have e2' : ¬ j = i + 1 := fun q => e2 q.symm
        by_cases c1 : j + 1 = i
        · have c2 : ¬ w.category = 2 := fun q => a2 ⟨c1, q⟩
          simp [e', e2', c2, mm_cv_cat]
        · simp [e', e2', c1]
  · cases hL
theorem mm_take_eq : ∀ (n : Nat) (acc st As r : List Value), mm_take n acc st = some (As, r) → ∃ B : List Value, As = B.reverse ++ acc ∧ st = B ++ r ∧ B.length = n
  | 0, acc, st, As, r, h => by
    simp only [mm_take] at h
    cases h
    exact ⟨[], rfl, rfl, rfl⟩
  | n + 1, acc, v :: st, As, r, h => by
    simp only [mm_take] at h
    obtain ⟨B, h1, h2, h3⟩ := mm_take_eq n (v :: acc) st As r h
    exact ⟨v :: B, by rw [h1]; simp, by rw [h2]; rfl, by simp [h3]⟩
  | n + 1, acc, [], As, r, h => by
    simp only [mm_take] at h
    cases h
theorem mm_cat_sum (ρ : Nat → Nat) (b : Nat) (r : List Value) : ((r.map (mm_cv ρ b)).map fun v => v.category).sum = mm_cat r := by
  induction r with
  | nil => rfl
  | cons v r ih =>
    simp only [List.map_cons, List.sum_cons, mm_cat, mm_cv_cat]
    rw [ih]
/-- an instruction's width, its targets, and that it stands there -/
def mm_wid (pc : Nat) (ins : Jvm.ClassFile.Instr) : Nat := match ins with
  | .bipush _ => 2
  | .ldc _ => 2
  | .iload _ => 2
  | .lload _ => 2
  | .aload _ => 2
  | .istore _ => 2
  | .lstore _ => 2
  | .astore _ => 2
  | .sipush _ => 3
  | .ldc2_w _ => 3
  | .ldc_w _ => 3
  | .iinc _ _ => 3
  | .goto _ => 3
  | .ifCond _ _ => 3
  | .if_icmp _ _ => 3
  | .ifnull _ => 3
  | .ifnonnull _ => 3
  | .getfield _ => 3
  | .putfield _ => 3
  | .invokevirtual _ => 3
  | .invokestatic _ => 3
  | .invokespecial _ => 3
  | .new _ => 3
  | .newarray _ => 2
  | .tableswitch _ _ _ offs => 1 + (3 - pc % 4) + 12 + 4 * offs.size
  | _ => 1
def mm_tg1 (pc : Nat) (o : Int) (tg : List Nat) : Bool := match tg with
  | [t] => decide ((pc : Int) + o = (t : Int))
  | _ => false
def mm_tgok (pc : Nat) (ins : Jvm.ClassFile.Instr) (tg : List Nat) : Bool := match ins with
  | .goto o => mm_tg1 pc o tg
  | .ifCond _ o => mm_tg1 pc o tg
  | .if_icmp _ o => mm_tg1 pc o tg
  | .ifnull o => mm_tg1 pc o tg
  | .ifnonnull o => mm_tg1 pc o tg
  | .tableswitch d _ _ offs => (match tg with
    | t :: ts => decide ((pc : Int) + d = (t : Int)) && decide (ts.map (fun t : Nat => (t : Int)) = offs.toList.map (fun o => (pc : Int) + o))
    | _ => false)
  | _ => true
def mm_chk (cc : ByteArray) (pc : Nat) (x : mm_I) : Bool := decide (decode cc pc = .ok (x.1, mm_wid pc x.1)) && (decide (x.2.1 = pc + mm_wid pc x.1) && mm_tgok pc x.1 x.2.2)
theorem mm_chk_sp {cc : ByteArray} {pc nx : Nat} {ins : Jvm.ClassFile.Instr} {tg : List Nat} (h : mm_chk cc pc (ins, nx, tg) = true) : decode cc pc = .ok (ins, mm_wid pc ins) ∧ nx = pc + mm_wid pc ins ∧ mm_tgok pc ins tg = true := by
  simp only [mm_chk, Bool.and_eq_true, decide_eq_true_eq] at h
  exact h
theorem mm_narz (x : Int32) : narrow .boolean (.int x) = .int (vp_nar .boolean x) := by
  unfold vp_nar
  cases hz : narrow .boolean (.int x) <;> simp_all [narrow]
theorem mm_tg1_sp {pc : Nat} {o : Int} {tg : List Nat} (h : mm_tg1 pc o tg = true) : ∃ t : Nat, tg = [t] ∧ (pc : Int) + o = (t : Int) := by
  unfold mm_tg1 at h
  split at h
  · rename_i t
    exact ⟨t, rfl, of_decide_eq_true h⟩
  · cases h

section MMW
variable {p : Program} {l : Launch} {e : Env} {R : Room} {s : State} {m : MethodId} {args : Array Value} {below : List Frame} {meth : Method} {c : Code} {cells slots : Nat} {Q : State → Prop} {cc : ByteArray} {D : va_G} {cl : List vw_C} {A : Nat → Prop} {ρ : Nat → Nat} {κ : Nat → ClassId} {b nL : Nat} {H : Heap} {locs : List Loc} {ls : Array Slot} {pc nx : Nat} {L : mm_L} {st : List Value} {h : mm_H} {X : mm_R} {tg : List Nat}
abbrev mm_At (D : va_G) (cl : List vw_C) (A : Nat → Prop) (ρ : Nat → Nat) (κ : Nat → ClassId) (b nL : Nat) (s : State) (H : Heap) (locs : List Loc) (ls : Array Slot) (L : mm_L) (h : mm_H) : Prop := va_P D cl (mm_rep ρ κ b h) H ∧ va_D A (mm_rep ρ κ b h) ∧ mm_ty κ h s ∧ va_S A s.heap H locs ∧ mm_loc ρ b nL ls L
abbrev mm_kk (p : Program) (l : Launch) (e : Env) (R : Room) (s : State) (m : MethodId) (args : Array Value) (below : List Frame) (meth : Method) (c : Code) (cells slots : Nat) (Q : State → Prop) (D : va_G) (cl : List vw_C) (A : Nat → Prop) (ρ : Nat → Nat) (κ : Nat → ClassId) (b nL : Nat) (X : mm_R) : Prop := ∀ (H : Heap) (locs : List Loc) (ls : Array Slot), mm_At D cl A ρ κ b nL s H locs ls X.2.1 X.2.2.2 → W p l e R s m args below meth c H locs cells slots Q (F0 m X.1 ls (X.2.2.1.map (mm_cv ρ b)))

theorem mm_s_iadd (hx : p.tables.exec = Jvm.exec) (hb : c.code = cc) (hc : mm_chk cc pc (.iadd, nx, tg) = true) (hex : mm_ii nx L st h (fun x y => x + y) = some X) (hA : mm_At D cl A ρ κ b nL s H locs ls L h) (kk : mm_kk p l e R s m args below meth c cells slots Q D cl A ρ κ b nL X) : W p l e R s m args below meth c H locs cells slots Q (F0 m pc ls (st.map (mm_cv ρ b))) := by
  obtain ⟨hd, rfl, htg⟩ := mm_chk_sp hc
  unfold mm_ii at hex
  split at hex
  · cases hex
    exact lv_iadd hx hb hd (kk H locs ls hA)
  · cases hex
theorem mm_s_isub (hx : p.tables.exec = Jvm.exec) (hb : c.code = cc) (hc : mm_chk cc pc (.isub, nx, tg) = true) (hex : mm_ii nx L st h (fun x y => x - y) = some X) (hA : mm_At D cl A ρ κ b nL s H locs ls L h) (kk : mm_kk p l e R s m args below meth c cells slots Q D cl A ρ κ b nL X) : W p l e R s m args below meth c H locs cells slots Q (F0 m pc ls (st.map (mm_cv ρ b))) := by
  obtain ⟨hd, rfl, htg⟩ := mm_chk_sp hc
  unfold mm_ii at hex
  split at hex
  · cases hex
    exact lv_isub hx hb hd (kk H locs ls hA)
  · cases hex
theorem mm_s_imul (hx : p.tables.exec = Jvm.exec) (hb : c.code = cc) (hc : mm_chk cc pc (.imul, nx, tg) = true) (hex : mm_ii nx L st h (fun x y => x * y) = some X) (hA : mm_At D cl A ρ κ b nL s H locs ls L h) (kk : mm_kk p l e R s m args below meth c cells slots Q D cl A ρ κ b nL X) : W p l e R s m args below meth c H locs cells slots Q (F0 m pc ls (st.map (mm_cv ρ b))) := by
  obtain ⟨hd, rfl, htg⟩ := mm_chk_sp hc
  unfold mm_ii at hex
  split at hex
  · cases hex
    exact lv_imul hx hb hd (kk H locs ls hA)
  · cases hex
theorem mm_s_iand (hx : p.tables.exec = Jvm.exec) (hb : c.code = cc) (hc : mm_chk cc pc (.iand, nx, tg) = true) (hex : mm_ii nx L st h (fun x y => x &&& y) = some X) (hA : mm_At D cl A ρ κ b nL s H locs ls L h) (kk : mm_kk p l e R s m args below meth c cells slots Q D cl A ρ κ b nL X) : W p l e R s m args below meth c H locs cells slots Q (F0 m pc ls (st.map (mm_cv ρ b))) := by
  obtain ⟨hd, rfl, htg⟩ := mm_chk_sp hc
  unfold mm_ii at hex
  split at hex
  · cases hex
    exact lv_iand hx hb hd (kk H locs ls hA)
  · cases hex
theorem mm_s_ior (hx : p.tables.exec = Jvm.exec) (hb : c.code = cc) (hc : mm_chk cc pc (.ior, nx, tg) = true) (hex : mm_ii nx L st h (fun x y => x ||| y) = some X) (hA : mm_At D cl A ρ κ b nL s H locs ls L h) (kk : mm_kk p l e R s m args below meth c cells slots Q D cl A ρ κ b nL X) : W p l e R s m args below meth c H locs cells slots Q (F0 m pc ls (st.map (mm_cv ρ b))) := by
  obtain ⟨hd, rfl, htg⟩ := mm_chk_sp hc
  unfold mm_ii at hex
  split at hex
  · cases hex
    exact lv_ior hx hb hd (kk H locs ls hA)
  · cases hex
theorem mm_s_ixor (hx : p.tables.exec = Jvm.exec) (hb : c.code = cc) (hc : mm_chk cc pc (.ixor, nx, tg) = true) (hex : mm_ii nx L st h (fun x y => x ^^^ y) = some X) (hA : mm_At D cl A ρ κ b nL s H locs ls L h) (kk : mm_kk p l e R s m args below meth c cells slots Q D cl A ρ κ b nL X) : W p l e R s m args below meth c H locs cells slots Q (F0 m pc ls (st.map (mm_cv ρ b))) := by
  obtain ⟨hd, rfl, htg⟩ := mm_chk_sp hc
  unfold mm_ii at hex
  split at hex
  · cases hex
    exact lv_ixor hx hb hd (kk H locs ls hA)
  · cases hex
theorem mm_s_ishl (hx : p.tables.exec = Jvm.exec) (hb : c.code = cc) (hc : mm_chk cc pc (.ishl, nx, tg) = true) (hex : mm_ii nx L st h (fun x y => x <<< (y &&& 31)) = some X) (hA : mm_At D cl A ρ κ b nL s H locs ls L h) (kk : mm_kk p l e R s m args below meth c cells slots Q D cl A ρ κ b nL X) : W p l e R s m args below meth c H locs cells slots Q (F0 m pc ls (st.map (mm_cv ρ b))) := by
  obtain ⟨hd, rfl, htg⟩ := mm_chk_sp hc
  unfold mm_ii at hex
  split at hex
  · cases hex
    exact lv_ishl hx hb hd (kk H locs ls hA)
  · cases hex
theorem mm_s_ishr (hx : p.tables.exec = Jvm.exec) (hb : c.code = cc) (hc : mm_chk cc pc (.ishr, nx, tg) = true) (hex : mm_ii nx L st h (fun x y => x >>> (y &&& 31)) = some X) (hA : mm_At D cl A ρ κ b nL s H locs ls L h) (kk : mm_kk p l e R s m args below meth c cells slots Q D cl A ρ κ b nL X) : W p l e R s m args below meth c H locs cells slots Q (F0 m pc ls (st.map (mm_cv ρ b))) := by
  obtain ⟨hd, rfl, htg⟩ := mm_chk_sp hc
  unfold mm_ii at hex
  split at hex
  · cases hex
    exact lv_ishr hx hb hd (kk H locs ls hA)
  · cases hex
theorem mm_s_iushr (hx : p.tables.exec = Jvm.exec) (hb : c.code = cc) (hc : mm_chk cc pc (.iushr, nx, tg) = true) (hex : mm_ii nx L st h (fun x y => (x.toUInt32 >>> (y.toUInt32 &&& Int32.toUInt32 31)).toInt32) = some X) (hA : mm_At D cl A ρ κ b nL s H locs ls L h) (kk : mm_kk p l e R s m args below meth c cells slots Q D cl A ρ κ b nL X) : W p l e R s m args below meth c H locs cells slots Q (F0 m pc ls (st.map (mm_cv ρ b))) := by
  obtain ⟨hd, rfl, htg⟩ := mm_chk_sp hc
  unfold mm_ii at hex
  split at hex
  · cases hex
    exact lv_iushr hx hb hd rfl (kk H locs ls hA)
  · cases hex
theorem mm_s_ladd (hx : p.tables.exec = Jvm.exec) (hb : c.code = cc) (hc : mm_chk cc pc (.ladd, nx, tg) = true) (hex : mm_ll nx L st h (fun x y => x + y) = some X) (hA : mm_At D cl A ρ κ b nL s H locs ls L h) (kk : mm_kk p l e R s m args below meth c cells slots Q D cl A ρ κ b nL X) : W p l e R s m args below meth c H locs cells slots Q (F0 m pc ls (st.map (mm_cv ρ b))) := by
  obtain ⟨hd, rfl, htg⟩ := mm_chk_sp hc
  unfold mm_ll at hex
  split at hex
  · cases hex
    exact lv_ladd hx hb hd (kk H locs ls hA)
  · cases hex
theorem mm_s_lsub (hx : p.tables.exec = Jvm.exec) (hb : c.code = cc) (hc : mm_chk cc pc (.lsub, nx, tg) = true) (hex : mm_ll nx L st h (fun x y => x - y) = some X) (hA : mm_At D cl A ρ κ b nL s H locs ls L h) (kk : mm_kk p l e R s m args below meth c cells slots Q D cl A ρ κ b nL X) : W p l e R s m args below meth c H locs cells slots Q (F0 m pc ls (st.map (mm_cv ρ b))) := by
  obtain ⟨hd, rfl, htg⟩ := mm_chk_sp hc
  unfold mm_ll at hex
  split at hex
  · cases hex
    exact lv_lsub hx hb hd (kk H locs ls hA)
  · cases hex
theorem mm_s_lmul (hx : p.tables.exec = Jvm.exec) (hb : c.code = cc) (hc : mm_chk cc pc (.lmul, nx, tg) = true) (hex : mm_ll nx L st h (fun x y => x * y) = some X) (hA : mm_At D cl A ρ κ b nL s H locs ls L h) (kk : mm_kk p l e R s m args below meth c cells slots Q D cl A ρ κ b nL X) : W p l e R s m args below meth c H locs cells slots Q (F0 m pc ls (st.map (mm_cv ρ b))) := by
  obtain ⟨hd, rfl, htg⟩ := mm_chk_sp hc
  unfold mm_ll at hex
  split at hex
  · cases hex
    exact lv_lmul hx hb hd (kk H locs ls hA)
  · cases hex
theorem mm_s_land (hx : p.tables.exec = Jvm.exec) (hb : c.code = cc) (hc : mm_chk cc pc (.land, nx, tg) = true) (hex : mm_ll nx L st h (fun x y => x &&& y) = some X) (hA : mm_At D cl A ρ κ b nL s H locs ls L h) (kk : mm_kk p l e R s m args below meth c cells slots Q D cl A ρ κ b nL X) : W p l e R s m args below meth c H locs cells slots Q (F0 m pc ls (st.map (mm_cv ρ b))) := by
  obtain ⟨hd, rfl, htg⟩ := mm_chk_sp hc
  unfold mm_ll at hex
  split at hex
  · cases hex
    exact lv_land hx hb hd (kk H locs ls hA)
  · cases hex
theorem mm_s_lor (hx : p.tables.exec = Jvm.exec) (hb : c.code = cc) (hc : mm_chk cc pc (.lor, nx, tg) = true) (hex : mm_ll nx L st h (fun x y => x ||| y) = some X) (hA : mm_At D cl A ρ κ b nL s H locs ls L h) (kk : mm_kk p l e R s m args below meth c cells slots Q D cl A ρ κ b nL X) : W p l e R s m args below meth c H locs cells slots Q (F0 m pc ls (st.map (mm_cv ρ b))) := by
  obtain ⟨hd, rfl, htg⟩ := mm_chk_sp hc
  unfold mm_ll at hex
  split at hex
  · cases hex
    exact lv_lor hx hb hd (kk H locs ls hA)
  · cases hex
theorem mm_s_lxor (hx : p.tables.exec = Jvm.exec) (hb : c.code = cc) (hc : mm_chk cc pc (.lxor, nx, tg) = true) (hex : mm_ll nx L st h (fun x y => x ^^^ y) = some X) (hA : mm_At D cl A ρ κ b nL s H locs ls L h) (kk : mm_kk p l e R s m args below meth c cells slots Q D cl A ρ κ b nL X) : W p l e R s m args below meth c H locs cells slots Q (F0 m pc ls (st.map (mm_cv ρ b))) := by
  obtain ⟨hd, rfl, htg⟩ := mm_chk_sp hc
  unfold mm_ll at hex
  split at hex
  · cases hex
    exact lv_lxor hx hb hd (kk H locs ls hA)
  · cases hex
theorem mm_s_idiv (hx : p.tables.exec = Jvm.exec) (hb : c.code = cc) (hc : mm_chk cc pc (.idiv, nx, tg) = true) (hex : mm_iz nx L st h (fun x y => x / y) = some X) (hA : mm_At D cl A ρ κ b nL s H locs ls L h) (kk : mm_kk p l e R s m args below meth c cells slots Q D cl A ρ κ b nL X) : W p l e R s m args below meth c H locs cells slots Q (F0 m pc ls (st.map (mm_cv ρ b))) := by
  obtain ⟨hd, rfl, htg⟩ := mm_chk_sp hc
  unfold mm_iz at hex
  split at hex
  · split at hex
    · cases hex
    · rename_i hne
      cases hex
      exact lv_idiv hx hb hd hne (kk H locs ls hA)
  · cases hex
theorem mm_s_irem (hx : p.tables.exec = Jvm.exec) (hb : c.code = cc) (hc : mm_chk cc pc (.irem, nx, tg) = true) (hex : mm_iz nx L st h (fun x y => x - x / y * y) = some X) (hA : mm_At D cl A ρ κ b nL s H locs ls L h) (kk : mm_kk p l e R s m args below meth c cells slots Q D cl A ρ κ b nL X) : W p l e R s m args below meth c H locs cells slots Q (F0 m pc ls (st.map (mm_cv ρ b))) := by
  obtain ⟨hd, rfl, htg⟩ := mm_chk_sp hc
  unfold mm_iz at hex
  split at hex
  · split at hex
    · cases hex
    · rename_i hne
      cases hex
      exact lv_irem hx hb hd hne (kk H locs ls hA)
  · cases hex
theorem mm_s_ldiv (hx : p.tables.exec = Jvm.exec) (hb : c.code = cc) (hc : mm_chk cc pc (.ldiv, nx, tg) = true) (hex : mm_lz nx L st h (fun x y => x / y) = some X) (hA : mm_At D cl A ρ κ b nL s H locs ls L h) (kk : mm_kk p l e R s m args below meth c cells slots Q D cl A ρ κ b nL X) : W p l e R s m args below meth c H locs cells slots Q (F0 m pc ls (st.map (mm_cv ρ b))) := by
  obtain ⟨hd, rfl, htg⟩ := mm_chk_sp hc
  unfold mm_lz at hex
  split at hex
  · split at hex
    · cases hex
    · rename_i hne
      cases hex
      exact lv_ldiv hx hb hd hne (kk H locs ls hA)
  · cases hex
theorem mm_s_lrem (hx : p.tables.exec = Jvm.exec) (hb : c.code = cc) (hc : mm_chk cc pc (.lrem, nx, tg) = true) (hex : mm_lz nx L st h (fun x y => x - x / y * y) = some X) (hA : mm_At D cl A ρ κ b nL s H locs ls L h) (kk : mm_kk p l e R s m args below meth c cells slots Q D cl A ρ κ b nL X) : W p l e R s m args below meth c H locs cells slots Q (F0 m pc ls (st.map (mm_cv ρ b))) := by
  obtain ⟨hd, rfl, htg⟩ := mm_chk_sp hc
  unfold mm_lz at hex
  split at hex
  · split at hex
    · cases hex
    · rename_i hne
      cases hex
      exact lv_lrem hx hb hd hne (kk H locs ls hA)
  · cases hex
theorem mm_s_lshl (hx : p.tables.exec = Jvm.exec) (hb : c.code = cc) (hc : mm_chk cc pc (.lshl, nx, tg) = true) (hex : mm_li nx L st h (fun x y => x <<< (y.toInt64 &&& 63)) = some X) (hA : mm_At D cl A ρ κ b nL s H locs ls L h) (kk : mm_kk p l e R s m args below meth c cells slots Q D cl A ρ κ b nL X) : W p l e R s m args below meth c H locs cells slots Q (F0 m pc ls (st.map (mm_cv ρ b))) := by
  obtain ⟨hd, rfl, htg⟩ := mm_chk_sp hc
  unfold mm_li at hex
  split at hex
  · cases hex
    exact lv_lshl hx hb hd rfl (kk H locs ls hA)
  · cases hex
theorem mm_s_lshr (hx : p.tables.exec = Jvm.exec) (hb : c.code = cc) (hc : mm_chk cc pc (.lshr, nx, tg) = true) (hex : mm_li nx L st h (fun x y => x >>> (y.toInt64 &&& 63)) = some X) (hA : mm_At D cl A ρ κ b nL s H locs ls L h) (kk : mm_kk p l e R s m args below meth c cells slots Q D cl A ρ κ b nL X) : W p l e R s m args below meth c H locs cells slots Q (F0 m pc ls (st.map (mm_cv ρ b))) := by
  obtain ⟨hd, rfl, htg⟩ := mm_chk_sp hc
  unfold mm_li at hex
  split at hex
  · cases hex
    exact lv_lshr hx hb hd rfl (kk H locs ls hA)
  · cases hex
theorem mm_s_iload_n {k : Fin 4} (hx : p.tables.exec = Jvm.exec) (hb : c.code = cc) (hc : mm_chk cc pc ((.iload_n k), nx, tg) = true) (hex : mm_ild nx L st h k.val = some X) (hA : mm_At D cl A ρ κ b nL s H locs ls L h) (kk : mm_kk p l e R s m args below meth c cells slots Q D cl A ρ κ b nL X) : W p l e R s m args below meth c H locs cells slots Q (F0 m pc ls (st.map (mm_cv ρ b))) := by
  obtain ⟨hd, rfl, htg⟩ := mm_chk_sp hc
  unfold mm_ild at hex
  rw [mm_nth_eq] at hex
  split at hex
  · rename_i x ex
    cases hex
    exact lv_iload_n hx hb hd rfl (hA.2.2.2.2.2.2.2 _ _ ex) (kk H locs ls hA)
  · cases hex
theorem mm_s_iload {i : Nat} (hx : p.tables.exec = Jvm.exec) (hb : c.code = cc) (hc : mm_chk cc pc ((.iload i), nx, tg) = true) (hex : mm_ild nx L st h i = some X) (hA : mm_At D cl A ρ κ b nL s H locs ls L h) (kk : mm_kk p l e R s m args below meth c cells slots Q D cl A ρ κ b nL X) : W p l e R s m args below meth c H locs cells slots Q (F0 m pc ls (st.map (mm_cv ρ b))) := by
  obtain ⟨hd, rfl, htg⟩ := mm_chk_sp hc
  unfold mm_ild at hex
  rw [mm_nth_eq] at hex
  split at hex
  · rename_i x ex
    cases hex
    exact lv_iload hx hb hd (hA.2.2.2.2.2.2.2 _ _ ex) (kk H locs ls hA)
  · cases hex
theorem mm_s_lload_n {k : Fin 4} (hx : p.tables.exec = Jvm.exec) (hb : c.code = cc) (hc : mm_chk cc pc ((.lload_n k), nx, tg) = true) (hex : mm_lld nx L st h k.val = some X) (hA : mm_At D cl A ρ κ b nL s H locs ls L h) (kk : mm_kk p l e R s m args below meth c cells slots Q D cl A ρ κ b nL X) : W p l e R s m args below meth c H locs cells slots Q (F0 m pc ls (st.map (mm_cv ρ b))) := by
  obtain ⟨hd, rfl, htg⟩ := mm_chk_sp hc
  unfold mm_lld at hex
  rw [mm_nth_eq] at hex
  split at hex
  · rename_i x ex
    cases hex
    exact lv_lload_n hx hb hd rfl (hA.2.2.2.2.2.2.2 _ _ ex) (kk H locs ls hA)
  · cases hex
theorem mm_s_lload {i : Nat} (hx : p.tables.exec = Jvm.exec) (hb : c.code = cc) (hc : mm_chk cc pc ((.lload i), nx, tg) = true) (hex : mm_lld nx L st h i = some X) (hA : mm_At D cl A ρ κ b nL s H locs ls L h) (kk : mm_kk p l e R s m args below meth c cells slots Q D cl A ρ κ b nL X) : W p l e R s m args below meth c H locs cells slots Q (F0 m pc ls (st.map (mm_cv ρ b))) := by
  obtain ⟨hd, rfl, htg⟩ := mm_chk_sp hc
  unfold mm_lld at hex
  rw [mm_nth_eq] at hex
  split at hex
  · rename_i x ex
    cases hex
    exact lv_lload hx hb hd (hA.2.2.2.2.2.2.2 _ _ ex) (kk H locs ls hA)
  · cases hex
theorem mm_s_aload_n {k : Fin 4} (hx : p.tables.exec = Jvm.exec) (hb : c.code = cc) (hc : mm_chk cc pc ((.aload_n k), nx, tg) = true) (hex : mm_rld nx L st h k.val = some X) (hA : mm_At D cl A ρ κ b nL s H locs ls L h) (kk : mm_kk p l e R s m args below meth c cells slots Q D cl A ρ κ b nL X) : W p l e R s m args below meth c H locs cells slots Q (F0 m pc ls (st.map (mm_cv ρ b))) := by
  obtain ⟨hd, rfl, htg⟩ := mm_chk_sp hc
  unfold mm_rld at hex
  rw [mm_nth_eq] at hex
  split at hex
  · rename_i x ex
    cases hex
    exact lv_aload_n hx hb hd rfl (hA.2.2.2.2.2.2.2 _ _ ex) (kk H locs ls hA)
  · rename_i ex
    cases hex
    exact lv_aload_nN hx hb hd rfl (hA.2.2.2.2.2.2.2 _ _ ex) (kk H locs ls hA)
  · rename_i x ex
    cases hex
    exact lv_aload_n hx hb hd rfl (hA.2.2.2.2.2.2.2 _ _ ex) (kk H locs ls hA)
  · cases hex
theorem mm_s_aload {i : Nat} (hx : p.tables.exec = Jvm.exec) (hb : c.code = cc) (hc : mm_chk cc pc ((.aload i), nx, tg) = true) (hex : mm_rld nx L st h i = some X) (hA : mm_At D cl A ρ κ b nL s H locs ls L h) (kk : mm_kk p l e R s m args below meth c cells slots Q D cl A ρ κ b nL X) : W p l e R s m args below meth c H locs cells slots Q (F0 m pc ls (st.map (mm_cv ρ b))) := by
  obtain ⟨hd, rfl, htg⟩ := mm_chk_sp hc
  unfold mm_rld at hex
  rw [mm_nth_eq] at hex
  split at hex
  · rename_i x ex
    cases hex
    exact lv_aload hx hb hd (hA.2.2.2.2.2.2.2 _ _ ex) (kk H locs ls hA)
  · rename_i ex
    cases hex
    exact lv_aloadN hx hb hd (hA.2.2.2.2.2.2.2 _ _ ex) (kk H locs ls hA)
  · rename_i x ex
    cases hex
    exact lv_aload hx hb hd (hA.2.2.2.2.2.2.2 _ _ ex) (kk H locs ls hA)
  · cases hex
theorem mm_s_istore_n {k : Fin 4} (hx : p.tables.exec = Jvm.exec) (hb : c.code = cc) (hc : mm_chk cc pc ((.istore_n k), nx, tg) = true) (hex : mm_ist nx L st h k.val = some X) (hA : mm_At D cl A ρ κ b nL s H locs ls L h) (kk : mm_kk p l e R s m args below meth c cells slots Q D cl A ρ κ b nL X) : W p l e R s m args below meth c H locs cells slots Q (F0 m pc ls (st.map (mm_cv ρ b))) := by
  obtain ⟨hd, rfl, htg⟩ := mm_chk_sp hc
  unfold mm_ist at hex
  split at hex
  · unfold mm_goL at hex
    split at hex
    · rename_i L' e1
      cases hex
      exact lv_istore_n hx hb hd rfl (mm_loc_has hA.2.2.2.2) (by rw [← hA.2.2.2.2.2.1]; exact mm_st1_lt e1) rfl (fun ls' hl' => kk H locs ls' ⟨hA.1, hA.2.1, hA.2.2.1, hA.2.2.2.1, mm_st1_loc hA.2.2.2.2.2.1 e1 hl'⟩)
    · cases hex
  · cases hex
theorem mm_s_istore {i : Nat} (hx : p.tables.exec = Jvm.exec) (hb : c.code = cc) (hc : mm_chk cc pc ((.istore i), nx, tg) = true) (hex : mm_ist nx L st h i = some X) (hA : mm_At D cl A ρ κ b nL s H locs ls L h) (kk : mm_kk p l e R s m args below meth c cells slots Q D cl A ρ κ b nL X) : W p l e R s m args below meth c H locs cells slots Q (F0 m pc ls (st.map (mm_cv ρ b))) := by
  obtain ⟨hd, rfl, htg⟩ := mm_chk_sp hc
  unfold mm_ist at hex
  split at hex
  · unfold mm_goL at hex
    split at hex
    · rename_i L' e1
      cases hex
      exact lv_istore hx hb hd (mm_loc_has hA.2.2.2.2) (by rw [← hA.2.2.2.2.2.1]; exact mm_st1_lt e1) rfl (fun ls' hl' => kk H locs ls' ⟨hA.1, hA.2.1, hA.2.2.1, hA.2.2.2.1, mm_st1_loc hA.2.2.2.2.2.1 e1 hl'⟩)
    · cases hex
  · cases hex
theorem mm_s_lstore_n {k : Fin 4} (hx : p.tables.exec = Jvm.exec) (hb : c.code = cc) (hc : mm_chk cc pc ((.lstore_n k), nx, tg) = true) (hex : mm_lst nx L st h k.val = some X) (hA : mm_At D cl A ρ κ b nL s H locs ls L h) (kk : mm_kk p l e R s m args below meth c cells slots Q D cl A ρ κ b nL X) : W p l e R s m args below meth c H locs cells slots Q (F0 m pc ls (st.map (mm_cv ρ b))) := by
  obtain ⟨hd, rfl, htg⟩ := mm_chk_sp hc
  unfold mm_lst at hex
  split at hex
  · unfold mm_goL at hex
    split at hex
    · rename_i L' e1
      cases hex
      exact lv_lstore_n hx hb hd rfl (mm_loc_has hA.2.2.2.2) (by rw [← hA.2.2.2.2.2.1]; exact mm_st2_lt e1) rfl (fun ls' hl' => kk H locs ls' ⟨hA.1, hA.2.1, hA.2.2.1, hA.2.2.2.1, mm_st2_loc hA.2.2.2.2.2.1 e1 hl'⟩)
    · cases hex
  · cases hex
theorem mm_s_lstore {i : Nat} (hx : p.tables.exec = Jvm.exec) (hb : c.code = cc) (hc : mm_chk cc pc ((.lstore i), nx, tg) = true) (hex : mm_lst nx L st h i = some X) (hA : mm_At D cl A ρ κ b nL s H locs ls L h) (kk : mm_kk p l e R s m args below meth c cells slots Q D cl A ρ κ b nL X) : W p l e R s m args below meth c H locs cells slots Q (F0 m pc ls (st.map (mm_cv ρ b))) := by
  obtain ⟨hd, rfl, htg⟩ := mm_chk_sp hc
  unfold mm_lst at hex
  split at hex
  · unfold mm_goL at hex
    split at hex
    · rename_i L' e1
      cases hex
      exact lv_lstore hx hb hd (mm_loc_has hA.2.2.2.2) (by rw [← hA.2.2.2.2.2.1]; exact mm_st2_lt e1) rfl (fun ls' hl' => kk H locs ls' ⟨hA.1, hA.2.1, hA.2.2.1, hA.2.2.2.1, mm_st2_loc hA.2.2.2.2.2.1 e1 hl'⟩)
    · cases hex
  · cases hex
theorem mm_s_astore_n {k : Fin 4} (hx : p.tables.exec = Jvm.exec) (hb : c.code = cc) (hc : mm_chk cc pc ((.astore_n k), nx, tg) = true) (hex : mm_rst nx L st h k.val = some X) (hA : mm_At D cl A ρ κ b nL s H locs ls L h) (kk : mm_kk p l e R s m args below meth c cells slots Q D cl A ρ κ b nL X) : W p l e R s m args below meth c H locs cells slots Q (F0 m pc ls (st.map (mm_cv ρ b))) := by
  obtain ⟨hd, rfl, htg⟩ := mm_chk_sp hc
  unfold mm_rst at hex
  split at hex
  · unfold mm_goL at hex
    split at hex
    · rename_i L' e1
      cases hex
      exact lv_astore_n hx hb hd rfl (mm_loc_has hA.2.2.2.2) (by rw [← hA.2.2.2.2.2.1]; exact mm_st1_lt e1) rfl (fun ls' hl' => kk H locs ls' ⟨hA.1, hA.2.1, hA.2.2.1, hA.2.2.2.1, mm_st1_loc hA.2.2.2.2.2.1 e1 hl'⟩)
    · cases hex
  · unfold mm_goL at hex
    split at hex
    · rename_i L' e1
      cases hex
      exact lv_astore_nN hx hb hd rfl (mm_loc_has hA.2.2.2.2) (by rw [← hA.2.2.2.2.2.1]; exact mm_st1_lt e1) rfl (fun ls' hl' => kk H locs ls' ⟨hA.1, hA.2.1, hA.2.2.1, hA.2.2.2.1, mm_st1_loc hA.2.2.2.2.2.1 e1 hl'⟩)
    · cases hex
  · cases hex
theorem mm_s_astore {i : Nat} (hx : p.tables.exec = Jvm.exec) (hb : c.code = cc) (hc : mm_chk cc pc ((.astore i), nx, tg) = true) (hex : mm_rst nx L st h i = some X) (hA : mm_At D cl A ρ κ b nL s H locs ls L h) (kk : mm_kk p l e R s m args below meth c cells slots Q D cl A ρ κ b nL X) : W p l e R s m args below meth c H locs cells slots Q (F0 m pc ls (st.map (mm_cv ρ b))) := by
  obtain ⟨hd, rfl, htg⟩ := mm_chk_sp hc
  unfold mm_rst at hex
  split at hex
  · unfold mm_goL at hex
    split at hex
    · rename_i L' e1
      cases hex
      exact lv_astore hx hb hd (mm_loc_has hA.2.2.2.2) (by rw [← hA.2.2.2.2.2.1]; exact mm_st1_lt e1) rfl (fun ls' hl' => kk H locs ls' ⟨hA.1, hA.2.1, hA.2.2.1, hA.2.2.2.1, mm_st1_loc hA.2.2.2.2.2.1 e1 hl'⟩)
    · cases hex
  · unfold mm_goL at hex
    split at hex
    · rename_i L' e1
      cases hex
      exact lv_astoreN hx hb hd (mm_loc_has hA.2.2.2.2) (by rw [← hA.2.2.2.2.2.1]; exact mm_st1_lt e1) rfl (fun ls' hl' => kk H locs ls' ⟨hA.1, hA.2.1, hA.2.2.1, hA.2.2.2.1, mm_st1_loc hA.2.2.2.2.2.1 e1 hl'⟩)
    · cases hex
  · cases hex
theorem mm_s_iinc {i : Nat} {n : Int} (hx : p.tables.exec = Jvm.exec) (hb : c.code = cc) (hc : mm_chk cc pc ((.iinc i n), nx, tg) = true) (hex : mm_inc nx L st h i (Int32.ofInt n) = some X) (hA : mm_At D cl A ρ κ b nL s H locs ls L h) (kk : mm_kk p l e R s m args below meth c cells slots Q D cl A ρ κ b nL X) : W p l e R s m args below meth c H locs cells slots Q (F0 m pc ls (st.map (mm_cv ρ b))) := by
  obtain ⟨hd, rfl, htg⟩ := mm_chk_sp hc
  unfold mm_inc at hex
  rw [mm_nth_eq] at hex
  split at hex
  · rename_i x ex
    unfold mm_goL at hex
    split at hex
    · rename_i L' e1
      cases hex
      obtain ⟨k, hk⟩ := List.getElem?_of_mem (mm_lv_mem (ρ := ρ) (b := b) (q := (i, .int x)) |>.mpr ⟨.int x, ex, rfl⟩)
      exact lv_iinc hx hb hd (mm_loc_has hA.2.2.2.2) hk rfl (by rw [← hA.2.2.2.2.2.1]; exact mm_st1_lt e1) rfl (fun ls' hl' => kk H locs ls' ⟨hA.1, hA.2.1, hA.2.2.1, hA.2.2.2.1, mm_st1_loc hA.2.2.2.2.2.1 e1 hl'⟩)
    · cases hex
  · cases hex
theorem mm_s_if {co : Jvm.ClassFile.Cond} {o : Int} {x : Int32} {r : List Value} (hx : p.tables.exec = Jvm.exec) (hb : c.code = cc) (hc : mm_chk cc pc ((.ifCond co o), nx, tg) = true) (hex : mm_br co x 0 (mm_to tg L r h) (mm_go nx L r h) = some X) (hA : mm_At D cl A ρ κ b nL s H locs ls L h) (kk : mm_kk p l e R s m args below meth c cells slots Q D cl A ρ κ b nL X) : W p l e R s m args below meth c H locs cells slots Q (F0 m pc ls ((.int x :: r : List Value).map (mm_cv ρ b))) := by
  obtain ⟨hd, rfl, htg⟩ := mm_chk_sp hc
  obtain ⟨t, rfl, ht⟩ := mm_tg1_sp htg
  cases co with
  | eq =>
    refine lv_if_eq (tgt := t) hx hb hd ht (fun q => ?_) (fun q => ?_)
    · simp only [mm_br, if_pos q, mm_to] at hex
      cases hex
      exact (kk H locs ls hA)
    · simp only [mm_br, if_neg q] at hex
      cases hex
      exact (kk H locs ls hA)
  | ne =>
    refine lv_if_ne (tgt := t) hx hb hd ht (fun q => ?_) (fun q => ?_)
    · simp only [mm_br, if_neg q, mm_to] at hex
      cases hex
      exact (kk H locs ls hA)
    · simp only [mm_br, if_pos q] at hex
      cases hex
      exact (kk H locs ls hA)
  | lt =>
    refine lv_if_lt (tgt := t) hx hb hd ht (fun q => ?_) (fun q => ?_)
    · simp only [mm_br, if_pos q, mm_to] at hex
      cases hex
      exact (kk H locs ls hA)
    · simp only [mm_br, if_neg q] at hex
      cases hex
      exact (kk H locs ls hA)
  | ge =>
    refine lv_if_ge (tgt := t) hx hb hd ht (fun q => ?_) (fun q => ?_)
    · simp only [mm_br, if_pos q, mm_to] at hex
      cases hex
      exact (kk H locs ls hA)
    · simp only [mm_br, if_neg q] at hex
      cases hex
      exact (kk H locs ls hA)
  | gt =>
    refine lv_if_gt (tgt := t) hx hb hd ht (fun q => ?_) (fun q => ?_)
    · simp only [mm_br, if_pos q, mm_to] at hex
      cases hex
      exact (kk H locs ls hA)
    · simp only [mm_br, if_neg q] at hex
      cases hex
      exact (kk H locs ls hA)
  | le =>
    refine lv_if_le (tgt := t) hx hb hd ht (fun q => ?_) (fun q => ?_)
    · simp only [mm_br, if_pos q, mm_to] at hex
      cases hex
      exact (kk H locs ls hA)
    · simp only [mm_br, if_neg q] at hex
      cases hex
      exact (kk H locs ls hA)
theorem mm_s_icmp {co : Jvm.ClassFile.Cond} {o : Int} {x y : Int32} {r : List Value} (hx : p.tables.exec = Jvm.exec) (hb : c.code = cc) (hc : mm_chk cc pc ((.if_icmp co o), nx, tg) = true) (hex : mm_br co x y (mm_to tg L r h) (mm_go nx L r h) = some X) (hA : mm_At D cl A ρ κ b nL s H locs ls L h) (kk : mm_kk p l e R s m args below meth c cells slots Q D cl A ρ κ b nL X) : W p l e R s m args below meth c H locs cells slots Q (F0 m pc ls ((.int y :: .int x :: r : List Value).map (mm_cv ρ b))) := by
  obtain ⟨hd, rfl, htg⟩ := mm_chk_sp hc
  obtain ⟨t, rfl, ht⟩ := mm_tg1_sp htg
  cases co with
  | eq =>
    refine lv_icmp_eq (tgt := t) hx hb hd ht (fun q => ?_) (fun q => ?_)
    · simp only [mm_br, if_pos q, mm_to] at hex
      cases hex
      exact (kk H locs ls hA)
    · simp only [mm_br, if_neg q] at hex
      cases hex
      exact (kk H locs ls hA)
  | ne =>
    refine lv_icmp_ne (tgt := t) hx hb hd ht (fun q => ?_) (fun q => ?_)
    · simp only [mm_br, if_neg q, mm_to] at hex
      cases hex
      exact (kk H locs ls hA)
    · simp only [mm_br, if_pos q] at hex
      cases hex
      exact (kk H locs ls hA)
  | lt =>
    refine lv_icmp_lt (tgt := t) hx hb hd ht (fun q => ?_) (fun q => ?_)
    · simp only [mm_br, if_pos q, mm_to] at hex
      cases hex
      exact (kk H locs ls hA)
    · simp only [mm_br, if_neg q] at hex
      cases hex
      exact (kk H locs ls hA)
  | ge =>
    refine lv_icmp_ge (tgt := t) hx hb hd ht (fun q => ?_) (fun q => ?_)
    · simp only [mm_br, if_pos q, mm_to] at hex
      cases hex
      exact (kk H locs ls hA)
    · simp only [mm_br, if_neg q] at hex
      cases hex
      exact (kk H locs ls hA)
  | gt =>
    refine lv_icmp_gt (tgt := t) hx hb hd ht (fun q => ?_) (fun q => ?_)
    · simp only [mm_br, if_pos q, mm_to] at hex
      cases hex
      exact (kk H locs ls hA)
    · simp only [mm_br, if_neg q] at hex
      cases hex
      exact (kk H locs ls hA)
  | le =>
    refine lv_icmp_le (tgt := t) hx hb hd ht (fun q => ?_) (fun q => ?_)
    · simp only [mm_br, if_pos q, mm_to] at hex
      cases hex
      exact (kk H locs ls hA)
    · simp only [mm_br, if_neg q] at hex
      cases hex
      exact (kk H locs ls hA)
theorem mm_s_goto {o : Int} (hx : p.tables.exec = Jvm.exec) (hb : c.code = cc) (hc : mm_chk cc pc ((.goto o), nx, tg) = true) (hex : mm_to tg L st h = some X) (hA : mm_At D cl A ρ κ b nL s H locs ls L h) (kk : mm_kk p l e R s m args below meth c cells slots Q D cl A ρ κ b nL X) : W p l e R s m args below meth c H locs cells slots Q (F0 m pc ls (st.map (mm_cv ρ b))) := by
  obtain ⟨hd, rfl, htg⟩ := mm_chk_sp hc
  obtain ⟨t, rfl, ht⟩ := mm_tg1_sp htg
  cases hex
  exact lv_goto (tgt := t) hx hb hd ht (kk H locs ls hA)
theorem mm_s_ifnull {o : Int} (hx : p.tables.exec = Jvm.exec) (hb : c.code = cc) (hc : mm_chk cc pc ((.ifnull o), nx, tg) = true) (hex : mm_nul nx tg L st h = some X) (hA : mm_At D cl A ρ κ b nL s H locs ls L h) (kk : mm_kk p l e R s m args below meth c cells slots Q D cl A ρ κ b nL X) : W p l e R s m args below meth c H locs cells slots Q (F0 m pc ls (st.map (mm_cv ρ b))) := by
  obtain ⟨hd, rfl, htg⟩ := mm_chk_sp hc
  obtain ⟨t, rfl, ht⟩ := mm_tg1_sp htg
  unfold mm_nul at hex
  split at hex
  · cases hex
    exact lv_ifnullN (tgt := t) hx hb hd ht (kk H locs ls hA)
  · cases hex
    exact lv_ifnull hx hb hd (kk H locs ls hA)
  · cases hex
theorem mm_s_ifnonnull {o : Int} (hx : p.tables.exec = Jvm.exec) (hb : c.code = cc) (hc : mm_chk cc pc ((.ifnonnull o), nx, tg) = true) (hex : mm_nnl nx tg L st h = some X) (hA : mm_At D cl A ρ κ b nL s H locs ls L h) (kk : mm_kk p l e R s m args below meth c cells slots Q D cl A ρ κ b nL X) : W p l e R s m args below meth c H locs cells slots Q (F0 m pc ls (st.map (mm_cv ρ b))) := by
  obtain ⟨hd, rfl, htg⟩ := mm_chk_sp hc
  obtain ⟨t, rfl, ht⟩ := mm_tg1_sp htg
  unfold mm_nnl at hex
  split at hex
  · cases hex
    exact lv_ifnonnull (tgt := t) hx hb hd ht (kk H locs ls hA)
  · cases hex
    exact lv_ifnonnullN hx hb hd (kk H locs ls hA)
  · cases hex
theorem mm_s_tsw {d lo hi : Int} {offs : Array Int} (hx : p.tables.exec = Jvm.exec) (hb : c.code = cc) (hc : mm_chk cc pc ((.tableswitch d lo hi offs), nx, tg) = true) (hex : mm_tsw lo hi tg L st h = some X) (hA : mm_At D cl A ρ κ b nL s H locs ls L h) (kk : mm_kk p l e R s m args below meth c cells slots Q D cl A ρ κ b nL X) : W p l e R s m args below meth c H locs cells slots Q (F0 m pc ls (st.map (mm_cv ρ b))) := by
  obtain ⟨hd, rfl, htg⟩ := mm_chk_sp hc
  unfold mm_tsw at hex
  split at hex
  · rename_i x r t ts
    simp only [mm_tgok, Bool.and_eq_true, decide_eq_true_eq] at htg
    split at hex
    · rename_i hq
      cases hex
      exact lv_tableOut (tgt := t) hx hb hd hq htg.1 (kk H locs ls hA)
    · rename_i hq
      split at hex
      · rename_i t' et
        cases hex
        rw [mm_nth_eq] at et
        have h1 : (ts.map (fun t : Nat => (t : Int)))[(x.toInt - lo).toNat]? = some (t' : Int) := by rw [List.getElem?_map, et]; rfl
        rw [htg.2, List.getElem?_map] at h1
        cases h2 : offs.toList[(x.toInt - lo).toNat]? with
        | none => rw [h2] at h1; cases h1
        | some off =>
          rw [h2] at h1
          have h3 : (pc : Int) + off = (t' : Int) := Option.some.inj h1
          exact lv_tableIn (tgt := t') (off := off) hx hb hd (fun z => hq (Or.inl z)) (fun z => hq (Or.inr z)) (by rw [← Array.getElem?_toList]; exact h2) h3 (kk H locs ls hA)
      · cases hex
  · cases hex
theorem mm_s_laload (hK : va_K D cl [] s) (hx : p.tables.exec = Jvm.exec) (hb : c.code = cc) (hc : mm_chk cc pc (.laload, nx, tg) = true) (hex : mm_lald nx L st h = some X) (hA : mm_At D cl A ρ κ b nL s H locs ls L h) (kk : mm_kk p l e R s m args below meth c cells slots Q D cl A ρ κ b nL X) : W p l e R s m args below meth c H locs cells slots Q (F0 m pc ls (st.map (mm_cv ρ b))) := by
  obtain ⟨hd, rfl, htg⟩ := mm_chk_sp hc
  unfold mm_lald at hex
  split at hex
  · split at hex
    · rename_i n f ec
      split at hex
      · rename_i hin
        cases hex
        exact va_lald hx hb (mm_K1 hK hA.2.2.1 ec) hA.1 _ 0 (mm_rep_at ec) rfl (vp_in_iff.mpr hin) hd (kk H locs ls hA)
      · cases hex
    · cases hex
  · cases hex
theorem mm_s_baload (hK : va_K D cl [] s) (hx : p.tables.exec = Jvm.exec) (hb : c.code = cc) (hc : mm_chk cc pc (.baload, nx, tg) = true) (hex : mm_zald nx L st h = some X) (hA : mm_At D cl A ρ κ b nL s H locs ls L h) (kk : mm_kk p l e R s m args below meth c cells slots Q D cl A ρ κ b nL X) : W p l e R s m args below meth c H locs cells slots Q (F0 m pc ls (st.map (mm_cv ρ b))) := by
  obtain ⟨hd, rfl, htg⟩ := mm_chk_sp hc
  unfold mm_zald at hex
  split at hex
  · split at hex
    · rename_i n f ec
      split at hex
      · rename_i hin
        cases hex
        exact va_zald hx hb (mm_K1 hK hA.2.2.1 ec) hA.1 _ 0 (mm_rep_at ec) rfl (vp_in_iff.mpr hin) hd (kk H locs ls hA)
      · cases hex
    · cases hex
  · cases hex
theorem mm_s_iaload {scr : mm_X} (hK : va_K D cl [] s) (hscr : ∀ (n : Nat) (f : Nat → Int32), scr = some (n, f) → va_X b n f s s.heap ∧ b < s.heap.size ∧ ¬ A b) (hx : p.tables.exec = Jvm.exec) (hb : c.code = cc) (hc : mm_chk cc pc (.iaload, nx, tg) = true) (hex : mm_iald scr nx L st h = some X) (hA : mm_At D cl A ρ κ b nL s H locs ls L h) (kk : mm_kk p l e R s m args below meth c cells slots Q D cl A ρ κ b nL X) : W p l e R s m args below meth c H locs cells slots Q (F0 m pc ls (st.map (mm_cv ρ b))) := by
  obtain ⟨hd, rfl, htg⟩ := mm_chk_sp hc
  unfold mm_iald at hex
  split at hex
  · split at hex
    · rename_i n f ec
      split at hex
      · rename_i hin
        cases hex
        exact va_iald hx hb (mm_K1 hK hA.2.2.1 ec) hA.1 _ 0 (mm_rep_at ec) rfl (vp_in_iff.mpr hin) hd (kk H locs ls hA)
      · cases hex
    · cases hex
  · split at hex
    · rename_i n f
      split at hex
      · rename_i hin
        cases hex
        obtain ⟨z1, z2, z3⟩ := hscr n f rfl
        exact va_sld hx hb z1 z2 z3 hA.2.2.2.1 (vp_in_iff.mpr hin) hd (kk H locs ls hA)
      · cases hex
    · cases hex
  · cases hex
theorem mm_s_arraylength {scr : mm_X} (hK : va_K D cl [] s) (hscr : ∀ (n : Nat) (f : Nat → Int32), scr = some (n, f) → va_X b n f s s.heap ∧ b < s.heap.size ∧ ¬ A b) (hx : p.tables.exec = Jvm.exec) (hb : c.code = cc) (hc : mm_chk cc pc (.arraylength, nx, tg) = true) (hex : mm_len scr nx L st h = some X) (hA : mm_At D cl A ρ κ b nL s H locs ls L h) (kk : mm_kk p l e R s m args below meth c cells slots Q D cl A ρ κ b nL X) : W p l e R s m args below meth c H locs cells slots Q (F0 m pc ls (st.map (mm_cv ρ b))) := by
  obtain ⟨hd, rfl, htg⟩ := mm_chk_sp hc
  unfold mm_len at hex
  split at hex
  · split at hex
    · rename_i ty n f ec
      cases hex
      exact va_alen hx hb (mm_K1 hK hA.2.2.1 ec) hA.1 _ 0 (mm_rep_at ec) rfl rfl hd (kk H locs ls hA)
    · cases hex
  · split at hex
    · rename_i n f
      cases hex
      obtain ⟨z1, z2, z3⟩ := hscr n f rfl
      exact va_slen hx hb z1 z2 z3 hA.2.2.2.1 hd (kk H locs ls hA)
    · cases hex
  · cases hex
theorem mm_s_iastore (hK : va_K D cl [] s) (hx : p.tables.exec = Jvm.exec) (hb : c.code = cc) (hc : mm_chk cc pc (.iastore, nx, tg) = true) (hex : mm_iast nx L st h = some X) (hA : mm_At D cl A ρ κ b nL s H locs ls L h) (kk : mm_kk p l e R s m args below meth c cells slots Q D cl A ρ κ b nL X) : W p l e R s m args below meth c H locs cells slots Q (F0 m pc ls (st.map (mm_cv ρ b))) := by
  obtain ⟨hd, rfl, htg⟩ := mm_chk_sp hc
  unfold mm_iast at hex
  split at hex
  · split at hex
    · rename_i n f ec
      split at hex
      · rename_i hin
        unfold mm_goH at hex
        split at hex
        · rename_i h1 e1
          cases hex
          obtain ⟨-, rfl⟩ := mm_put_eq e1
          refine va_iast hx hb (mm_K1 hK hA.2.2.1 ec) hA.1 hA.2.1 hA.2.2.2.1 _ 0 (mm_rep_at ec) rfl (vp_in_iff.mpr hin) hd (fun H1 locs1 hP1 hD1 hS1 => kk H1 locs1 ls ⟨?_, ?_, mm_ty_seti hA.2.2.1 ec, hS1, hA.2.2.2.2⟩)
          · rw [mm_rep_set]
            exact hP1
          · rw [mm_rep_set]
            exact hD1
        · cases hex
      · cases hex
    · cases hex
  · cases hex
theorem mm_s_lastore (hK : va_K D cl [] s) (hx : p.tables.exec = Jvm.exec) (hb : c.code = cc) (hc : mm_chk cc pc (.lastore, nx, tg) = true) (hex : mm_last nx L st h = some X) (hA : mm_At D cl A ρ κ b nL s H locs ls L h) (kk : mm_kk p l e R s m args below meth c cells slots Q D cl A ρ κ b nL X) : W p l e R s m args below meth c H locs cells slots Q (F0 m pc ls (st.map (mm_cv ρ b))) := by
  obtain ⟨hd, rfl, htg⟩ := mm_chk_sp hc
  unfold mm_last at hex
  split at hex
  · split at hex
    · rename_i n f ec
      split at hex
      · rename_i hin
        unfold mm_goH at hex
        split at hex
        · rename_i h1 e1
          cases hex
          obtain ⟨-, rfl⟩ := mm_put_eq e1
          refine va_last hx hb (mm_K1 hK hA.2.2.1 ec) hA.1 hA.2.1 hA.2.2.2.1 _ 0 (mm_rep_at ec) rfl (vp_in_iff.mpr hin) hd (fun H1 locs1 hP1 hD1 hS1 => kk H1 locs1 ls ⟨?_, ?_, mm_ty_seti hA.2.2.1 ec, hS1, hA.2.2.2.2⟩)
          · rw [mm_rep_set]
            exact hP1
          · rw [mm_rep_set]
            exact hD1
        · cases hex
      · cases hex
    · cases hex
  · cases hex
theorem mm_s_bastore (hK : va_K D cl [] s) (hx : p.tables.exec = Jvm.exec) (hb : c.code = cc) (hc : mm_chk cc pc (.bastore, nx, tg) = true) (hex : mm_zast nx L st h = some X) (hA : mm_At D cl A ρ κ b nL s H locs ls L h) (kk : mm_kk p l e R s m args below meth c cells slots Q D cl A ρ κ b nL X) : W p l e R s m args below meth c H locs cells slots Q (F0 m pc ls (st.map (mm_cv ρ b))) := by
  obtain ⟨hd, rfl, htg⟩ := mm_chk_sp hc
  unfold mm_zast at hex
  split at hex
  · split at hex
    · rename_i n f ec
      split at hex
      · rename_i hin
        unfold mm_goH at hex
        split at hex
        · rename_i h1 e1
          cases hex
          obtain ⟨-, rfl⟩ := mm_put_eq e1
          refine va_zast hx hb (mm_K1 hK hA.2.2.1 ec) hA.1 hA.2.1 hA.2.2.2.1 _ 0 (mm_rep_at ec) rfl (vp_in_iff.mpr hin) hd (fun H1 locs1 hP1 hD1 hS1 => kk H1 locs1 ls ⟨?_, ?_, mm_ty_seti hA.2.2.1 ec, hS1, hA.2.2.2.2⟩)
          · rw [mm_rep_set]
            exact hP1
          · rw [mm_rep_set]
            exact hD1
        · cases hex
      · cases hex
    · cases hex
  · cases hex
/-- what the words say of a field of the pool -/
def mm_fw (cl : List vw_C) (own : String) (Ts : List Cond) (i : Nat) (q : Nat × Nat × Option FieldType) : Prop := ∃ (C : String) (T : u_T) (N : Nat) (ty0 : Nat → FieldType), cl[q.1]? = some (C, T, N) ∧ q.2.1 < N ∧ (∀ w ∈ u_ws C T N, w ∈ Ts) ∧ Cond.fieldLink own i (T q.2.1).1 (T q.2.1).2.1 (T q.2.1).2.2.1 ∈ Ts ∧ (∀ k, k < N → parseFieldDescriptor (T k).2.2.1 = some (ty0 k)) ∧ (∀ a, a < N → ∀ b, b < N → a ≠ b → (T a).2.1 ≠ (T b).2.1) ∧ ∀ ty, q.2.2 = some ty → (T q.2.1).2.2.2 = false ∧ parseFieldDescriptor (T q.2.1).2.2.1 = some ty
theorem mm_s_getfield {own : String} {Ts : List Cond} {i : Nat} {q : Nat × Nat × Option FieldType} (hown : s.vm.findClass own = some m.cls) (hts : ∀ w ∈ Ts, w.before args s = true) (hK : va_K D cl [] s) (hw : mm_fw cl own Ts i q) (hx : p.tables.exec = Jvm.exec) (hb : c.code = cc) (hc : mm_chk cc pc ((.getfield i), nx, tg) = true) (hex : mm_gfd nx L st h q = some X) (hA : mm_At D cl A ρ κ b nL s H locs ls L h) (kk : mm_kk p l e R s m args below meth c cells slots Q D cl A ρ κ b nL X) : W p l e R s m args below meth c H locs cells slots Q (F0 m pc ls (st.map (mm_cv ρ b))) := by
  obtain ⟨hd, rfl, htg⟩ := mm_chk_sp hc
  obtain ⟨C, T, N, ty0, w1, w2, w3, w4, w5, w6, w7⟩ := hw
  unfold mm_gfd at hex
  split at hex
  · split at hex
    · rename_i ci fs ec
      split at hex
      · rename_i eb
        have eb := Nat.eq_of_beq_eq_true eb
        subst eb
        split at hex
        · rename_i v ev
          cases hex
          rw [mm_nth_eq] at ev
          exact va_get hx hb hts w3 hown hK hA.1 _ (mm_rep_at ec) w1 q.2.1 w2 (hts _ w4) (fun _ h9 => h9) (by rw [List.getElem?_map, ev]; rfl) hd (kk H locs ls hA)
        · cases hex
      · cases hex
    · cases hex
  · cases hex
theorem mm_s_put1 {own : String} {Ts : List Cond} {i : Nat} {q : Nat × Nat × Option FieldType} (hown : s.vm.findClass own = some m.cls) (hts : ∀ w ∈ Ts, w.before args s = true) (hK : va_K D cl [] s) (hw : mm_fw cl own Ts i q) {a : Nat} {v : Value} {ty : FieldType} {r : List Value} (hq : q.2.2 = some ty) (hcv : mm_cv ρ b v = v) (hn : narrow ty v = v) (hfit : fits ty v = true) (hx : p.tables.exec = Jvm.exec) (hb : c.code = cc) (hc : mm_chk cc pc ((.putfield i), nx, tg) = true) (hex : mm_pfd1 nx L r h q a v = some X) (hA : mm_At D cl A ρ κ b nL s H locs ls L h) (kk : mm_kk p l e R s m args below meth c cells slots Q D cl A ρ κ b nL X) : W p l e R s m args below meth c H locs cells slots Q (F0 m pc ls ((v :: .ref a :: r : List Value).map (mm_cv ρ b))) := by
  obtain ⟨hd, rfl, htg⟩ := mm_chk_sp hc
  obtain ⟨C, T, N, ty0, w1, w2, w3, w4, w5, w6, w7⟩ := hw
  unfold mm_pfd1 at hex
  split at hex
  · rename_i ci fs ec
    split at hex
    · rename_i eb
      have eb := Nat.eq_of_beq_eq_true eb
      subst eb
      split at hex
      · rename_i fs' ef
        unfold mm_goH at hex
        split at hex
        · rename_i h1 e1
          cases hex
          obtain ⟨-, rfl⟩ := mm_put_eq e1
          obtain ⟨hlt, rfl⟩ := mm_put_eq ef
          refine W.eq (g2 := F0 m pc ls (v :: .ref (ρ a) :: r.map (mm_cv ρ b))) (by show F0 m pc ls (mm_cv ρ b v :: Value.ref (ρ a) :: r.map (mm_cv ρ b)) = _; rw [hcv]) ?_
          refine va_put hx hb hts w3 ty0 w5 w6 hown hK hA.1 hA.2.1 hA.2.2.2.1 _ (mm_rep_at ec) w1 q.2.1 w2 (hts _ w4) (fun _ h9 => h9) (w7 ty hq).1 (w7 ty hq).2 hn hfit (by rw [List.length_map]; exact hlt) hd (fun H1 locs1 hP1 hD1 hS1 => kk H1 locs1 ls ⟨?_, ?_, mm_ty_setr hA.2.2.1, hS1, hA.2.2.2.2⟩)
          · rw [mm_rep_set]
            rw [show mm_co ρ κ b a (.inr (q.1, fs.set q.2.1 v)) = (ρ a, .inr (q.1, (fs.map (mm_cv ρ b)).set q.2.1 v)) by simp [mm_co, List.map_set, hcv]]
            exact hP1
          · rw [mm_rep_set]
            rw [show mm_co ρ κ b a (.inr (q.1, fs.set q.2.1 v)) = (ρ a, .inr (q.1, (fs.map (mm_cv ρ b)).set q.2.1 v)) by simp [mm_co, List.map_set, hcv]]
            exact hD1
        · cases hex
      · cases hex
    · cases hex
  · cases hex
theorem mm_s_putfield {own : String} {Ts : List Cond} {i : Nat} {q : Nat × Nat × Option FieldType} (hown : s.vm.findClass own = some m.cls) (hts : ∀ w ∈ Ts, w.before args s = true) (hK : va_K D cl [] s) (hw : mm_fw cl own Ts i q) (hx : p.tables.exec = Jvm.exec) (hb : c.code = cc) (hc : mm_chk cc pc ((.putfield i), nx, tg) = true) (hex : mm_pfd nx L st h q = some X) (hA : mm_At D cl A ρ κ b nL s H locs ls L h) (kk : mm_kk p l e R s m args below meth c cells slots Q D cl A ρ κ b nL X) : W p l e R s m args below meth c H locs cells slots Q (F0 m pc ls (st.map (mm_cv ρ b))) := by
  obtain ⟨hd, rfl, htg⟩ := mm_chk_sp hc
  unfold mm_pfd at hex
  split at hex
  · rename_i hq
    exact mm_s_put1 (v := .int _) hown hts hK hw hq rfl rfl rfl hx hb hc hex hA kk
  · rename_i hq
    exact mm_s_put1 (v := .long _) hown hts hK hw hq rfl rfl rfl hx hb hc hex hA kk
  · cases hex
end MMW
end
section
/-! THE SMALL MACHINE IS SOUND, second half: calls, one step, a run, a contract. -/
abbrev mm_N : Type := List (String × Nat × MethodName × String)
def mm_nw (NW : mm_N) (U : State) : Prop := ∀ x ∈ NW, va_Nw (.methodLinkNest x.1 x.2.1 x.2.2.1 x.2.2.2) U
theorem mm_nw_warm {NW : mm_N} {s U : State} (hW : s.WarmedH U.vm) (h : mm_nw NW s) : mm_nw NW U := fun x hx => va_Nw.warmM hW (h x hx)
def mm_Pre (NW : mm_N) (D : va_G) (cl : List vw_C) (ρ : Nat → Nat) (κ : Nat → ClassId) (b : Nat) (h : mm_H) (sz : Nat) : State → Prop := fun U => U.heap.size = sz ∧ va_P D cl (mm_rep ρ κ b h) U.heap ∧ va_K D cl [] U ∧ mm_nw NW U ∧ mm_ty κ h U ∧ va_D (fun _ => True) (mm_rep ρ κ b h)
def mm_Post (D : va_G) (cl : List vw_C) (ρ : Nat → Nat) (κ : Nat → ClassId) (b : Nat) (h : mm_H) (v : Option Value) (h1 : mm_H) (sz : Nat) : Array Value → State → Outcome → State → Prop := fun _ st oc t => oc = .returned (v.map (mm_cv ρ b)) ∧ va_P D cl (mm_rep ρ κ b h1) t.heap ∧ mm_ty κ h1 t ∧ va_D (va_A (mm_rep ρ κ b h) sz) (mm_rep ρ κ b h1) ∧ va_F (va_A (mm_rep ρ κ b h) sz) st t
theorem mm_blind {NW : mm_N} {D : va_G} {cl : List vw_C} {ρ : Nat → Nat} {κ : Nat → ClassId} {b : Nat} {h : mm_H} {sz : Nat} {av : List Value} : FrameBlind (va_Pc av (mm_Pre NW D cl ρ κ b h sz)) := fun a U g mk q => by
  obtain ⟨q0, q1, qP, qK, qN, qT, qD⟩ := q
  exact ⟨q0, q1, qP, va_K.moved (u := U) (U := U.calling g mk a) (Vm.Alike.refl U.vm) qK, fun x hx => va_Nw.same (u := U) (U := U.calling g mk a) rfl rfl (qN x hx), mm_ty_moved (u := U) (U := U.calling g mk a) (Vm.Alike.refl U.vm) qT, qD⟩
theorem mm_back_sp {nx : Nat} {L : mm_L} {r : List Value} {o : Option (Option Value × mm_H)} {X : mm_R} (h : mm_back nx L r o = some X) : ∃ (v : Option Value) (h1 : mm_H), o = some (v, h1) ∧ X = (nx, L, v.toList ++ r, h1) := by
  unfold mm_back at h
  split at h
  · rename_i v h1
    cases h
    exact ⟨some v, h1, rfl, rfl⟩
  · rename_i h1
    cases h
    exact ⟨none, h1, rfl, rfl⟩
  · cases h
section MMC
variable {p : Program} {l : Launch} {e : Env} {R : Room} {s : State} {m : MethodId} {args : Array Value} {below : List Frame} {meth : Method} {c : Code} {cells slots : Nat} {Q : State → Prop} {cc : ByteArray} {D : va_G} {cl : List vw_C} {A : Nat → Prop} {ρ : Nat → Nat} {κ : Nat → ClassId} {b nL : Nat} {H : Heap} {locs : List Loc} {ls : Array Slot} {pc nx : Nat} {L : mm_L} {st : List Value} {h : mm_H} {X : mm_R} {tg : List Nat}
theorem mm_after {v : Option Value} {h1 : mm_H} {a0 : Array Value} {st0 rest : List Value} (hr : va_Run p l e R s m args below meth c H locs cells slots 0 0 (F0 m pc ls st0) rest (mm_Post D cl ρ κ b h v h1 H.size a0) (va_A (mm_rep ρ κ b h) H.size)) (hA : mm_At D cl A ρ κ b nL s H locs ls L h) (hAz : ∀ q, s.heap.size ≤ q → A q)
    (kk : ∀ (H1 : Heap) (locs1 : List Loc), mm_At D cl A ρ κ b nL s H1 locs1 ls L h1 → W p l e R s m args below meth c H1 locs1 cells slots Q (F0 m (pc + 3) ls ((v.map (mm_cv ρ b)).toList ++ rest))) : W p l e R s m args below meth c H locs cells slots Q (F0 m pc ls st0) := by
  intro T hT X
  obtain ⟨v', st₀, t, T', L1, h0, X', hL, e1, e2, ⟨hv, hP1, hT1, hD1, hz, hk⟩, sto⟩ := hr T hT X
  have hv : v' = v.map (mm_cv ρ b) := by cases hv; rfl
  subst hv
  rw [h0] at hz hk
  obtain ⟨hP, hD, hTy, hS, hl⟩ := hA
  have hF : ∀ q, va_A (mm_rep ρ κ b h) H.size q → A q := fun q hq => by
    rcases hq with ⟨k, x, hk⟩ | hq
    · exact hD.2 k _ hk
    · exact hAz q (Nat.le_trans hS.1 hq)
  have hal : s.vm.Alike t.vm := by rw [← e2]; exact X'.warmed.alike
  obtain ⟨t2, a1, b1⟩ := kk T'.heap (locs ++ L1) ⟨by rw [e1]; exact hP1, hD1.weaken (fun _ _ _ z => hF _ z), mm_ty_moved hal.symm hT1, ⟨Nat.le_trans hS.1 (by rw [e1]; exact hz), fun q h1 h2 => by rw [e1, hk q (Nat.lt_of_lt_of_le h1 hS.1) (fun z => h2 (hF q z))]; exact hS.2.1 q h1 h2, fun q hq => by
      rcases List.mem_append.mp hq with h | h
      · exact hS.2.2 q h
      · exact hF _ (hL q h)⟩, hl⟩ T' rfl X'
  exact ⟨t2, sto t2 a1, b1⟩
end MMC
section MMT
variable (G : List mm_M) (Y : Nat → MethodName) (WS : Nat → List Cond) (RM : Nat → Room) (BC : Nat → ByteArray) (cl : List vw_C) (nM : Nat) (NW : mm_N)
/-- what the words say of a number of the pool -/
def mm_word (own : String) (Ts : List Cond) (R : Room) (i : Nat) (K : mm_K) : Prop := match K with
  | .inl q => mm_fw cl own Ts i q
  | .inr (.inl (.int v)) => Cond.constant own i v ∈ Ts
  | .inr (.inl (.long v)) => Cond.constantLong own i v ∈ Ts
  | .inr (.inl _) => True
  | .inr (.inr (.inr n)) => n = 0 ∧ (Cond.methodLink own i Lib.Math.max.name ∈ Ts ∧ Cond.static Lib.Math.max.name ∈ Ts ∧ Cond.initialized "java/lang/Math" ∈ Ts ∧ Cond.code Lib.Math.max.name Lib.Math.max.code 2 (some .int) ∈ Ts ∧ 1 ≤ R.frames ∧ 21 ≤ R.locals) ∨ n = 1 ∧ (Cond.methodLink own i Lib.MathLoose.min_long.x ∈ Ts ∧ Cond.static Lib.MathLoose.min_long.x ∈ Ts ∧ Cond.initialized "java/lang/Math" ∈ Ts ∧ Cond.code Lib.MathLoose.min_long.x Lib.MathLoose.min_long.code 4 (some .long) ∈ Ts ∧ 1 ≤ R.frames ∧ 23 ≤ R.locals)
  | .inr (.inr (.inl q)) => q.1 < nM ∧ ∃ M2 : mm_M, mm_nth G q.1 = some M2 ∧ (RM q.1).frames + 1 ≤ R.frames ∧ 8 + (M2.2.2.1 + 11) + (RM q.1).locals ≤ R.locals ∧ ((Y q.1).cls ≠ "java/lang/invoke/MethodHandle" ∧ (Y q.1).cls ≠ "java/lang/invoke/VarHandle" ∧ (parseMethodDescriptor (Y q.1).desc).map (fun d => d.parameters.length) = some q.2.1) ∧ (match q.2.2 with
    | some ci => ∃ (C : String) (T : u_T) (N : Nat), cl[ci]? = some (C, T, N) ∧ (Y q.1).cls = C ∧ GoodIn Ts (wsV own i C (Y q.1) (WS q.1))
    | none => GoodIn Ts (va_wsS own i (Y q.1) (WS q.1)) ∨ ∃ host : String, (own, i, Y q.1, host) ∈ NW ∧ GoodIn Ts (WS q.1) ∧ Cond.initialized (Y q.1).cls ∈ Ts ∧ Cond.static (Y q.1) ∈ Ts)
/-- a method's tables fit its code and its words -/
def mm_okW (own : String) (cc : ByteArray) (Ts : List Cond) (R : Room) (M : mm_M) : Prop := (∀ (pc : Nat) (x : mm_I), mm_nth M.1 pc = some (some x) → mm_chk cc pc x = true) ∧ ∀ (i : Nat) (K : mm_K), mm_look M.2.1 i = some K → mm_word G Y WS RM cl nM NW own Ts R i K
def mm_ok (k : Nat) (M : mm_M) : Prop := (∃ ws', WS k = Cond.code (Y k) (BC k) M.2.2.1 M.2.2.2 :: ws') ∧ plainName (Y k).cls = true ∧ (RM k).cells = 0 ∧ (RM k).slots = 0 ∧ mm_okW G Y WS RM cl nM NW (Y k).cls (BC k) (WS k) (RM k) M

theorem mm_s_virt {p : Program} {l : Launch} {e : Env} {R : Room} {s : State} {m : MethodId} {args : Array Value} {below : List Frame} {meth : Method} {c : Code} {cells slots : Nat} {Q : State → Prop} {cc : ByteArray} {D : va_G} {A : Nat → Prop} {ρ : Nat → Nat} {κ : Nat → ClassId} {b nL : Nat} {H : Heap} {locs : List Loc} {ls : Array Slot} {pc nx : Nat} {L : mm_L} {st : List Value} {h : mm_H} {X : mm_R} {tg : List Nat} {own : String} {Ts : List Cond} {call : Nat → List Value → mm_H → Option (Option Value × mm_H)} {i : Nat} {q : Nat × Nat × Option Nat} (hx : p.tables.exec = Jvm.exec) (hb : c.code = cc) (hml : c.maxLocals = nL) (hown : s.vm.findClass own = some m.cls) (hts : ∀ w ∈ Ts, w.before args s = true) (hK : va_K D cl [] s) (hNW : mm_nw NW s) (hAz : ∀ q, s.heap.size ≤ q → A q) (hcs : cells ≤ R.cells ∧ slots ≤ R.slots) (hok : ∀ (k : Nat) (M : mm_M), k < nM → mm_nth G k = some M → mm_ok G Y WS RM BC cl nM NW k M) (hw : mm_word G Y WS RM cl nM NW own Ts R i (.inr (.inr (.inl q)))) (hcall : ∀ (k : Nat) (M : mm_M) (As : List Value) (v : Option Value) (h1 : mm_H) (sz : Nat), k < nM → mm_nth G k = some M → call k As h = some (v, h1) → Met l (Y k) (WS k) (RM k) (va_Pc (As.map (mm_cv ρ b)) (mm_Pre NW D cl ρ κ b h sz)) (mm_Post D cl ρ κ b h v h1 sz) 0 0 (va_A (mm_rep ρ κ b h) sz)) (hc : mm_chk cc pc (.invokevirtual i, nx, tg) = true) (hex : mm_ivv call nx L st h q = some X) (hA : mm_At D cl A ρ κ b nL s H locs ls L h) (kk : mm_kk p l e R s m args below meth c cells slots Q D cl A ρ κ b nL X) : W p l e R s m args below meth c H locs cells slots Q (F0 m pc ls (st.map (mm_cv ρ b))) := by
  obtain ⟨hd, rfl, -⟩ := mm_chk_sp hc
  unfold mm_ivv at hex
  split at hex
  · rename_i ci As r eci etk
    obtain ⟨Bk, hAs, hst, hlen⟩ := mm_take_eq _ _ _ _ _ etk
    rw [List.append_nil] at hAs
    unfold mm_cv1 at hex
    split at hex
    · rename_i a r'
      split at hex
      · rename_i cj fs ecell
        split at hex
        · rename_i e1 e2
          have e1 := Nat.eq_of_beq_eq_true e1
          have e2 := Nat.le_of_ble_eq_true e2
          subst e1
          obtain ⟨v, h1, ecall, rfl⟩ := mm_back_sp hex
          obtain ⟨hk, M2, hM2, hfr, hlo, hnm, hrest⟩ := hw
          rw [eci] at hrest
          obtain ⟨C, T, N, hcl, hyc, hG⟩ := hrest
          obtain ⟨⟨ws', hws⟩, -, hz1, hz2, -⟩ := hok q.1 M2 hk hM2
          have hM := hcall q.1 M2 (.ref a :: As) v h1 H.size hk hM2 ecall
          obtain ⟨hP, hD, hTy, hS, hl⟩ := id hA
          have run := va_runV (p := p) (l := l) (e := e) (R := R) (s := s) (m := m) (args := args) (below := below) (meth := meth) (c := c) (H := H) (locs := locs) (cells := cells) (slots := slots) (As := As.map (mm_cv ρ b)) (rest := r'.map (mm_cv ρ b)) (b := ρ a) (C := C) (g := F0 m pc ls (st.map (mm_cv ρ b))) (nL := nL) (Ts := Ts) (own := own) ⟨hx, hb, hml, hown, hts⟩ hM (cwV q.2.1 hts hG hws hz1 hz2 ⟨hyc, hnm.1, hnm.2.1, hnm.2.2⟩ ⟨hfr, hlo⟩)
            ⟨mm_blind, va_recv hK hP hcl (mm_rep_at ecell), fun U hU hW => ⟨rfl, by rw [hU], by rw [hU]; exact hP, va_K.moved hW.alike hK, mm_nw_warm hW hNW, mm_ty_moved hW.alike hTy, hD.weaken (fun _ _ _ _ => trivial)⟩⟩ rfl (by rw [List.length_map, hAs, List.length_reverse, hlen]) hl.1 (by show st.map _ = _; rw [hst, hAs]; simp [mm_cv]) (lv_room (by rw [mm_cat_sum]; exact e2)) hd ⟨hcs.1, hcs.2⟩
          refine mm_after run hA hAz (fun H1 locs1 hA1 => ?_)
          have z := kk H1 locs1 ls hA1
          cases v with
          | none => exact z
          | some v => exact z
        · cases hex
      · cases hex
    · cases hex
  · cases hex
theorem mm_s_stat {p : Program} {l : Launch} {e : Env} {R : Room} {s : State} {m : MethodId} {args : Array Value} {below : List Frame} {meth : Method} {c : Code} {cells slots : Nat} {Q : State → Prop} {cc : ByteArray} {D : va_G} {A : Nat → Prop} {ρ : Nat → Nat} {κ : Nat → ClassId} {b nL : Nat} {H : Heap} {locs : List Loc} {ls : Array Slot} {pc nx : Nat} {L : mm_L} {st : List Value} {h : mm_H} {X : mm_R} {tg : List Nat} {own : String} {Ts : List Cond} {call : Nat → List Value → mm_H → Option (Option Value × mm_H)} {i : Nat} {q : Nat × Nat × Option Nat} (hx : p.tables.exec = Jvm.exec) (hb : c.code = cc) (hml : c.maxLocals = nL) (hown : s.vm.findClass own = some m.cls) (hts : ∀ w ∈ Ts, w.before args s = true) (hK : va_K D cl [] s) (hNW : mm_nw NW s) (hAz : ∀ q, s.heap.size ≤ q → A q) (hcs : cells ≤ R.cells ∧ slots ≤ R.slots) (hok : ∀ (k : Nat) (M : mm_M), k < nM → mm_nth G k = some M → mm_ok G Y WS RM BC cl nM NW k M) (hw : mm_word G Y WS RM cl nM NW own Ts R i (.inr (.inr (.inl q)))) (hcall : ∀ (k : Nat) (M : mm_M) (As : List Value) (v : Option Value) (h1 : mm_H) (sz : Nat), k < nM → mm_nth G k = some M → call k As h = some (v, h1) → Met l (Y k) (WS k) (RM k) (va_Pc (As.map (mm_cv ρ b)) (mm_Pre NW D cl ρ κ b h sz)) (mm_Post D cl ρ κ b h v h1 sz) 0 0 (va_A (mm_rep ρ κ b h) sz)) (hc : mm_chk cc pc (.invokestatic i, nx, tg) = true) (hex : mm_ivs call nx L st h q = some X) (hA : mm_At D cl A ρ κ b nL s H locs ls L h) (kk : mm_kk p l e R s m args below meth c cells slots Q D cl A ρ κ b nL X) : W p l e R s m args below meth c H locs cells slots Q (F0 m pc ls (st.map (mm_cv ρ b))) := by
  obtain ⟨hd, rfl, -⟩ := mm_chk_sp hc
  unfold mm_ivs at hex
  split at hex
  · rename_i As r eci etk
    obtain ⟨Bk, hAs, hst, hlen⟩ := mm_take_eq _ _ _ _ _ etk
    rw [List.append_nil] at hAs
    unfold mm_cs1 at hex
    split at hex
    · rename_i e2
      have e2 := Nat.le_of_ble_eq_true e2
      obtain ⟨v, h1, ecall, rfl⟩ := mm_back_sp hex
      obtain ⟨hk, M2, hM2, hfr, hlo, hnm, hrest⟩ := hw
      rw [eci] at hrest
      obtain ⟨⟨ws', hws⟩, -, hz1, hz2, -⟩ := hok q.1 M2 hk hM2
      have hM := hcall q.1 M2 As v h1 H.size hk hM2 ecall
      obtain ⟨hP, hD, hTy, hS, hl⟩ := id hA
      have run : va_Run p l e R s m args below meth c H locs cells slots 0 0 (F0 m pc ls (st.map (mm_cv ρ b))) (r.map (mm_cv ρ b)) (mm_Post D cl ρ κ b h v h1 H.size (As.map (mm_cv ρ b)).toArray) (va_A (mm_rep ρ κ b h) H.size) := by
        rcases hrest with hrest | ⟨host, hn1, hn2, hn3, hn4⟩
        · exact va_runS (As := As.map (mm_cv ρ b)) (rest := r.map (mm_cv ρ b)) (g := F0 m pc ls (st.map (mm_cv ρ b))) (nL := nL) (Ts := Ts) (own := own) ⟨hx, hb, hml, hown, hts⟩ hM (va_cwS q.2.1 hts hrest hws hz1 hz2 hnm ⟨hfr, hlo⟩)
            ⟨mm_blind, fun U hU hW => ⟨rfl, by rw [hU], by rw [hU]; exact hP, va_K.moved hW.alike hK, mm_nw_warm hW hNW, mm_ty_moved hW.alike hTy, hD.weaken (fun _ _ _ _ => trivial)⟩⟩ rfl (by rw [List.length_map, hAs, List.length_reverse, hlen]) hl.1 (by show st.map _ = _; rw [hst, hAs]; simp) (lv_room (by rw [mm_cat_sum]; exact e2)) hd ⟨hcs.1, hcs.2⟩
        · exact va_runSN (As := As.map (mm_cv ρ b)) (rest := r.map (mm_cv ρ b)) (g := F0 m pc ls (st.map (mm_cv ρ b))) (nL := nL) (Ts := Ts) (own := own) (host := host) ⟨hx, hb, hml, hown, hts⟩ hM ⟨va_cnB q.2.1 hts hn2 hws hz1 hz2 (hNW _ hn1) (hts _ hn3) hnm ⟨hfr, hlo⟩, hts _ hn4, trivial⟩
            ⟨mm_blind, fun U hU hW => ⟨rfl, by rw [hU], by rw [hU]; exact hP, va_K.moved hW.alike hK, mm_nw_warm hW hNW, mm_ty_moved hW.alike hTy, hD.weaken (fun _ _ _ _ => trivial)⟩⟩ rfl (by rw [List.length_map, hAs, List.length_reverse, hlen]) hl.1 (by show st.map _ = _; rw [hst, hAs]; simp) (lv_room (by rw [mm_cat_sum]; exact e2)) hd ⟨hcs.1, hcs.2⟩
      refine mm_after run hA hAz (fun H1 locs1 hA1 => ?_)
      have z := kk H1 locs1 ls hA1
      cases v with
      | none => exact z
      | some v => exact z
    · cases hex
  · cases hex
set_option maxHeartbeats 4000000 in
theorem mm_step {p : Program} {l : Launch} {e : Env} {R : Room} {s : State} {m : MethodId} {args : Array Value} {below : List Frame} {meth : Method} {c : Code} {cells slots : Nat} {Q : State → Prop} {cc : ByteArray} {D : va_G} {A : Nat → Prop} {ρ : Nat → Nat} {κ : Nat → ClassId} {b nL : Nat} {H : Heap} {locs : List Loc} {ls : Array Slot} {pc nx : Nat} {L : mm_L} {st : List Value} {h : mm_H} {X : mm_R} {tg : List Nat} {own : String} {Ts : List Cond} {call : Nat → List Value → mm_H → Option (Option Value × mm_H)} {scr : mm_X} {pool : List (Nat × mm_K)} {ins : Jvm.ClassFile.Instr} (hx : p.tables.exec = Jvm.exec) (hb : c.code = cc) (hml : c.maxLocals = nL) (hown : s.vm.findClass own = some m.cls) (hts : ∀ w ∈ Ts, w.before args s = true) (hK : va_K D cl [] s) (hNW : mm_nw NW s) (hAz : ∀ q, s.heap.size ≤ q → A q) (hcs : cells ≤ R.cells ∧ slots ≤ R.slots) (hok : ∀ (k : Nat) (M : mm_M), k < nM → mm_nth G k = some M → mm_ok G Y WS RM BC cl nM NW k M) (hpool : ∀ (i : Nat) (K : mm_K), mm_look pool i = some K → mm_word G Y WS RM cl nM NW own Ts R i K) (hscr : ∀ (n : Nat) (f : Nat → Int32), scr = some (n, f) → va_X b n f s s.heap ∧ b < s.heap.size ∧ ¬ A b) (hcall : ∀ (k : Nat) (M : mm_M) (As : List Value) (v : Option Value) (h1 : mm_H) (sz : Nat), k < nM → mm_nth G k = some M → call k As h = some (v, h1) → Met l (Y k) (WS k) (RM k) (va_Pc (As.map (mm_cv ρ b)) (mm_Pre NW D cl ρ κ b h sz)) (mm_Post D cl ρ κ b h v h1 sz) 0 0 (va_A (mm_rep ρ κ b h) sz)) (hc : mm_chk cc pc (ins, nx, tg) = true) (hex : mm_ex call scr pool ins nx tg L st h = some X) (hA : mm_At D cl A ρ κ b nL s H locs ls L h) (kk : mm_kk p l e R s m args below meth c cells slots Q D cl A ρ κ b nL X) : W p l e R s m args below meth c H locs cells slots Q (F0 m pc ls (st.map (mm_cv ρ b))) := by
  cases ins
  case iconst n =>
    obtain ⟨hd, rfl, -⟩ := mm_chk_sp hc
    cases hex
    exact lv_iconst hx hb hd rfl (kk H locs ls hA)
  case bipush n =>
    obtain ⟨hd, rfl, -⟩ := mm_chk_sp hc
    cases hex
    exact lv_bipush hx hb hd rfl (kk H locs ls hA)
  case sipush n =>
    obtain ⟨hd, rfl, -⟩ := mm_chk_sp hc
    cases hex
    exact lv_sipush hx hb hd rfl (kk H locs ls hA)
  case lconst n =>
    obtain ⟨hd, rfl, -⟩ := mm_chk_sp hc
    cases hex
    exact lv_lconst hx hb hd rfl (kk H locs ls hA)
  case aconst_null =>
    obtain ⟨hd, rfl, -⟩ := mm_chk_sp hc
    cases hex
    exact lv_null hx hb hd (kk H locs ls hA)
  case ldc i =>
    obtain ⟨hd, rfl, -⟩ := mm_chk_sp hc
    simp only [mm_ex] at hex
    split at hex
    · rename_i v ev
      cases hex
      exact lv_ldc hx hb hown (hts _ (hpool i _ ev)) hd (kk H locs ls hA)
    · cases hex
  case ldc_w i =>
    obtain ⟨hd, rfl, -⟩ := mm_chk_sp hc
    simp only [mm_ex] at hex
    split at hex
    · rename_i v ev
      cases hex
      exact lv_ldcw hx hb hown (hts _ (hpool i _ ev)) hd (kk H locs ls hA)
    · cases hex
  case ldc2_w i =>
    obtain ⟨hd, rfl, -⟩ := mm_chk_sp hc
    simp only [mm_ex] at hex
    split at hex
    · rename_i v ev
      cases hex
      exact lv_ldc2 hx hb hown (hts _ (hpool i _ ev)) hd (kk H locs ls hA)
    · cases hex
  case iload_n k =>
    exact mm_s_iload_n hx hb hc hex hA kk
  case iload i =>
    exact mm_s_iload hx hb hc hex hA kk
  case lload_n k =>
    exact mm_s_lload_n hx hb hc hex hA kk
  case lload i =>
    exact mm_s_lload hx hb hc hex hA kk
  case aload_n k =>
    exact mm_s_aload_n hx hb hc hex hA kk
  case aload i =>
    exact mm_s_aload hx hb hc hex hA kk
  case istore_n k =>
    exact mm_s_istore_n hx hb hc hex hA kk
  case istore i =>
    exact mm_s_istore hx hb hc hex hA kk
  case lstore_n k =>
    exact mm_s_lstore_n hx hb hc hex hA kk
  case lstore i =>
    exact mm_s_lstore hx hb hc hex hA kk
  case astore_n k =>
    exact mm_s_astore_n hx hb hc hex hA kk
  case astore i =>
    exact mm_s_astore hx hb hc hex hA kk
  case iinc i n =>
    exact mm_s_iinc hx hb hc hex hA kk
  case iadd =>
    exact mm_s_iadd hx hb hc hex hA kk
  case isub =>
    exact mm_s_isub hx hb hc hex hA kk
  case imul =>
    exact mm_s_imul hx hb hc hex hA kk
  case iand =>
    exact mm_s_iand hx hb hc hex hA kk
  case ior =>
    exact mm_s_ior hx hb hc hex hA kk
  case ixor =>
    exact mm_s_ixor hx hb hc hex hA kk
  case ishl =>
    exact mm_s_ishl hx hb hc hex hA kk
  case ishr =>
    exact mm_s_ishr hx hb hc hex hA kk
  case iushr =>
    exact mm_s_iushr hx hb hc hex hA kk
  case ladd =>
    exact mm_s_ladd hx hb hc hex hA kk
  case lsub =>
    exact mm_s_lsub hx hb hc hex hA kk
  case lmul =>
    exact mm_s_lmul hx hb hc hex hA kk
  case land =>
    exact mm_s_land hx hb hc hex hA kk
  case lor =>
    exact mm_s_lor hx hb hc hex hA kk
  case lxor =>
    exact mm_s_lxor hx hb hc hex hA kk
  case idiv =>
    exact mm_s_idiv hx hb hc hex hA kk
  case irem =>
    exact mm_s_irem hx hb hc hex hA kk
  case ldiv =>
    exact mm_s_ldiv hx hb hc hex hA kk
  case lrem =>
    exact mm_s_lrem hx hb hc hex hA kk
  case lshl =>
    exact mm_s_lshl hx hb hc hex hA kk
  case lshr =>
    exact mm_s_lshr hx hb hc hex hA kk
  case ineg =>
    obtain ⟨hd, rfl, -⟩ := mm_chk_sp hc
    simp only [mm_ex] at hex
    split at hex
    · cases hex
      exact lv_ineg hx hb hd (kk H locs ls hA)
    · cases hex
  case lneg =>
    obtain ⟨hd, rfl, -⟩ := mm_chk_sp hc
    simp only [mm_ex] at hex
    split at hex
    · cases hex
      exact lv_lneg hx hb hd (kk H locs ls hA)
    · cases hex
  case lcmp =>
    obtain ⟨hd, rfl, -⟩ := mm_chk_sp hc
    simp only [mm_ex] at hex
    split at hex
    · cases hex
      exact W.lcmp hx hb hd (kk H locs ls hA)
    · cases hex
  case i2l =>
    obtain ⟨hd, rfl, -⟩ := mm_chk_sp hc
    simp only [mm_ex] at hex
    split at hex
    · cases hex
      exact lv_i2l hx hb hd rfl (kk H locs ls hA)
    · cases hex
  case l2i =>
    obtain ⟨hd, rfl, -⟩ := mm_chk_sp hc
    simp only [mm_ex] at hex
    split at hex
    · cases hex
      exact lv_l2i hx hb hd rfl (kk H locs ls hA)
    · cases hex
  case dup =>
    obtain ⟨hd, rfl, -⟩ := mm_chk_sp hc
    simp only [mm_ex] at hex
    split at hex
    · cases hex
      exact lv_dup hx hb hd rfl (kk H locs ls hA)
    · cases hex
      exact lv_dup hx hb hd rfl (kk H locs ls hA)
    · cases hex
  case dup2 =>
    obtain ⟨hd, rfl, -⟩ := mm_chk_sp hc
    simp only [mm_ex] at hex
    split at hex
    · cases hex
      exact lv_dup2_11 hx hb hd rfl rfl (kk H locs ls hA)
    · cases hex
  case pop =>
    obtain ⟨hd, rfl, -⟩ := mm_chk_sp hc
    simp only [mm_ex] at hex
    split at hex
    · cases hex
      exact lv_pop hx hb hd rfl (kk H locs ls hA)
    · cases hex
  case goto o =>
    exact mm_s_goto hx hb hc hex hA kk
  case ifCond co o =>
    simp only [mm_ex] at hex
    split at hex
    · exact mm_s_if hx hb hc hex hA kk
    · cases hex
  case if_icmp co o =>
    simp only [mm_ex] at hex
    split at hex
    · exact mm_s_icmp hx hb hc hex hA kk
    · cases hex
  case ifnull o =>
    exact mm_s_ifnull hx hb hc hex hA kk
  case ifnonnull o =>
    exact mm_s_ifnonnull hx hb hc hex hA kk
  case tableswitch d lo hi offs =>
    exact mm_s_tsw hx hb hc hex hA kk
  case iaload =>
    exact mm_s_iaload hK hscr hx hb hc hex hA kk
  case laload =>
    exact mm_s_laload hK hx hb hc hex hA kk
  case baload =>
    exact mm_s_baload hK hx hb hc hex hA kk
  case iastore =>
    exact mm_s_iastore hK hx hb hc hex hA kk
  case lastore =>
    exact mm_s_lastore hK hx hb hc hex hA kk
  case bastore =>
    exact mm_s_bastore hK hx hb hc hex hA kk
  case arraylength =>
    exact mm_s_arraylength hK hscr hx hb hc hex hA kk
  case getfield i =>
    simp only [mm_ex] at hex
    split at hex
    · rename_i q ev
      exact mm_s_getfield hown hts hK (hpool i _ ev) hx hb hc hex hA kk
    · cases hex
  case putfield i =>
    simp only [mm_ex] at hex
    split at hex
    · rename_i q ev
      exact mm_s_putfield hown hts hK (hpool i _ ev) hx hb hc hex hA kk
    · cases hex
  case invokevirtual i =>
    simp only [mm_ex] at hex
    split at hex
    · rename_i q ev
      exact mm_s_virt G Y WS RM BC cl nM NW hx hb hml hown hts hK hNW hAz hcs hok (hpool i _ ev) hcall hc hex hA kk
    · cases hex
  case invokestatic i =>
    simp only [mm_ex] at hex
    split at hex
    · rename_i q ev
      exact mm_s_stat G Y WS RM BC cl nM NW hx hb hml hown hts hK hNW hAz hcs hok (hpool i _ ev) hcall hc hex hA kk
    · rename_i ev
      obtain ⟨hd, rfl, -⟩ := mm_chk_sp hc
      rcases hpool i _ ev with ⟨-, w1, w2, w3, w4, w5, w6⟩ | ⟨e1, -⟩
      · unfold mm_max at hex
        split at hex
        · split at hex
          · rename_i e2
            cases hex
            exact va_mmax hx hb (by rw [hml]; exact hA.2.2.2.2.1.symm) hown (hts _ w1) (hts _ w2) (hts _ w3) (hts _ w4) w5 (by rw [mm_cat_sum]; exact Nat.le_trans (Nat.add_le_add_right (Nat.le_of_ble_eq_true e2) 13) w6) hcs.1 hcs.2 hd (kk H locs ls hA)
          · cases hex
        · cases hex
      · cases e1
    · rename_i ev
      obtain ⟨hd, rfl, -⟩ := mm_chk_sp hc
      rcases hpool i _ ev with ⟨e1, -⟩ | ⟨-, w1, w2, w3, w4, w5, w6⟩
      · cases e1
      · unfold mm_min at hex
        split at hex
        · split at hex
          · rename_i e2
            cases hex
            exact va_mmin_long hx hb (by rw [hml]; exact hA.2.2.2.2.1.symm) hown (hts _ w1) (hts _ w2) (hts _ w3) (hts _ w4) w5 (by rw [mm_cat_sum]; exact Nat.le_trans (Nat.add_le_add_right (Nat.le_of_ble_eq_true e2) 15) w6) hcs.1 hcs.2 hd (kk H locs ls hA)
          · cases hex
        · cases hex
    · cases hex
  all_goals exact nomatch (show (none : Option mm_R) = some X from hex)
/-- A RUN IS A WALK -/
theorem mm_W (l : Launch) {D : va_G} {ρ : Nat → Nat} {κ : Nat → ClassId} {b : Nat} (hok : ∀ (k : Nat) (M : mm_M), k < nM → mm_nth G k = some M → mm_ok G Y WS RM BC cl nM NW k M) (n : Nat)
    (hcall : ∀ (n' : Nat), n' < n → ∀ (k : Nat) (M : mm_M) (As : List Value) (h : mm_H) (v : Option Value) (h1 : mm_H) (sz : Nat), k < nM → mm_nth G k = some M → (mm_lay As).length ≤ M.2.2.1 → mm_run G n' none k 0 (mm_pad (mm_lay As) M.2.2.1) [] h = some (v, h1) → Met l (Y k) (WS k) (RM k) (va_Pc (As.map (mm_cv ρ b)) (mm_Pre NW D cl ρ κ b h sz)) (mm_Post D cl ρ κ b h v h1 sz) 0 0 (va_A (mm_rep ρ κ b h) sz)) :
    ∀ {p : Program} {e : Env} {R : Room} {s : State} {m : MethodId} {args : Array Value} {below : List Frame} {meth : Method} {c : Code} {cells slots : Nat} {Q : State → Prop} {cc : ByteArray} {A : Nat → Prop} {nL k : Nat} {M : mm_M} {own : String} {Ts : List Cond} {scr : mm_X} {v : Option Value} {h1 : mm_H},
    p.tables.exec = Jvm.exec → c.code = cc → c.maxLocals = nL → s.vm.findClass own = some m.cls → (∀ w ∈ Ts, w.before args s = true) → va_K D cl [] s → mm_nw NW s → (∀ q, s.heap.size ≤ q → A q) → (cells ≤ R.cells ∧ slots ≤ R.slots) → mm_nth G k = some M → mm_okW G Y WS RM cl nM NW own cc Ts R M → (∀ (n : Nat) (f : Nat → Int32), scr = some (n, f) → va_X b n f s s.heap ∧ b < s.heap.size ∧ ¬ A b) →
    (∀ (pc nx : Nat) (tg : List Nat) (ins : Jvm.ClassFile.Instr) (st : List Value) (L : mm_L) (H : Heap) (locs : List Loc) (ls : Array Slot), mm_chk cc pc (ins, nx, tg) = true → mm_ret M.2.2.2 ins st = some v → mm_At D cl A ρ κ b nL s H locs ls L h1 → W p l e R s m args below meth c H locs cells slots Q (F0 m pc ls (st.map (mm_cv ρ b)))) →
    ∀ (pc : Nat) (L : mm_L) (st : List Value) (h : mm_H) (H : Heap) (locs : List Loc) (ls : Array Slot), mm_run G n scr k pc L st h = some (v, h1) → mm_At D cl A ρ κ b nL s H locs ls L h → W p l e R s m args below meth c H locs cells slots Q (F0 m pc ls (st.map (mm_cv ρ b))) := by
  induction n with
  | zero =>
    intro p e R s m args below meth c cells slots Q cc A nL k M own Ts scr v h1 hx hb hml hown hts hK hNW hAz hcs hM hokW hscr hret pc L st h H locs ls hrun
    simp only [mm_run] at hrun
    cases hrun
  | succ n ih =>
    intro p e R s m args below meth c cells slots Q cc A nL k M own Ts scr v h1 hx hb hml hown hts hK hNW hAz hcs hM hokW hscr hret pc L st h H locs ls hrun hA
    simp only [mm_run, hM] at hrun
    split at hrun
    · rename_i x ex
      have hc := hokW.1 pc x ex
      split at hrun
      · rename_i v' ev
        cases hrun
        exact hret pc x.2.1 x.2.2 x.1 st L H locs ls hc ev hA
      · split at hrun
        · rename_i pc' L' st' h' eex
          refine mm_step G Y WS RM BC cl nM NW (X := (pc', L', st', h')) hx hb hml hown hts hK hNW hAz hcs hok hokW.2 hscr ?_ hc eex hA (fun H2 locs2 ls2 hA2 => ?_)
          · intro k2 M2 As v2 h2 sz hk2 hM2 hc2
            simp only [mm_cal, hM2] at hc2
            split at hc2
            · rename_i eble
              exact hcall n (Nat.lt_succ_self n) k2 M2 As h v2 h2 sz hk2 hM2 (Nat.le_of_ble_eq_true eble) hc2
            · cases hc2
          · exact ih (fun n' hn' => hcall n' (Nat.lt_succ_of_lt hn')) hx hb hml hown hts hK hNW hAz hcs hM hokW hscr hret pc' L' st' h' H2 locs2 ls2 hrun hA2
        · cases hrun
    · cases hrun
theorem mm_lay_sl (ρ : Nat → Nat) (b : Nat) : ∀ (As : List Value), (lg_sl (As.map (mm_cv ρ b))).length = (mm_lay As).length
  | [] => rfl
  | v :: t => by
    have ih := mm_lay_sl ρ b t
    simp only [lg_sl, List.map_cons, List.flatMap_cons, List.length_append, mm_lay] at ih ⊢
    rw [mm_cv_cat]
    by_cases hv : v.category = 2
    · rw [hv]
      simp [Nat.beq, ih]
      omega
    · have : Nat.beq v.category 2 = false := by
        cases hq : Nat.beq v.category 2 with
        | false => rfl
        | true => exact absurd (Nat.eq_of_beq_eq_true hq) hv
      rw [this, if_neg hv]
      simp [ih]
      omega
theorem mm_lay_get (ρ : Nat → Nat) (b : Nat) : ∀ (As : List Value) (o i : Nat) (v : Value), (mm_lay As)[i]? = some (some v) → (o + i, mm_cv ρ b v) ∈ lv_args o (As.map (mm_cv ρ b))
  | [], o, i, v, h => by simp [mm_lay] at h
  | w :: t, o, i, v, h => by
    simp only [mm_lay] at h
    simp only [List.map_cons, lv_args, mm_cv_cat]
    by_cases hv : w.category = 2
    · rw [hv] at h
      rw [if_pos hv]
      match i, h with
      | 0, h =>
        have : w = v := by simpa [Nat.beq] using h
        subst this
        exact List.mem_cons_self
      | 1, h => simp [Nat.beq] at h
      | i + 2, h =>
        refine List.mem_cons_of_mem _ ?_
        have h2 : (mm_lay t)[i]? = some (some v) := by simpa [Nat.beq] using h
        have z := mm_lay_get ρ b t (o + 2) i v h2
        rwa [show o + 2 + i = o + (i + 2) by omega] at z
    · have hq : Nat.beq w.category 2 = false := by
        cases hq : Nat.beq w.category 2 with
        | false => rfl
        | true => exact absurd (Nat.eq_of_beq_eq_true hq) hv
      rw [hq] at h
      rw [if_neg hv]
      match i, h with
      | 0, h =>
        have : w = v := by simpa using h
        subst this
        exact List.mem_cons_self
      | i + 1, h =>
        refine List.mem_cons_of_mem _ ?_
        have h2 : (mm_lay t)[i]? = some (some v) := by simpa using h
        have z := mm_lay_get ρ b t (o + 1) i v h2
        rwa [show o + 1 + i = o + (i + 1) by omega] at z
theorem mm_pad_get : ∀ (L : mm_L) (n i : Nat) (v : Value), (mm_pad L n)[i]? = some (some v) → L[i]? = some (some v)
  | [], 0, i, v, h => by simp [mm_pad] at h
  | [], n + 1, i, v, h => by
    simp only [mm_pad] at h
    cases i with
    | zero => simp at h
    | succ i =>
      have z := mm_pad_get [] n i v (by simpa using h)
      simp at z
  | x :: l, 0, i, v, h => h
  | x :: l, n + 1, i, v, h => by
    simp only [mm_pad] at h
    cases i with
    | zero => simpa using h
    | succ i =>
      have z := mm_pad_get l n i v (by simpa using h)
      simpa using z
theorem mm_pad_len : ∀ (L : mm_L) (n : Nat), L.length ≤ n → (mm_pad L n).length = n
  | [], 0, _ => rfl
  | [], n + 1, _ => by
    simp only [mm_pad, List.length_cons]
    rw [mm_pad_len [] n (Nat.zero_le n)]
  | x :: l, 0, h => by simp at h
  | x :: l, n + 1, h => by
    simp only [mm_pad, List.length_cons]
    rw [mm_pad_len l n (by simpa using h)]
/-- A RUN IS A CONTRACT -/
theorem mm_Met (l : Launch) {D : va_G} {ρ : Nat → Nat} {κ : Nat → ClassId} {b : Nat} (hok : ∀ (k : Nat) (M : mm_M), k < nM → mm_nth G k = some M → mm_ok G Y WS RM BC cl nM NW k M) :
    ∀ (n : Nat) (k : Nat) (M : mm_M) (As : List Value) (h : mm_H) (v : Option Value) (h1 : mm_H) (sz : Nat), k < nM → mm_nth G k = some M → (mm_lay As).length ≤ M.2.2.1 → mm_run G n none k 0 (mm_pad (mm_lay As) M.2.2.1) [] h = some (v, h1) → Met l (Y k) (WS k) (RM k) (va_Pc (As.map (mm_cv ρ b)) (mm_Pre NW D cl ρ κ b h sz)) (mm_Post D cl ρ κ b h v h1 sz) 0 0 (va_A (mm_rep ρ κ b h) sz) := by
  intro n
  induction n using Nat.strongRecOn with
  | _ n IH =>
    intro k M As h v h1 sz hk hM hlay hrun
    obtain ⟨⟨ws', hws⟩, hpl, hz1, hz2, hokW⟩ := hok k M hk hM
    refine Met.ofW (cc := BC k) (maxL := M.2.2.1) (ret := M.2.2.2) hpl hws ?_
    intro p e s m args below meth c s₁ B hml hv
    obtain ⟨rfl, hsz, hP, hK, hNW, hT, hD0⟩ := hv
    subst hsz
    have hx := B.exec
    have hb := B.bytes
    have hr := B.returns
    have hts := atoms_spec (ws := WS k) B.pre
    have hown : s.vm.findClass (Y k).cls = some m.cls := findClass_of_methodNamed B.named
    have hlocks := B.notSynchronized
    have hl := lv_entry (As.map (mm_cv ρ b)) (n := M.2.2.1) (by rw [mm_lay_sl]; exact hlay)
    rw [lg_entry_eq]
    generalize (lg_sl (As.map (mm_cv ρ b)) ++ List.replicate (M.2.2.1 - (lg_sl (As.map (mm_cv ρ b))).length) Slot.unset).toArray = ls at hl ⊢
    have hloc : mm_loc ρ b M.2.2.1 ls (mm_pad (mm_lay As) M.2.2.1) := ⟨hl.1, mm_pad_len _ _ hlay, hl.2.1, fun i w hi => by
      have z := hl.2.2 _ (mm_lay_get ρ b As 0 i w (mm_pad_get _ _ _ _ hi))
      simpa using z⟩
    refine mm_W G Y WS RM BC cl nM NW l hok n IH (scr := none) (A := va_A (mm_rep ρ κ b h) s.heap.size) hx hb hml hown hts hK hNW (fun q hq => Or.inr hq) ⟨Nat.zero_le _, Nat.zero_le _⟩ hM hokW (fun n f hf => by cases hf) ?_ 0 _ [] h s.heap [] ls hrun ⟨hP, hD0.self, hT, va_S.rf, hloc⟩
    intro pc nx tg ins st L H locs ls hc hret hA
    obtain ⟨hd, -, -⟩ := mm_chk_sp hc
    obtain ⟨hP1, hD1, hT1, hS1, hl1⟩ := hA
    unfold mm_ret at hret
    split at hret
    · split at hret
      · rename_i x er
        cases hret
        exact W.iret (v := x) hx hb (by rw [hr, er]) (fun t ht hW => ⟨rfl, by rw [ht]; exact hP1, mm_ty_moved hW.alike hT1, hD1, hS1.F ht⟩) hS1.2.2 hd
      · rename_i x er
        split at hret
        · rename_i hz
          cases hret
          exact W.zret (v := x) (ty := .boolean) hx hb (by rw [hr, er]) (by rw [mm_narz, hz]) (fun t ht hW => ⟨rfl, by rw [ht]; exact hP1, mm_ty_moved hW.alike hT1, hD1, hS1.F ht⟩) hS1.2.2 hd
        · cases hret
      · cases hret
    · split at hret
      · rename_i C x er
        cases hret
        exact W.aret (v := .ref (ρ x)) (rt := .object C) hx hb (by rw [hr, er]) (Or.inl ⟨_, rfl⟩) (Or.inr ⟨_, rfl⟩) (fun t ht hW => ⟨rfl, by rw [ht]; exact hP1, mm_ty_moved hW.alike hT1, hD1, hS1.F ht⟩) hS1.2.2 hd
      · rename_i C er
        cases hret
        exact W.aret (v := .null) (rt := .object C) hx hb (by rw [hr, er]) (Or.inl ⟨_, rfl⟩) (Or.inl rfl) (fun t ht hW => ⟨rfl, by rw [ht]; exact hP1, mm_ty_moved hW.alike hT1, hD1, hS1.F ht⟩) hS1.2.2 hd
      · cases hret
    · split at hret
      · rename_i x er
        cases hret
        exact W.lret (v := x) hx hb (by rw [hr, er]) (fun t ht hW => ⟨rfl, by rw [ht]; exact hP1, mm_ty_moved hW.alike hT1, hD1, hS1.F ht⟩) hS1.2.2 hd
      · cases hret
    · split at hret
      · rename_i er
        cases hret
        exact W.vret hx hb (by rw [hr, er]) (fun t ht hW => ⟨rfl, by rw [ht]; exact hP1, mm_ty_moved hW.alike hT1, hD1, hS1.F ht⟩) hS1.2.2 hd
      · cases hret
    · cases hret
end MMT
end
section
/-! RUNS AS SUCH: more fuel does no harm; a stretch, a call, a return. -/
theorem mm_back_more {nx : Nat} {L : mm_L} {r : List Value} {o o' : Option (Option Value × mm_H)} {X : mm_R} (ho : ∀ q, o = some q → o' = some q) (h : mm_back nx L r o = some X) : mm_back nx L r o' = some X := by
  obtain ⟨v, h1, e1, -⟩ := mm_back_sp h
  rw [ho _ e1, ← e1]
  exact h
theorem mm_ex_more {call call' : Nat → List Value → mm_H → Option (Option Value × mm_H)} (hc : ∀ j As g q, call j As g = some q → call' j As g = some q) {scr : mm_X} {pool : List (Nat × mm_K)} {ins : Jvm.ClassFile.Instr} {nx : Nat} {tg : List Nat} {L : mm_L} {st : List Value} {h : mm_H} {X : mm_R} (hex : mm_ex call scr pool ins nx tg L st h = some X) : mm_ex call' scr pool ins nx tg L st h = some X := by
  cases ins
  case invokevirtual i =>
    simp only [mm_ex] at hex ⊢
    split at hex
    · rename_i q ev
      unfold mm_ivv at hex ⊢
      split at hex
      · rename_i ci As r e1 e2
        unfold mm_cv1 at hex ⊢
        split at hex
        · rename_i b r'
          split at hex
          · rename_i cj fs e3
            split at hex
            · exact mm_back_more (hc _ _ _) hex
            · cases hex
          · cases hex
        · cases hex
      · cases hex
    · cases hex
  case invokestatic i =>
    simp only [mm_ex] at hex ⊢
    split at hex
    · rename_i q ev
      unfold mm_ivs at hex ⊢
      split at hex
      · rename_i As r e1 e2
        unfold mm_cs1 at hex ⊢
        split at hex
        · exact mm_back_more (hc _ _ _) hex
        · cases hex
      · cases hex
    · exact hex
    · exact hex
    · cases hex
  all_goals exact hex
theorem mm_run_more {G : List mm_M} : ∀ (n : Nat) (scr : mm_X) (k pc : Nat) (L : mm_L) (st : List Value) (h : mm_H) (r : Option Value × mm_H), mm_run G n scr k pc L st h = some r → mm_run G (n + 1) scr k pc L st h = some r := by
  intro n
  induction n with
  | zero =>
    intro scr k pc L st h r hr
    simp only [mm_run] at hr
    cases hr
  | succ n ih =>
    intro scr k pc L st h r hr
    rw [mm_run] at hr ⊢
    split at hr
    · cases hr
    · rename_i M hM
      split at hr
      · rename_i x ex
        split at hr
        · exact hr
        · split at hr
          · rename_i pc' L' st' h' eex
            have e2 := mm_ex_more (call' := mm_cal G (fun j L g => mm_run G (n + 1) none j 0 L [] g)) (fun j As g q hq => by
                unfold mm_cal at hq ⊢
                split at hq
                · cases hq
                · split at hq
                  · exact ih _ _ _ _ _ _ _ hq
                  · cases hq) eex
            rw [e2]
            exact ih _ _ _ _ _ _ _ hr
          · cases hr
      · cases hr
theorem mm_run_le {G : List mm_M} {n m : Nat} (hnm : n ≤ m) {scr : mm_X} {k pc : Nat} {L : mm_L} {st : List Value} {h : mm_H} {r : Option Value × mm_H} (hr : mm_run G n scr k pc L st h = some r) : mm_run G m scr k pc L st h = some r := by
  obtain ⟨d, rfl⟩ := Nat.le.dest hnm
  induction d with
  | zero => exact hr
  | succ d ih => exact mm_run_more _ _ _ _ _ _ _ _ (ih (Nat.le_add_right n d))
/-- it ends so -/
def mm_E (G : List mm_M) (scr : mm_X) (k pc : Nat) (L : mm_L) (st : List Value) (h : mm_H) (r : Option Value × mm_H) : Prop := ∃ n, mm_run G n scr k pc L st h = some r
/-- a call of method k ends so -/
def mm_EC (G : List mm_M) (k : Nat) (As : List Value) (h : mm_H) (r : Option Value × mm_H) : Prop := ∃ M : mm_M, mm_nth G k = some M ∧ Nat.ble (mm_lay As).length M.2.2.1 = true ∧ mm_E G none k 0 (mm_pad (mm_lay As) M.2.2.1) [] h r
theorem mm_E.go {G : List mm_M} {scr : mm_X} {k pc pc' : Nat} {L L' : mm_L} {st st' : List Value} {h h' : mm_H} {r : Option Value × mm_H} (d : Nat) (hs : ∀ n, mm_run G (n + d) scr k pc L st h = mm_run G n scr k pc' L' st' h') (he : mm_E G scr k pc' L' st' h' r) : mm_E G scr k pc L st h r := by
  obtain ⟨n, hn⟩ := he
  exact ⟨n + d, by rw [hs]; exact hn⟩
theorem mm_E.call {G : List mm_M} {scr : mm_X} {k pc nx j : Nat} {M : mm_M} {x : mm_I} {L L' : mm_L} {st st' As : List Value} {h h1 h' : mm_H} {v : Option Value} {r : Option Value × mm_H} (hM : mm_nth G k = some M) (hI : mm_nth M.1 pc = some (some x)) (hr : mm_ret M.2.2.2 x.1 st = none)
    (hex : ∀ call : Nat → List Value → mm_H → Option (Option Value × mm_H), call j As h = some (v, h1) → mm_ex call scr M.2.1 x.1 x.2.1 x.2.2 L st h = some (nx, L', st', h')) (hc : mm_EC G j As h (v, h1)) (he : mm_E G scr k nx L' st' h' r) : mm_E G scr k pc L st h r := by
  obtain ⟨n, hn⟩ := he
  obtain ⟨Mj, h1, h2, n2, h3⟩ := hc
  refine ⟨n + n2 + 1, ?_⟩
  rw [mm_run]
  simp only [hM, hI, hr]
  rw [hex _ (by simp only [mm_cal, h1, h2]; exact mm_run_le (Nat.le_add_left n2 n) h3)]
  exact mm_run_le (Nat.le_add_right n n2) hn
theorem mm_E.ret {G : List mm_M} {scr : mm_X} {k pc : Nat} {M : mm_M} {x : mm_I} {L : mm_L} {st : List Value} {h : mm_H} {v : Option Value} (hM : mm_nth G k = some M) (hI : mm_nth M.1 pc = some (some x)) (hr : mm_ret M.2.2.2 x.1 st = some v) : mm_E G scr k pc L st h (v, h) := by
  refine ⟨1, ?_⟩
  rw [mm_run]
  simp only [hM, hI, hr]
end
section
-- PART A: goes FIRST, ahead of the names: the tables' words, and 'selects' of the private methods out of them =====
/-- a private method of a class that the tables say can be made, by its rows of tables_1 -/
def lw_okq (q : MethodName × Nat) : Prop := (q.1.cls ≠ "java/lang/invoke/MethodHandle" ∧ q.1.cls ≠ "java/lang/invoke/VarHandle") ∧ Cond.instantiable q.1.cls q.2 ∈ tables_1 ∧ Cond.privateMethod q.1 ∈ tables_1 ∧ Cond.instanceMethod q.1 ∈ tables_1
theorem lw_p0 : lw_okq (⟨"HoleCounter", "complexAt", "(I)LHoleCounter$Complex;"⟩, 7) := ⟨⟨by decide +kernel, by decide +kernel⟩, List.mem_of_getElem? (i := 10) (by decide +kernel), List.mem_of_getElem? (i := 122) (by decide +kernel), List.mem_of_getElem? (i := 123) (by decide +kernel)⟩
theorem lw_p1 : lw_okq (⟨"HoleCounter$Complex", "numberAnew", "()V"⟩, 5) := ⟨⟨by decide +kernel, by decide +kernel⟩, List.mem_of_getElem? (i := 18) (by decide +kernel), List.mem_of_getElem? (i := 139) (by decide +kernel), List.mem_of_getElem? (i := 140) (by decide +kernel)⟩
theorem lw_p2 : lw_okq (⟨"HoleCounter", "independentHoles", "(III)I"⟩, 7) := ⟨⟨by decide +kernel, by decide +kernel⟩, List.mem_of_getElem? (i := 10) (by decide +kernel), List.mem_of_getElem? (i := 190) (by decide +kernel), List.mem_of_getElem? (i := 191) (by decide +kernel)⟩
theorem lw_p3 : lw_okq (⟨"HoleCounter", "boundaryRank", "(LHoleCounter$Complex;II)I"⟩, 7) := ⟨⟨by decide +kernel, by decide +kernel⟩, List.mem_of_getElem? (i := 10) (by decide +kernel), List.mem_of_getElem? (i := 194) (by decide +kernel), List.mem_of_getElem? (i := 195) (by decide +kernel)⟩
theorem lw_p4 : lw_okq (⟨"HoleCounter", "layBoundary", "(LHoleCounter$Complex;I)V"⟩, 7) := ⟨⟨by decide +kernel, by decide +kernel⟩, List.mem_of_getElem? (i := 10) (by decide +kernel), List.mem_of_getElem? (i := 198) (by decide +kernel), List.mem_of_getElem? (i := 199) (by decide +kernel)⟩
theorem lw_p5 : lw_okq (⟨"HoleCounter", "writeBoundary", "(LHoleCounter$Complex;III)V"⟩, 7) := ⟨⟨by decide +kernel, by decide +kernel⟩, List.mem_of_getElem? (i := 10) (by decide +kernel), List.mem_of_getElem? (i := 206) (by decide +kernel), List.mem_of_getElem? (i := 207) (by decide +kernel)⟩
theorem lw_p6 : lw_okq (⟨"HoleCounter$Grid", "load", "(II)V"⟩, 11) := ⟨⟨by decide +kernel, by decide +kernel⟩, List.mem_of_getElem? (i := 44) (by decide +kernel), List.mem_of_getElem? (i := 222) (by decide +kernel), List.mem_of_getElem? (i := 223) (by decide +kernel)⟩
theorem lw_p7 : lw_okq (⟨"HoleCounter$Grid", "pivotRow", "(III)I"⟩, 11) := ⟨⟨by decide +kernel, by decide +kernel⟩, List.mem_of_getElem? (i := 44) (by decide +kernel), List.mem_of_getElem? (i := 226) (by decide +kernel), List.mem_of_getElem? (i := 227) (by decide +kernel)⟩
theorem lw_p8 : lw_okq (⟨"HoleCounter$Grid", "swapRows", "(II)V"⟩, 11) := ⟨⟨by decide +kernel, by decide +kernel⟩, List.mem_of_getElem? (i := 44) (by decide +kernel), List.mem_of_getElem? (i := 230) (by decide +kernel), List.mem_of_getElem? (i := 231) (by decide +kernel)⟩
theorem lw_p9 : lw_okq (⟨"HoleCounter$Grid", "clearBelow", "(III)V"⟩, 11) := ⟨⟨by decide +kernel, by decide +kernel⟩, List.mem_of_getElem? (i := 44) (by decide +kernel), List.mem_of_getElem? (i := 234) (by decide +kernel), List.mem_of_getElem? (i := 235) (by decide +kernel)⟩
theorem lw_p10 : lw_okq (⟨"HoleCounter$Grid", "inverseOf", "(I)J"⟩, 11) := ⟨⟨by decide +kernel, by decide +kernel⟩, List.mem_of_getElem? (i := 44) (by decide +kernel), List.mem_of_getElem? (i := 238) (by decide +kernel), List.mem_of_getElem? (i := 239) (by decide +kernel)⟩
theorem lw_p11 : lw_okq (⟨"HoleCounter$Grid", "addRow", "(IIJ)V"⟩, 11) := ⟨⟨by decide +kernel, by decide +kernel⟩, List.mem_of_getElem? (i := 44) (by decide +kernel), List.mem_of_getElem? (i := 242) (by decide +kernel), List.mem_of_getElem? (i := 243) (by decide +kernel)⟩
theorem lw_p12 : lw_okq (⟨"HoleCounter$Grid", "splitMinor", "()I"⟩, 11) := ⟨⟨by decide +kernel, by decide +kernel⟩, List.mem_of_getElem? (i := 44) (by decide +kernel), List.mem_of_getElem? (i := 254) (by decide +kernel), List.mem_of_getElem? (i := 255) (by decide +kernel)⟩
theorem lw_p13 : lw_okq (⟨"HoleCounter$Grid", "noteKind", "(II)V"⟩, 11) := ⟨⟨by decide +kernel, by decide +kernel⟩, List.mem_of_getElem? (i := 44) (by decide +kernel), List.mem_of_getElem? (i := 263) (by decide +kernel), List.mem_of_getElem? (i := 264) (by decide +kernel)⟩
theorem lw_p14 : lw_okq (⟨"HoleCounter$Grid", "dividedBy", "(II)I"⟩, 11) := ⟨⟨by decide +kernel, by decide +kernel⟩, List.mem_of_getElem? (i := 44) (by decide +kernel), List.mem_of_getElem? (i := 319) (by decide +kernel), List.mem_of_getElem? (i := 320) (by decide +kernel)⟩
theorem lw_p15 : lw_okq (⟨"HoleCounter", "imageSet", "(I)I"⟩, 7) := ⟨⟨by decide +kernel, by decide +kernel⟩, List.mem_of_getElem? (i := 10) (by decide +kernel), List.mem_of_getElem? (i := 331) (by decide +kernel), List.mem_of_getElem? (i := 332) (by decide +kernel)⟩
def lw_privs_1 : List (MethodName × Nat) := [(⟨"HoleCounter", "complexAt", "(I)LHoleCounter$Complex;"⟩, 7), (⟨"HoleCounter$Complex", "numberAnew", "()V"⟩, 5), (⟨"HoleCounter", "independentHoles", "(III)I"⟩, 7), (⟨"HoleCounter", "boundaryRank", "(LHoleCounter$Complex;II)I"⟩, 7), (⟨"HoleCounter", "layBoundary", "(LHoleCounter$Complex;I)V"⟩, 7), (⟨"HoleCounter", "writeBoundary", "(LHoleCounter$Complex;III)V"⟩, 7), (⟨"HoleCounter$Grid", "load", "(II)V"⟩, 11), (⟨"HoleCounter$Grid", "pivotRow", "(III)I"⟩, 11), (⟨"HoleCounter$Grid", "swapRows", "(II)V"⟩, 11), (⟨"HoleCounter$Grid", "clearBelow", "(III)V"⟩, 11), (⟨"HoleCounter$Grid", "inverseOf", "(I)J"⟩, 11), (⟨"HoleCounter$Grid", "addRow", "(IIJ)V"⟩, 11), (⟨"HoleCounter$Grid", "splitMinor", "()I"⟩, 11), (⟨"HoleCounter$Grid", "noteKind", "(II)V"⟩, 11), (⟨"HoleCounter$Grid", "dividedBy", "(II)I"⟩, 11), (⟨"HoleCounter", "imageSet", "(I)I"⟩, 7)]
theorem lw_r1 : ∀ q ∈ lw_privs_1, lw_okq q := List.forall_mem_cons.mpr ⟨lw_p0, List.forall_mem_cons.mpr ⟨lw_p1, List.forall_mem_cons.mpr ⟨lw_p2, List.forall_mem_cons.mpr ⟨lw_p3, List.forall_mem_cons.mpr ⟨lw_p4, List.forall_mem_cons.mpr ⟨lw_p5, List.forall_mem_cons.mpr ⟨lw_p6, List.forall_mem_cons.mpr ⟨lw_p7, List.forall_mem_cons.mpr ⟨lw_p8, List.forall_mem_cons.mpr ⟨lw_p9, List.forall_mem_cons.mpr ⟨lw_p10, List.forall_mem_cons.mpr ⟨lw_p11, List.forall_mem_cons.mpr ⟨lw_p12, List.forall_mem_cons.mpr ⟨lw_p13, List.forall_mem_cons.mpr ⟨lw_p14, List.forall_mem_cons.mpr ⟨lw_p15, fun _ h => absurd h List.not_mem_nil⟩⟩⟩⟩⟩⟩⟩⟩⟩⟩⟩⟩⟩⟩⟩⟩
theorem lw_p16 : lw_okq (⟨"HoleCounter", "imageSign", "(I)I"⟩, 7) := ⟨⟨by decide +kernel, by decide +kernel⟩, List.mem_of_getElem? (i := 10) (by decide +kernel), List.mem_of_getElem? (i := 341) (by decide +kernel), List.mem_of_getElem? (i := 342) (by decide +kernel)⟩
theorem lw_p17 : lw_okq (⟨"HoleCounter", "layMap", "(I)V"⟩, 7) := ⟨⟨by decide +kernel, by decide +kernel⟩, List.mem_of_getElem? (i := 10) (by decide +kernel), List.mem_of_getElem? (i := 349) (by decide +kernel), List.mem_of_getElem? (i := 350) (by decide +kernel)⟩
theorem lw_p18 : lw_okq (⟨"HoleCounter", "findCocycles", "(LHoleCounter$Complex;)I"⟩, 7) := ⟨⟨by decide +kernel, by decide +kernel⟩, List.mem_of_getElem? (i := 10) (by decide +kernel), List.mem_of_getElem? (i := 361) (by decide +kernel), List.mem_of_getElem? (i := 362) (by decide +kernel)⟩
theorem lw_p19 : lw_okq (⟨"HoleCounterModel", "many", "(II)I"⟩, 15) := ⟨⟨by decide +kernel, by decide +kernel⟩, List.mem_of_getElem? (i := 389) (by decide +kernel), List.mem_of_getElem? (i := 452) (by decide +kernel), List.mem_of_getElem? (i := 453) (by decide +kernel)⟩
theorem lw_p20 : lw_okq (⟨"HoleCounterModel", "at", "(III)I"⟩, 15) := ⟨⟨by decide +kernel, by decide +kernel⟩, List.mem_of_getElem? (i := 389) (by decide +kernel), List.mem_of_getElem? (i := 471) (by decide +kernel), List.mem_of_getElem? (i := 472) (by decide +kernel)⟩
theorem lw_p21 : lw_okq (⟨"HoleCounterModel", "boundaryRank", "(II)I"⟩, 15) := ⟨⟨by decide +kernel, by decide +kernel⟩, List.mem_of_getElem? (i := 389) (by decide +kernel), List.mem_of_getElem? (i := 490) (by decide +kernel), List.mem_of_getElem? (i := 491) (by decide +kernel)⟩
theorem lw_p22 : lw_okq (⟨"HoleCounterModel", "boundaryOf", "(II)V"⟩, 15) := ⟨⟨by decide +kernel, by decide +kernel⟩, List.mem_of_getElem? (i := 389) (by decide +kernel), List.mem_of_getElem? (i := 494) (by decide +kernel), List.mem_of_getElem? (i := 495) (by decide +kernel)⟩
theorem lw_p23 : lw_okq (⟨"HoleCounterModel", "shape", "(II)V"⟩, 15) := ⟨⟨by decide +kernel, by decide +kernel⟩, List.mem_of_getElem? (i := 389) (by decide +kernel), List.mem_of_getElem? (i := 498) (by decide +kernel), List.mem_of_getElem? (i := 499) (by decide +kernel)⟩
theorem lw_p24 : lw_okq (⟨"HoleCounterModel", "putBoundary", "(IIII)V"⟩, 15) := ⟨⟨by decide +kernel, by decide +kernel⟩, List.mem_of_getElem? (i := 389) (by decide +kernel), List.mem_of_getElem? (i := 502) (by decide +kernel), List.mem_of_getElem? (i := 503) (by decide +kernel)⟩
theorem lw_p25 : lw_okq (⟨"HoleCounterModel", "rankOf", "()I"⟩, 15) := ⟨⟨by decide +kernel, by decide +kernel⟩, List.mem_of_getElem? (i := 389) (by decide +kernel), List.mem_of_getElem? (i := 506) (by decide +kernel), List.mem_of_getElem? (i := 507) (by decide +kernel)⟩
theorem lw_p26 : lw_okq (⟨"HoleCounterModel", "rankModulo", "(J)I"⟩, 15) := ⟨⟨by decide +kernel, by decide +kernel⟩, List.mem_of_getElem? (i := 389) (by decide +kernel), List.mem_of_getElem? (i := 511) (by decide +kernel), List.mem_of_getElem? (i := 512) (by decide +kernel)⟩
theorem lw_p27 : lw_okq (⟨"HoleCounterModel", "exchange", "(II)V"⟩, 15) := ⟨⟨by decide +kernel, by decide +kernel⟩, List.mem_of_getElem? (i := 389) (by decide +kernel), List.mem_of_getElem? (i := 515) (by decide +kernel), List.mem_of_getElem? (i := 516) (by decide +kernel)⟩
theorem lw_p28 : lw_okq (⟨"HoleCounterModel", "sweep", "(IIJ)V"⟩, 15) := ⟨⟨by decide +kernel, by decide +kernel⟩, List.mem_of_getElem? (i := 389) (by decide +kernel), List.mem_of_getElem? (i := 519) (by decide +kernel), List.mem_of_getElem? (i := 520) (by decide +kernel)⟩
theorem lw_p29 : lw_okq (⟨"HoleCounterModel", "diagonalise", "()V"⟩, 15) := ⟨⟨by decide +kernel, by decide +kernel⟩, List.mem_of_getElem? (i := 389) (by decide +kernel), List.mem_of_getElem? (i := 536) (by decide +kernel), List.mem_of_getElem? (i := 537) (by decide +kernel)⟩
theorem lw_p30 : lw_okq (⟨"HoleCounterModel", "start", "(I)Z"⟩, 15) := ⟨⟨by decide +kernel, by decide +kernel⟩, List.mem_of_getElem? (i := 389) (by decide +kernel), List.mem_of_getElem? (i := 540) (by decide +kernel), List.mem_of_getElem? (i := 541) (by decide +kernel)⟩
theorem lw_p31 : lw_okq (⟨"HoleCounterModel", "downwards", "(I)V"⟩, 15) := ⟨⟨by decide +kernel, by decide +kernel⟩, List.mem_of_getElem? (i := 389) (by decide +kernel), List.mem_of_getElem? (i := 544) (by decide +kernel), List.mem_of_getElem? (i := 545) (by decide +kernel)⟩
def lw_privs_2 : List (MethodName × Nat) := [(⟨"HoleCounter", "imageSign", "(I)I"⟩, 7), (⟨"HoleCounter", "layMap", "(I)V"⟩, 7), (⟨"HoleCounter", "findCocycles", "(LHoleCounter$Complex;)I"⟩, 7), (⟨"HoleCounterModel", "many", "(II)I"⟩, 15), (⟨"HoleCounterModel", "at", "(III)I"⟩, 15), (⟨"HoleCounterModel", "boundaryRank", "(II)I"⟩, 15), (⟨"HoleCounterModel", "boundaryOf", "(II)V"⟩, 15), (⟨"HoleCounterModel", "shape", "(II)V"⟩, 15), (⟨"HoleCounterModel", "putBoundary", "(IIII)V"⟩, 15), (⟨"HoleCounterModel", "rankOf", "()I"⟩, 15), (⟨"HoleCounterModel", "rankModulo", "(J)I"⟩, 15), (⟨"HoleCounterModel", "exchange", "(II)V"⟩, 15), (⟨"HoleCounterModel", "sweep", "(IIJ)V"⟩, 15), (⟨"HoleCounterModel", "diagonalise", "()V"⟩, 15), (⟨"HoleCounterModel", "start", "(I)Z"⟩, 15), (⟨"HoleCounterModel", "downwards", "(I)V"⟩, 15)]
theorem lw_r2 : ∀ q ∈ lw_privs_2, lw_okq q := List.forall_mem_cons.mpr ⟨lw_p16, List.forall_mem_cons.mpr ⟨lw_p17, List.forall_mem_cons.mpr ⟨lw_p18, List.forall_mem_cons.mpr ⟨lw_p19, List.forall_mem_cons.mpr ⟨lw_p20, List.forall_mem_cons.mpr ⟨lw_p21, List.forall_mem_cons.mpr ⟨lw_p22, List.forall_mem_cons.mpr ⟨lw_p23, List.forall_mem_cons.mpr ⟨lw_p24, List.forall_mem_cons.mpr ⟨lw_p25, List.forall_mem_cons.mpr ⟨lw_p26, List.forall_mem_cons.mpr ⟨lw_p27, List.forall_mem_cons.mpr ⟨lw_p28, List.forall_mem_cons.mpr ⟨lw_p29, List.forall_mem_cons.mpr ⟨lw_p30, List.forall_mem_cons.mpr ⟨lw_p31, fun _ h => absurd h List.not_mem_nil⟩⟩⟩⟩⟩⟩⟩⟩⟩⟩⟩⟩⟩⟩⟩⟩
theorem lw_p32 : lw_okq (⟨"HoleCounterModel", "sideways", "(I)V"⟩, 15) := ⟨⟨by decide +kernel, by decide +kernel⟩, List.mem_of_getElem? (i := 389) (by decide +kernel), List.mem_of_getElem? (i := 548) (by decide +kernel), List.mem_of_getElem? (i := 549) (by decide +kernel)⟩
theorem lw_p33 : lw_okq (⟨"HoleCounterModel", "clean", "(I)Z"⟩, 15) := ⟨⟨by decide +kernel, by decide +kernel⟩, List.mem_of_getElem? (i := 389) (by decide +kernel), List.mem_of_getElem? (i := 552) (by decide +kernel), List.mem_of_getElem? (i := 553) (by decide +kernel)⟩
theorem lw_p34 : lw_okq (⟨"HoleCounterModel", "isSimplex", "(II)Z"⟩, 15) := ⟨⟨by decide +kernel, by decide +kernel⟩, List.mem_of_getElem? (i := 389) (by decide +kernel), List.mem_of_getElem? (i := 563) (by decide +kernel), List.mem_of_getElem? (i := 564) (by decide +kernel)⟩
theorem lw_p35 : lw_okq (⟨"HoleCounterModel", "isCycle", "(II)Z"⟩, 15) := ⟨⟨by decide +kernel, by decide +kernel⟩, List.mem_of_getElem? (i := 389) (by decide +kernel), List.mem_of_getElem? (i := 579) (by decide +kernel), List.mem_of_getElem? (i := 580) (by decide +kernel)⟩
theorem lw_p36 : lw_okq (⟨"HoleCounterModel", "volume", "()J"⟩, 15) := ⟨⟨by decide +kernel, by decide +kernel⟩, List.mem_of_getElem? (i := 389) (by decide +kernel), List.mem_of_getElem? (i := 584) (by decide +kernel), List.mem_of_getElem? (i := 585) (by decide +kernel)⟩
theorem lw_p37 : lw_okq (⟨"HoleCounterModel", "imageOf", "(I)I"⟩, 15) := ⟨⟨by decide +kernel, by decide +kernel⟩, List.mem_of_getElem? (i := 389) (by decide +kernel), List.mem_of_getElem? (i := 596) (by decide +kernel), List.mem_of_getElem? (i := 597) (by decide +kernel)⟩
theorem lw_p38 : lw_okq (⟨"HoleCounterModel", "given", "(II)I"⟩, 15) := ⟨⟨by decide +kernel, by decide +kernel⟩, List.mem_of_getElem? (i := 389) (by decide +kernel), List.mem_of_getElem? (i := 605) (by decide +kernel), List.mem_of_getElem? (i := 606) (by decide +kernel)⟩
theorem lw_p39 : lw_okq (⟨"HoleCounterModel", "putMap", "(II)V"⟩, 15) := ⟨⟨by decide +kernel, by decide +kernel⟩, List.mem_of_getElem? (i := 389) (by decide +kernel), List.mem_of_getElem? (i := 613) (by decide +kernel), List.mem_of_getElem? (i := 614) (by decide +kernel)⟩
theorem lw_p40 : lw_okq (⟨"HoleCounterModel", "note", "(I)V"⟩, 15) := ⟨⟨by decide +kernel, by decide +kernel⟩, List.mem_of_getElem? (i := 389) (by decide +kernel), List.mem_of_getElem? (i := 621) (by decide +kernel), List.mem_of_getElem? (i := 622) (by decide +kernel)⟩
theorem lw_p41 : lw_okq (⟨"HoleCounterModel", "numberOf", "(II)I"⟩, 15) := ⟨⟨by decide +kernel, by decide +kernel⟩, List.mem_of_getElem? (i := 389) (by decide +kernel), List.mem_of_getElem? (i := 625) (by decide +kernel), List.mem_of_getElem? (i := 626) (by decide +kernel)⟩
theorem lw_p42 : lw_okq (⟨"HoleCounterModel", "coboundary", "(I)I"⟩, 15) := ⟨⟨by decide +kernel, by decide +kernel⟩, List.mem_of_getElem? (i := 389) (by decide +kernel), List.mem_of_getElem? (i := 629) (by decide +kernel), List.mem_of_getElem? (i := 630) (by decide +kernel)⟩
theorem lw_p43 : lw_okq (⟨"HoleCounterModel", "extend", "(II)I"⟩, 15) := ⟨⟨by decide +kernel, by decide +kernel⟩, List.mem_of_getElem? (i := 389) (by decide +kernel), List.mem_of_getElem? (i := 633) (by decide +kernel), List.mem_of_getElem? (i := 634) (by decide +kernel)⟩
theorem lw_p44 : lw_okq (⟨"HoleCounterModel", "cocycles", "(I)I"⟩, 15) := ⟨⟨by decide +kernel, by decide +kernel⟩, List.mem_of_getElem? (i := 389) (by decide +kernel), List.mem_of_getElem? (i := 637) (by decide +kernel), List.mem_of_getElem? (i := 638) (by decide +kernel)⟩
theorem lw_p45 : lw_okq (⟨"HoleCounterModel", "product", "(II)I"⟩, 15) := ⟨⟨by decide +kernel, by decide +kernel⟩, List.mem_of_getElem? (i := 389) (by decide +kernel), List.mem_of_getElem? (i := 641) (by decide +kernel), List.mem_of_getElem? (i := 642) (by decide +kernel)⟩
def lw_privs_3 : List (MethodName × Nat) := [(⟨"HoleCounterModel", "sideways", "(I)V"⟩, 15), (⟨"HoleCounterModel", "clean", "(I)Z"⟩, 15), (⟨"HoleCounterModel", "isSimplex", "(II)Z"⟩, 15), (⟨"HoleCounterModel", "isCycle", "(II)Z"⟩, 15), (⟨"HoleCounterModel", "volume", "()J"⟩, 15), (⟨"HoleCounterModel", "imageOf", "(I)I"⟩, 15), (⟨"HoleCounterModel", "given", "(II)I"⟩, 15), (⟨"HoleCounterModel", "putMap", "(II)V"⟩, 15), (⟨"HoleCounterModel", "note", "(I)V"⟩, 15), (⟨"HoleCounterModel", "numberOf", "(II)I"⟩, 15), (⟨"HoleCounterModel", "coboundary", "(I)I"⟩, 15), (⟨"HoleCounterModel", "extend", "(II)I"⟩, 15), (⟨"HoleCounterModel", "cocycles", "(I)I"⟩, 15), (⟨"HoleCounterModel", "product", "(II)I"⟩, 15)]
theorem lw_r3 : ∀ q ∈ lw_privs_3, lw_okq q := List.forall_mem_cons.mpr ⟨lw_p32, List.forall_mem_cons.mpr ⟨lw_p33, List.forall_mem_cons.mpr ⟨lw_p34, List.forall_mem_cons.mpr ⟨lw_p35, List.forall_mem_cons.mpr ⟨lw_p36, List.forall_mem_cons.mpr ⟨lw_p37, List.forall_mem_cons.mpr ⟨lw_p38, List.forall_mem_cons.mpr ⟨lw_p39, List.forall_mem_cons.mpr ⟨lw_p40, List.forall_mem_cons.mpr ⟨lw_p41, List.forall_mem_cons.mpr ⟨lw_p42, List.forall_mem_cons.mpr ⟨lw_p43, List.forall_mem_cons.mpr ⟨lw_p44, List.forall_mem_cons.mpr ⟨lw_p45, fun _ h => absurd h List.not_mem_nil⟩⟩⟩⟩⟩⟩⟩⟩⟩⟩⟩⟩⟩⟩
def lw_privs : List (MethodName × Nat) := lw_privs_1 ++ (lw_privs_2 ++ (lw_privs_3))
def lw_tbl : List Cond := k2_sels lw_privs ++ tables_1
theorem lw_privs_ok : ∀ q ∈ lw_privs, lw_okq q := by
  show ∀ q ∈ lw_privs_1 ++ (lw_privs_2 ++ (lw_privs_3)), lw_okq q
  exact List.forall_mem_append.mpr ⟨lw_r1, List.forall_mem_append.mpr ⟨lw_r2, lw_r3⟩⟩
end
section
def kc0 : String := "HoleCounter$Complex"
def kf0 : u_T := fun k => match k with
  | 0 => ("HoleCounter$Complex", "place", "[I", true)
  | 1 => ("HoleCounter$Complex", "kept", "[I", true)
  | 2 => ("HoleCounter$Complex", "sizes", "[I", true)
  | 3 => ("HoleCounter$Complex", "sets", "[I", true)
  | _ => ("HoleCounter$Complex", "grown", "[I", true)
def kt0 : Nat → FieldType := fun k => match k with
  | 0 => .array .int
  | 1 => .array .int
  | 2 => .array .int
  | 3 => .array .int
  | _ => .array .int
theorem kn0 : ∀ a, a < 5 → ∀ b, b < 5 → a ≠ b → (kf0 a).2.1 ≠ (kf0 b).2.1 := by decide +kernel
theorem kto0 : ∀ k, k < 5 → parseFieldDescriptor (kf0 k).2.2.1 = some (kt0 k) := by decide +kernel
theorem ki0 : ∀ w ∈ u_ws kc0 kf0 5, w ∈ lw_tbl := by decide +kernel
def kc1 : String := "HoleCounter$Grid"
def kf1 : u_T := fun k => match k with
  | 0 => ("HoleCounter$Grid", "cells", "[I", true)
  | 1 => ("HoleCounter$Grid", "work", "[I", true)
  | 2 => ("HoleCounter$Grid", "pivots", "[I", true)
  | 3 => ("HoleCounter$Grid", "factors", "[I", true)
  | 4 => ("HoleCounter$Grid", "primes", "[I", true)
  | 5 => ("HoleCounter$Grid", "powers", "[I", true)
  | 6 => ("HoleCounter$Grid", "rows", "I", false)
  | 7 => ("HoleCounter$Grid", "columns", "I", false)
  | 8 => ("HoleCounter$Grid", "modulus", "I", false)
  | 9 => ("HoleCounter$Grid", "minor", "J", false)
  | _ => ("HoleCounter$Grid", "kinds", "I", false)
def kt1 : Nat → FieldType := fun k => match k with
  | 0 => .array .int
  | 1 => .array .int
  | 2 => .array .int
  | 3 => .array .int
  | 4 => .array .int
  | 5 => .array .int
  | 6 => .int
  | 7 => .int
  | 8 => .int
  | 9 => .long
  | _ => .int
theorem kn1 : ∀ a, a < 11 → ∀ b, b < 11 → a ≠ b → (kf1 a).2.1 ≠ (kf1 b).2.1 := by decide +kernel
theorem kto1 : ∀ k, k < 11 → parseFieldDescriptor (kf1 k).2.2.1 = some (kt1 k) := by decide +kernel
theorem ki1 : ∀ w ∈ u_ws kc1 kf1 11, w ∈ lw_tbl := by decide +kernel
def kc2 : String := "HoleCounter$Span"
def kf2 : u_T := fun k => match k with
  | _ => ("HoleCounter$Span", "rows", "[J", true)
def kt2 : Nat → FieldType := fun k => match k with
  | _ => .array .long
theorem kn2 : ∀ a, a < 1 → ∀ b, b < 1 → a ≠ b → (kf2 a).2.1 ≠ (kf2 b).2.1 := by decide +kernel
theorem kto2 : ∀ k, k < 1 → parseFieldDescriptor (kf2 k).2.2.1 = some (kt2 k) := by decide +kernel
theorem ki2 : ∀ w ∈ u_ws kc2 kf2 1, w ∈ lw_tbl := by decide +kernel
def kc3 : String := "HoleCounter"
def kf3 : u_T := fun k => match k with
  | 0 => ("HoleCounter", "source", "LHoleCounter$Complex;", true)
  | 1 => ("HoleCounter", "target", "LHoleCounter$Complex;", true)
  | 2 => ("HoleCounter", "images", "[I", true)
  | 3 => ("HoleCounter", "grid", "LHoleCounter$Grid;", true)
  | 4 => ("HoleCounter", "span", "LHoleCounter$Span;", true)
  | 5 => ("HoleCounter", "fronts", "[I", true)
  | _ => ("HoleCounter", "backs", "[I", true)
def kt3 : Nat → FieldType := fun k => match k with
  | 0 => .object "HoleCounter$Complex"
  | 1 => .object "HoleCounter$Complex"
  | 2 => .array .int
  | 3 => .object "HoleCounter$Grid"
  | 4 => .object "HoleCounter$Span"
  | 5 => .array .int
  | _ => .array .int
theorem kn3 : ∀ a, a < 7 → ∀ b, b < 7 → a ≠ b → (kf3 a).2.1 ≠ (kf3 b).2.1 := by decide +kernel
theorem kto3 : ∀ k, k < 7 → parseFieldDescriptor (kf3 k).2.2.1 = some (kt3 k) := by decide +kernel
theorem ki3 : ∀ w ∈ u_ws kc3 kf3 7, w ∈ lw_tbl := by decide +kernel
def kc4 : String := "HoleCounterModel"
def kf4 : u_T := fun k => match k with
  | 0 => ("HoleCounterModel", "has", "[Z", true)
  | 1 => ("HoleCounterModel", "kept", "[I", true)
  | 2 => ("HoleCounterModel", "f", "[I", true)
  | 3 => ("HoleCounterModel", "rows", "I", false)
  | 4 => ("HoleCounterModel", "columns", "I", false)
  | 5 => ("HoleCounterModel", "matrix", "[J", true)
  | 6 => ("HoleCounterModel", "work", "[J", true)
  | 7 => ("HoleCounterModel", "diagonal", "I", false)
  | 8 => ("HoleCounterModel", "divisor", "[J", true)
  | 9 => ("HoleCounterModel", "cocycle", "[I", true)
  | 10 => ("HoleCounterModel", "span", "[I", true)
  | 11 => ("HoleCounterModel", "triangles", "I", false)
  | 12 => ("HoleCounterModel", "firstEdge", "[I", true)
  | 13 => ("HoleCounterModel", "secondEdge", "[I", true)
  | _ => ("HoleCounterModel", "longEdge", "[I", true)
def kt4 : Nat → FieldType := fun k => match k with
  | 0 => .array .boolean
  | 1 => .array .int
  | 2 => .array .int
  | 3 => .int
  | 4 => .int
  | 5 => .array .long
  | 6 => .array .long
  | 7 => .int
  | 8 => .array .long
  | 9 => .array .int
  | 10 => .array .int
  | 11 => .int
  | 12 => .array .int
  | 13 => .array .int
  | _ => .array .int
theorem kn4 : ∀ a, a < 15 → ∀ b, b < 15 → a ≠ b → (kf4 a).2.1 ≠ (kf4 b).2.1 := by decide +kernel
theorem kto4 : ∀ k, k < 15 → parseFieldDescriptor (kf4 k).2.2.1 = some (kt4 k) := by decide +kernel
theorem ki4 : ∀ w ∈ u_ws kc4 kf4 15, w ∈ lw_tbl := by decide +kernel
abbrev kl : List vw_C := [(kc0, kf0, 5), (kc1, kf1, 11), (kc2, kf2, 1), (kc3, kf3, 7), (kc4, kf4, 15)]
def kG : List Cond := lw_tbl.filter goodWord
theorem kG_mem {w : Cond} (n : Nat) (h : lw_tbl[n]? = some w) (g : goodWord w = true) : w ∈ kG := List.mem_filter.mpr ⟨List.mem_of_getElem? h, g⟩
theorem kG_in {w : Cond} (h : w ∈ kG) : w ∈ lw_tbl := (List.mem_filter.mp h).1
theorem kG_good {Ts : List Cond} (hT : ∀ w ∈ kG, w ∈ Ts) {ws : List Cond} (h : ∀ w ∈ ws, w ∈ kG) : GoodIn Ts ws := fun w hw => ⟨hT w (h w hw), good_of_word (List.mem_filter.mp (h w hw)).2⟩
theorem kG_V {Ts : List Cond} (hT : ∀ w ∈ kG, w ∈ Ts) {own C : String} {i ml : Nat} {y : MethodName} {cc : ByteArray} {rt : Option FieldType} (h1 : Cond.methodLink own i y ∈ kG) (h2 : Cond.instanceMethod y ∈ kG) (h3 : Cond.selects C y y ∈ kG) (h4 : Cond.initialized C ∈ kG) (h5 : Cond.code y cc ml rt ∈ kG) : GoodIn Ts (wsV own i C y (Cond.code y cc ml rt :: kG)) := by
  refine kG_good hT (fun w hw => ?_)
  unfold wsV at hw
  simp only [List.mem_append, List.mem_cons, List.not_mem_nil, or_false] at hw
  rcases hw with (rfl | rfl | rfl | rfl) | rfl | hw
  · exact h1
  · exact h2
  · exact h3
  · exact h4
  · exact h5
  · exact hw
theorem kG_S {Ts : List Cond} (hT : ∀ w ∈ kG, w ∈ Ts) {own : String} {i ml : Nat} {y : MethodName} {cc : ByteArray} {rt : Option FieldType} (h1 : Cond.methodLink own i y ∈ kG) (h2 : Cond.static y ∈ kG) (h4 : Cond.initialized y.cls ∈ kG) (h5 : Cond.code y cc ml rt ∈ kG) : GoodIn Ts (va_wsS own i y (Cond.code y cc ml rt :: kG)) := by
  refine kG_good hT (fun w hw => ?_)
  unfold va_wsS at hw
  simp only [List.mem_append, List.mem_cons, List.not_mem_nil, or_false] at hw
  rcases hw with (rfl | rfl | rfl) | rfl | hw
  · exact h1
  · exact h2
  · exact h4
  · exact h5
  · exact hw
theorem kG_N {Ts : List Cond} (hT : ∀ w ∈ kG, w ∈ Ts) {ml : Nat} {y : MethodName} {cc : ByteArray} {rt : Option FieldType} (h5 : Cond.code y cc ml rt ∈ kG) : GoodIn Ts (Cond.code y cc ml rt :: kG) := by
  refine kG_good hT (fun w hw => ?_)
  rcases List.mem_cons.mp hw with rfl | hw
  · exact h5
  · exact hw
theorem kiG0 : ∀ w ∈ u_ws kc0 kf0 5, w ∈ kG := fun w hw => List.mem_filter.mpr ⟨ki0 w hw, (by decide +kernel : ∀ w ∈ u_ws kc0 kf0 5, goodWord w = true) w hw⟩
theorem kiG1 : ∀ w ∈ u_ws kc1 kf1 11, w ∈ kG := fun w hw => List.mem_filter.mpr ⟨ki1 w hw, (by decide +kernel : ∀ w ∈ u_ws kc1 kf1 11, goodWord w = true) w hw⟩
theorem kiG2 : ∀ w ∈ u_ws kc2 kf2 1, w ∈ kG := fun w hw => List.mem_filter.mpr ⟨ki2 w hw, (by decide +kernel : ∀ w ∈ u_ws kc2 kf2 1, goodWord w = true) w hw⟩
theorem kiG3 : ∀ w ∈ u_ws kc3 kf3 7, w ∈ kG := fun w hw => List.mem_filter.mpr ⟨ki3 w hw, (by decide +kernel : ∀ w ∈ u_ws kc3 kf3 7, goodWord w = true) w hw⟩
theorem kiG4 : ∀ w ∈ u_ws kc4 kf4 15, w ∈ kG := fun w hw => List.mem_filter.mpr ⟨ki4 w hw, (by decide +kernel : ∀ w ∈ u_ws kc4 kf4 15, goodWord w = true) w hw⟩
theorem kini_HoleCounter : Cond.initialized "HoleCounter" ∈ kG := kG_mem 47 (by decide +kernel) (by decide +kernel)
theorem kini_HoleCounter_Complex : Cond.initialized "HoleCounter$Complex" ∈ kG := kG_mem 48 (by decide +kernel) (by decide +kernel)
theorem kini_HoleCounter_Grid : Cond.initialized "HoleCounter$Grid" ∈ kG := kG_mem 50 (by decide +kernel) (by decide +kernel)
theorem kini_HoleCounter_Span : Cond.initialized "HoleCounter$Span" ∈ kG := kG_mem 51 (by decide +kernel) (by decide +kernel)
theorem kini_HoleCounterLaw : Cond.initialized "HoleCounterLaw" ∈ kG := kG_mem 46 (by decide +kernel) (by decide +kernel)
theorem kini_HoleCounterModel : Cond.initialized "HoleCounterModel" ∈ kG := kG_mem 52 (by decide +kernel) (by decide +kernel)
theorem kini_java_lang_Integer : Cond.initialized "java/lang/Integer" ∈ kG := kG_mem 53 (by decide +kernel) (by decide +kernel)
theorem kini_java_lang_Math : Cond.initialized "java/lang/Math" ∈ kG := kG_mem 54 (by decide +kernel) (by decide +kernel)
theorem kini_java_util_Arrays : Cond.initialized "java/util/Arrays" ∈ kG := kG_mem 49 (by decide +kernel) (by decide +kernel)
def ky0 : MethodName := ⟨"java/lang/Integer", "bitCount", "(I)I"⟩
theorem kw0 : Cond.code ky0 prog_7_method_49_code 1 (some .int) ∈ kG := kG_mem 173 (by decide +kernel) (by decide +kernel)
theorem ks0 : Cond.static ky0 ∈ kG := kG_mem 172 (by decide +kernel) (by decide +kernel)
def ky1 : MethodName := ⟨"java/util/Arrays", "fill", "([JJ)V"⟩
theorem kw1 : Cond.code ky1 prog_9_method_101_code 5 none ∈ kG := kG_mem 416 (by decide +kernel) (by decide +kernel)
theorem ks1 : Cond.static ky1 ∈ kG := kG_mem 415 (by decide +kernel) (by decide +kernel)
def ky2 : MethodName := ⟨"java/util/Arrays", "fill", "([II)V"⟩
theorem kw2 : Cond.code ky2 prog_9_method_103_code 4 none ∈ kG := kG_mem 71 (by decide +kernel) (by decide +kernel)
theorem ks2 : Cond.static ky2 ∈ kG := kG_mem 70 (by decide +kernel) (by decide +kernel)
def ky3 : MethodName := ⟨"HoleCounter$Complex", "dropAll", "()V"⟩
theorem kw3 : Cond.code ky3 prog_2_method_2_code 1 none ∈ kG := kG_mem 195 (by decide +kernel) (by decide +kernel)
theorem ks3 : Cond.instanceMethod ky3 ∈ kG := kG_mem 193 (by decide +kernel) (by decide +kernel)
theorem kx3 : Cond.selects "HoleCounter$Complex" ky3 ky3 ∈ kG := kG_mem 194 (by decide +kernel) (by decide +kernel)
def ky4 : MethodName := ⟨"HoleCounter$Complex", "size", "(I)I"⟩
theorem kw4 : Cond.code ky4 prog_2_method_3_code 2 (some .int) ∈ kG := kG_mem 206 (by decide +kernel) (by decide +kernel)
theorem ks4 : Cond.instanceMethod ky4 ∈ kG := kG_mem 204 (by decide +kernel) (by decide +kernel)
theorem kx4 : Cond.selects "HoleCounter$Complex" ky4 ky4 ∈ kG := kG_mem 205 (by decide +kernel) (by decide +kernel)
def ky5 : MethodName := ⟨"HoleCounter$Complex", "setAt", "(II)I"⟩
theorem kw5 : Cond.code ky5 prog_2_method_4_code 3 (some .int) ∈ kG := kG_mem 215 (by decide +kernel) (by decide +kernel)
theorem ks5 : Cond.instanceMethod ky5 ∈ kG := kG_mem 213 (by decide +kernel) (by decide +kernel)
theorem kx5 : Cond.selects "HoleCounter$Complex" ky5 ky5 ∈ kG := kG_mem 214 (by decide +kernel) (by decide +kernel)
def ky6 : MethodName := ⟨"HoleCounter$Complex", "holds", "(I)Z"⟩
theorem kw6 : Cond.code ky6 prog_2_method_5_code 2 (some .boolean) ∈ kG := kG_mem 327 (by decide +kernel) (by decide +kernel)
theorem ks6 : Cond.instanceMethod ky6 ∈ kG := kG_mem 325 (by decide +kernel) (by decide +kernel)
theorem kx6 : Cond.selects "HoleCounter$Complex" ky6 ky6 ∈ kG := kG_mem 326 (by decide +kernel) (by decide +kernel)
def ky7 : MethodName := ⟨"HoleCounter$Complex", "placeOf", "(I)I"⟩
theorem kw7 : Cond.code ky7 prog_2_method_6_code 2 (some .int) ∈ kG := kG_mem 258 (by decide +kernel) (by decide +kernel)
theorem ks7 : Cond.instanceMethod ky7 ∈ kG := kG_mem 256 (by decide +kernel) (by decide +kernel)
theorem kx7 : Cond.selects "HoleCounter$Complex" ky7 ky7 ∈ kG := kG_mem 257 (by decide +kernel) (by decide +kernel)
def ky8 : MethodName := ⟨"HoleCounter$Complex", "keptFor", "(I)I"⟩
theorem kw8 : Cond.code ky8 prog_2_method_7_code 2 (some .int) ∈ kG := kG_mem 339 (by decide +kernel) (by decide +kernel)
theorem ks8 : Cond.instanceMethod ky8 ∈ kG := kG_mem 337 (by decide +kernel) (by decide +kernel)
theorem kx8 : Cond.selects "HoleCounter$Complex" ky8 ky8 ∈ kG := kG_mem 338 (by decide +kernel) (by decide +kernel)
def ky9 : MethodName := ⟨"HoleCounter$Complex", "keep", "(II)V"⟩
theorem kw9 : Cond.code ky9 prog_2_method_8_code 3 none ∈ kG := kG_mem 331 (by decide +kernel) (by decide +kernel)
theorem ks9 : Cond.instanceMethod ky9 ∈ kG := kG_mem 329 (by decide +kernel) (by decide +kernel)
theorem kx9 : Cond.selects "HoleCounter$Complex" ky9 ky9 ∈ kG := kG_mem 330 (by decide +kernel) (by decide +kernel)
def ky10 : MethodName := ⟨"HoleCounter$Complex", "include", "(I)I"⟩
theorem kw10 : Cond.code ky10 prog_2_method_9_code 4 (some .int) ∈ kG := kG_mem 180 (by decide +kernel) (by decide +kernel)
theorem ks10 : Cond.instanceMethod ky10 ∈ kG := kG_mem 178 (by decide +kernel) (by decide +kernel)
theorem kx10 : Cond.selects "HoleCounter$Complex" ky10 ky10 ∈ kG := kG_mem 179 (by decide +kernel) (by decide +kernel)
def ky11 : MethodName := ⟨"HoleCounter$Complex", "numberAnew", "()V"⟩
theorem kw11 : Cond.code ky11 prog_2_method_10_code 3 none ∈ kG := kG_mem 187 (by decide +kernel) (by decide +kernel)
theorem ks11 : Cond.instanceMethod ky11 ∈ kG := kG_mem 186 (by decide +kernel) (by decide +kernel)
theorem kx11 : Cond.selects "HoleCounter$Complex" ky11 ky11 ∈ kG := kG_mem 1 (by decide +kernel) (by decide +kernel)
def ky12 : MethodName := ⟨"HoleCounter$Complex", "boundaryAt", "(I)I"⟩
theorem kw12 : Cond.code ky12 prog_2_method_11_code 6 (some .int) ∈ kG := kG_mem 347 (by decide +kernel) (by decide +kernel)
theorem ks12 : Cond.instanceMethod ky12 ∈ kG := kG_mem 345 (by decide +kernel) (by decide +kernel)
theorem kx12 : Cond.selects "HoleCounter$Complex" ky12 ky12 ∈ kG := kG_mem 346 (by decide +kernel) (by decide +kernel)
def ky13 : MethodName := ⟨"HoleCounter$Complex", "keepsCycle", "(I)Z"⟩
theorem kw13 : Cond.code ky13 prog_2_method_12_code 3 (some .boolean) ∈ kG := kG_mem 358 (by decide +kernel) (by decide +kernel)
theorem ks13 : Cond.instanceMethod ky13 ∈ kG := kG_mem 356 (by decide +kernel) (by decide +kernel)
theorem kx13 : Cond.selects "HoleCounter$Complex" ky13 ky13 ∈ kG := kG_mem 357 (by decide +kernel) (by decide +kernel)
def ky14 : MethodName := ⟨"HoleCounter$Complex", "coboundaryOfEdge", "(I)I"⟩
theorem kw14 : Cond.code ky14 prog_2_method_13_code 5 (some .int) ∈ kG := kG_mem 420 (by decide +kernel) (by decide +kernel)
theorem ks14 : Cond.instanceMethod ky14 ∈ kG := kG_mem 418 (by decide +kernel) (by decide +kernel)
theorem kx14 : Cond.selects "HoleCounter$Complex" ky14 ky14 ∈ kG := kG_mem 419 (by decide +kernel) (by decide +kernel)
def ky15 : MethodName := ⟨"HoleCounter$Complex", "trianglesOver", "(IZ)I"⟩
theorem kw15 : Cond.code ky15 prog_2_method_14_code 9 (some .int) ∈ kG := kG_mem 433 (by decide +kernel) (by decide +kernel)
theorem ks15 : Cond.instanceMethod ky15 ∈ kG := kG_mem 431 (by decide +kernel) (by decide +kernel)
theorem kx15 : Cond.selects "HoleCounter$Complex" ky15 ky15 ∈ kG := kG_mem 432 (by decide +kernel) (by decide +kernel)
def ky16 : MethodName := ⟨"HoleCounter$Grid", "shape", "(II)V"⟩
theorem kw16 : Cond.code ky16 prog_3_method_2_code 5 none ∈ kG := kG_mem 250 (by decide +kernel) (by decide +kernel)
theorem ks16 : Cond.instanceMethod ky16 ∈ kG := kG_mem 248 (by decide +kernel) (by decide +kernel)
theorem kx16 : Cond.selects "HoleCounter$Grid" ky16 ky16 ∈ kG := kG_mem 249 (by decide +kernel) (by decide +kernel)
def ky17 : MethodName := ⟨"HoleCounter$Grid", "write", "(III)V"⟩
theorem kw17 : Cond.code ky17 prog_3_method_3_code 4 none ∈ kG := kG_mem 262 (by decide +kernel) (by decide +kernel)
theorem ks17 : Cond.instanceMethod ky17 ∈ kG := kG_mem 260 (by decide +kernel) (by decide +kernel)
theorem kx17 : Cond.selects "HoleCounter$Grid" ky17 ky17 ∈ kG := kG_mem 261 (by decide +kernel) (by decide +kernel)
def ky18 : MethodName := ⟨"HoleCounter$Grid", "factor", "(I)I"⟩
theorem kw18 : Cond.code ky18 prog_3_method_4_code 2 (some .int) ∈ kG := kG_mem 315 (by decide +kernel) (by decide +kernel)
theorem ks18 : Cond.instanceMethod ky18 ∈ kG := kG_mem 313 (by decide +kernel) (by decide +kernel)
theorem kx18 : Cond.selects "HoleCounter$Grid" ky18 ky18 ∈ kG := kG_mem 314 (by decide +kernel) (by decide +kernel)
def ky19 : MethodName := ⟨"HoleCounter$Grid", "eliminate", "(II)I"⟩
theorem kw19 : Cond.code ky19 prog_3_method_5_code 9 (some .int) ∈ kG := kG_mem 266 (by decide +kernel) (by decide +kernel)
theorem ks19 : Cond.instanceMethod ky19 ∈ kG := kG_mem 264 (by decide +kernel) (by decide +kernel)
theorem kx19 : Cond.selects "HoleCounter$Grid" ky19 ky19 ∈ kG := kG_mem 265 (by decide +kernel) (by decide +kernel)
def ky20 : MethodName := ⟨"HoleCounter$Grid", "load", "(II)V"⟩
theorem kw20 : Cond.code ky20 prog_3_method_6_code 7 none ∈ kG := kG_mem 270 (by decide +kernel) (by decide +kernel)
theorem ks20 : Cond.instanceMethod ky20 ∈ kG := kG_mem 269 (by decide +kernel) (by decide +kernel)
theorem kx20 : Cond.selects "HoleCounter$Grid" ky20 ky20 ∈ kG := kG_mem 6 (by decide +kernel) (by decide +kernel)
def ky21 : MethodName := ⟨"HoleCounter$Grid", "pivotRow", "(III)I"⟩
theorem kw21 : Cond.code ky21 prog_3_method_7_code 5 (some .int) ∈ kG := kG_mem 274 (by decide +kernel) (by decide +kernel)
theorem ks21 : Cond.instanceMethod ky21 ∈ kG := kG_mem 273 (by decide +kernel) (by decide +kernel)
theorem kx21 : Cond.selects "HoleCounter$Grid" ky21 ky21 ∈ kG := kG_mem 7 (by decide +kernel) (by decide +kernel)
def ky22 : MethodName := ⟨"HoleCounter$Grid", "swapRows", "(II)V"⟩
theorem kw22 : Cond.code ky22 prog_3_method_8_code 5 none ∈ kG := kG_mem 278 (by decide +kernel) (by decide +kernel)
theorem ks22 : Cond.instanceMethod ky22 ∈ kG := kG_mem 277 (by decide +kernel) (by decide +kernel)
theorem kx22 : Cond.selects "HoleCounter$Grid" ky22 ky22 ∈ kG := kG_mem 8 (by decide +kernel) (by decide +kernel)
def ky23 : MethodName := ⟨"HoleCounter$Grid", "clearBelow", "(III)V"⟩
theorem kw23 : Cond.code ky23 prog_3_method_9_code 8 none ∈ kG := kG_mem 282 (by decide +kernel) (by decide +kernel)
theorem ks23 : Cond.instanceMethod ky23 ∈ kG := kG_mem 281 (by decide +kernel) (by decide +kernel)
theorem kx23 : Cond.selects "HoleCounter$Grid" ky23 ky23 ∈ kG := kG_mem 9 (by decide +kernel) (by decide +kernel)
def ky24 : MethodName := ⟨"HoleCounter$Grid", "addRow", "(IIJ)V"⟩
theorem kw24 : Cond.code ky24 prog_3_method_10_code 8 none ∈ kG := kG_mem 290 (by decide +kernel) (by decide +kernel)
theorem ks24 : Cond.instanceMethod ky24 ∈ kG := kG_mem 289 (by decide +kernel) (by decide +kernel)
theorem kx24 : Cond.selects "HoleCounter$Grid" ky24 ky24 ∈ kG := kG_mem 11 (by decide +kernel) (by decide +kernel)
def ky25 : MethodName := ⟨"HoleCounter$Grid", "inverseOf", "(I)J"⟩
theorem kw25 : Cond.code ky25 prog_3_method_11_code 17 (some .long) ∈ kG := kG_mem 286 (by decide +kernel) (by decide +kernel)
theorem ks25 : Cond.instanceMethod ky25 ∈ kG := kG_mem 285 (by decide +kernel) (by decide +kernel)
theorem kx25 : Cond.selects "HoleCounter$Grid" ky25 ky25 ∈ kG := kG_mem 10 (by decide +kernel) (by decide +kernel)
def ky26 : MethodName := ⟨"HoleCounter$Grid", "splitMinor", "()I"⟩
theorem kw26 : Cond.code ky26 prog_3_method_12_code 5 (some .int) ∈ kG := kG_mem 302 (by decide +kernel) (by decide +kernel)
theorem ks26 : Cond.instanceMethod ky26 ∈ kG := kG_mem 301 (by decide +kernel) (by decide +kernel)
theorem kx26 : Cond.selects "HoleCounter$Grid" ky26 ky26 ∈ kG := kG_mem 12 (by decide +kernel) (by decide +kernel)
def ky27 : MethodName := ⟨"HoleCounter$Grid", "noteKind", "(II)V"⟩
theorem kw27 : Cond.code ky27 prog_3_method_13_code 3 none ∈ kG := kG_mem 311 (by decide +kernel) (by decide +kernel)
theorem ks27 : Cond.instanceMethod ky27 ∈ kG := kG_mem 310 (by decide +kernel) (by decide +kernel)
theorem kx27 : Cond.selects "HoleCounter$Grid" ky27 ky27 ∈ kG := kG_mem 13 (by decide +kernel) (by decide +kernel)
def ky28 : MethodName := ⟨"HoleCounter$Grid", "findFactors", "()I"⟩
theorem kw28 : Cond.code ky28 prog_3_method_14_code 6 (some .int) ∈ kG := kG_mem 298 (by decide +kernel) (by decide +kernel)
theorem ks28 : Cond.instanceMethod ky28 ∈ kG := kG_mem 296 (by decide +kernel) (by decide +kernel)
theorem kx28 : Cond.selects "HoleCounter$Grid" ky28 ky28 ∈ kG := kG_mem 297 (by decide +kernel) (by decide +kernel)
def ky29 : MethodName := ⟨"HoleCounter$Grid", "orderOfLastColumn", "()I"⟩
theorem kw29 : Cond.code ky29 prog_3_method_15_code 8 (some .int) ∈ kG := kG_mem 363 (by decide +kernel) (by decide +kernel)
theorem ks29 : Cond.instanceMethod ky29 ∈ kG := kG_mem 361 (by decide +kernel) (by decide +kernel)
theorem kx29 : Cond.selects "HoleCounter$Grid" ky29 ky29 ∈ kG := kG_mem 362 (by decide +kernel) (by decide +kernel)
def ky30 : MethodName := ⟨"HoleCounter$Grid", "dividedBy", "(II)I"⟩
theorem kw30 : Cond.code ky30 prog_3_method_16_code 6 (some .int) ∈ kG := kG_mem 367 (by decide +kernel) (by decide +kernel)
theorem ks30 : Cond.instanceMethod ky30 ∈ kG := kG_mem 366 (by decide +kernel) (by decide +kernel)
theorem kx30 : Cond.selects "HoleCounter$Grid" ky30 ky30 ∈ kG := kG_mem 14 (by decide +kernel) (by decide +kernel)
def ky31 : MethodName := ⟨"HoleCounter$Span", "dropAll", "()V"⟩
theorem kw31 : Cond.code ky31 prog_4_method_2_code 1 none ∈ kG := kG_mem 413 (by decide +kernel) (by decide +kernel)
theorem ks31 : Cond.instanceMethod ky31 ∈ kG := kG_mem 411 (by decide +kernel) (by decide +kernel)
theorem kx31 : Cond.selects "HoleCounter$Span" ky31 ky31 ∈ kG := kG_mem 412 (by decide +kernel) (by decide +kernel)
def ky32 : MethodName := ⟨"HoleCounter$Span", "reduced", "(J)J"⟩
theorem kw32 : Cond.code ky32 prog_4_method_3_code 6 (some .long) ∈ kG := kG_mem 428 (by decide +kernel) (by decide +kernel)
theorem ks32 : Cond.instanceMethod ky32 ∈ kG := kG_mem 426 (by decide +kernel) (by decide +kernel)
theorem kx32 : Cond.selects "HoleCounter$Span" ky32 ky32 ∈ kG := kG_mem 427 (by decide +kernel) (by decide +kernel)
def ky33 : MethodName := ⟨"HoleCounter$Span", "take", "(J)Z"⟩
theorem kw33 : Cond.code ky33 prog_4_method_4_code 6 (some .boolean) ∈ kG := kG_mem 424 (by decide +kernel) (by decide +kernel)
theorem ks33 : Cond.instanceMethod ky33 ∈ kG := kG_mem 422 (by decide +kernel) (by decide +kernel)
theorem kx33 : Cond.selects "HoleCounter$Span" ky33 ky33 ∈ kG := kG_mem 423 (by decide +kernel) (by decide +kernel)
def ky34 : MethodName := ⟨"HoleCounter", "add", "(II)I"⟩
theorem kw34 : Cond.code ky34 prog_1_method_2_code 4 (some .int) ∈ kG := kG_mem 166 (by decide +kernel) (by decide +kernel)
theorem ks34 : Cond.instanceMethod ky34 ∈ kG := kG_mem 164 (by decide +kernel) (by decide +kernel)
theorem kx34 : Cond.selects "HoleCounter" ky34 ky34 ∈ kG := kG_mem 165 (by decide +kernel) (by decide +kernel)
def ky35 : MethodName := ⟨"HoleCounter", "clear", "(I)Z"⟩
theorem kw35 : Cond.code ky35 prog_1_method_3_code 3 (some .boolean) ∈ kG := kG_mem 191 (by decide +kernel) (by decide +kernel)
theorem ks35 : Cond.instanceMethod ky35 ∈ kG := kG_mem 189 (by decide +kernel) (by decide +kernel)
theorem kx35 : Cond.selects "HoleCounter" ky35 ky35 ∈ kG := kG_mem 190 (by decide +kernel) (by decide +kernel)
def ky36 : MethodName := ⟨"HoleCounter", "count", "(II)I"⟩
theorem kw36 : Cond.code ky36 prog_1_method_4_code 4 (some .int) ∈ kG := kG_mem 199 (by decide +kernel) (by decide +kernel)
theorem ks36 : Cond.instanceMethod ky36 ∈ kG := kG_mem 197 (by decide +kernel) (by decide +kernel)
theorem kx36 : Cond.selects "HoleCounter" ky36 ky36 ∈ kG := kG_mem 198 (by decide +kernel) (by decide +kernel)
def ky37 : MethodName := ⟨"HoleCounter", "simplex", "(III)I"⟩
theorem kw37 : Cond.code ky37 prog_1_method_5_code 5 (some .int) ∈ kG := kG_mem 211 (by decide +kernel) (by decide +kernel)
theorem ks37 : Cond.instanceMethod ky37 ∈ kG := kG_mem 209 (by decide +kernel) (by decide +kernel)
theorem kx37 : Cond.selects "HoleCounter" ky37 ky37 ∈ kG := kG_mem 210 (by decide +kernel) (by decide +kernel)
def ky38 : MethodName := ⟨"HoleCounter", "incidence", "(IIII)I"⟩
theorem kw38 : Cond.code ky38 prog_1_method_6_code 6 (some .int) ∈ kG := kG_mem 219 (by decide +kernel) (by decide +kernel)
theorem ks38 : Cond.instanceMethod ky38 ∈ kG := kG_mem 217 (by decide +kernel) (by decide +kernel)
theorem kx38 : Cond.selects "HoleCounter" ky38 ky38 ∈ kG := kG_mem 218 (by decide +kernel) (by decide +kernel)
def ky39 : MethodName := ⟨"HoleCounter", "euler", "(I)I"⟩
theorem kw39 : Cond.code ky39 prog_1_method_7_code 3 (some .int) ∈ kG := kG_mem 229 (by decide +kernel) (by decide +kernel)
theorem ks39 : Cond.instanceMethod ky39 ∈ kG := kG_mem 227 (by decide +kernel) (by decide +kernel)
theorem kx39 : Cond.selects "HoleCounter" ky39 ky39 ∈ kG := kG_mem 228 (by decide +kernel) (by decide +kernel)
def ky40 : MethodName := ⟨"HoleCounter", "betti", "(II)I"⟩
theorem kw40 : Cond.code ky40 prog_1_method_8_code 3 (some .int) ∈ kG := kG_mem 233 (by decide +kernel) (by decide +kernel)
theorem ks40 : Cond.instanceMethod ky40 ∈ kG := kG_mem 231 (by decide +kernel) (by decide +kernel)
theorem kx40 : Cond.selects "HoleCounter" ky40 ky40 ∈ kG := kG_mem 232 (by decide +kernel) (by decide +kernel)
def ky41 : MethodName := ⟨"HoleCounter", "torsion", "(III)I"⟩
theorem kw41 : Cond.code ky41 prog_1_method_9_code 7 (some .int) ∈ kG := kG_mem 294 (by decide +kernel) (by decide +kernel)
theorem ks41 : Cond.instanceMethod ky41 ∈ kG := kG_mem 292 (by decide +kernel) (by decide +kernel)
theorem kx41 : Cond.selects "HoleCounter" ky41 ky41 ∈ kG := kG_mem 293 (by decide +kernel) (by decide +kernel)
def ky42 : MethodName := ⟨"HoleCounter", "bettiModulo", "(III)I"⟩
theorem kw42 : Cond.code ky42 prog_1_method_10_code 4 (some .int) ∈ kG := kG_mem 319 (by decide +kernel) (by decide +kernel)
theorem ks42 : Cond.instanceMethod ky42 ∈ kG := kG_mem 317 (by decide +kernel) (by decide +kernel)
theorem kx42 : Cond.selects "HoleCounter" ky42 ky42 ∈ kG := kG_mem 318 (by decide +kernel) (by decide +kernel)
def ky43 : MethodName := ⟨"HoleCounter", "put", "(III)Z"⟩
theorem kw43 : Cond.code ky43 prog_1_method_11_code 5 (some .boolean) ∈ kG := kG_mem 323 (by decide +kernel) (by decide +kernel)
theorem ks43 : Cond.instanceMethod ky43 ∈ kG := kG_mem 321 (by decide +kernel) (by decide +kernel)
theorem kx43 : Cond.selects "HoleCounter" ky43 ky43 ∈ kG := kG_mem 322 (by decide +kernel) (by decide +kernel)
def ky44 : MethodName := ⟨"HoleCounter", "get", "(II)I"⟩
theorem kw44 : Cond.code ky44 prog_1_method_12_code 4 (some .int) ∈ kG := kG_mem 335 (by decide +kernel) (by decide +kernel)
theorem ks44 : Cond.instanceMethod ky44 ∈ kG := kG_mem 333 (by decide +kernel) (by decide +kernel)
theorem kx44 : Cond.selects "HoleCounter" ky44 ky44 ∈ kG := kG_mem 334 (by decide +kernel) (by decide +kernel)
def ky45 : MethodName := ⟨"HoleCounter", "boundary", "(II)I"⟩
theorem kw45 : Cond.code ky45 prog_1_method_13_code 4 (some .int) ∈ kG := kG_mem 343 (by decide +kernel) (by decide +kernel)
theorem ks45 : Cond.instanceMethod ky45 ∈ kG := kG_mem 341 (by decide +kernel) (by decide +kernel)
theorem kx45 : Cond.selects "HoleCounter" ky45 ky45 ∈ kG := kG_mem 342 (by decide +kernel) (by decide +kernel)
def ky46 : MethodName := ⟨"HoleCounter", "order", "(II)I"⟩
theorem kw46 : Cond.code ky46 prog_1_method_14_code 6 (some .int) ∈ kG := kG_mem 354 (by decide +kernel) (by decide +kernel)
theorem ks46 : Cond.instanceMethod ky46 ∈ kG := kG_mem 352 (by decide +kernel) (by decide +kernel)
theorem kx46 : Cond.selects "HoleCounter" ky46 ky46 ∈ kG := kG_mem 353 (by decide +kernel) (by decide +kernel)
def ky47 : MethodName := ⟨"HoleCounter", "map", "(II)Z"⟩
theorem kw47 : Cond.code ky47 prog_1_method_15_code 3 (some .boolean) ∈ kG := kG_mem 371 (by decide +kernel) (by decide +kernel)
theorem ks47 : Cond.instanceMethod ky47 ∈ kG := kG_mem 369 (by decide +kernel) (by decide +kernel)
theorem kx47 : Cond.selects "HoleCounter" ky47 ky47 ∈ kG := kG_mem 370 (by decide +kernel) (by decide +kernel)
def ky48 : MethodName := ⟨"HoleCounter", "simplicial", "()Z"⟩
theorem kw48 : Cond.code ky48 prog_1_method_16_code 3 (some .boolean) ∈ kG := kG_mem 375 (by decide +kernel) (by decide +kernel)
theorem ks48 : Cond.instanceMethod ky48 ∈ kG := kG_mem 373 (by decide +kernel) (by decide +kernel)
theorem kx48 : Cond.selects "HoleCounter" ky48 ky48 ∈ kG := kG_mem 374 (by decide +kernel) (by decide +kernel)
def ky49 : MethodName := ⟨"HoleCounter", "image", "(I)I"⟩
theorem kw49 : Cond.code ky49 prog_1_method_17_code 6 (some .int) ∈ kG := kG_mem 383 (by decide +kernel) (by decide +kernel)
theorem ks49 : Cond.instanceMethod ky49 ∈ kG := kG_mem 381 (by decide +kernel) (by decide +kernel)
theorem kx49 : Cond.selects "HoleCounter" ky49 ky49 ∈ kG := kG_mem 382 (by decide +kernel) (by decide +kernel)
def ky50 : MethodName := ⟨"HoleCounter", "rank", "(I)I"⟩
theorem kw50 : Cond.code ky50 prog_1_method_18_code 3 (some .int) ∈ kG := kG_mem 393 (by decide +kernel) (by decide +kernel)
theorem ks50 : Cond.instanceMethod ky50 ∈ kG := kG_mem 391 (by decide +kernel) (by decide +kernel)
theorem kx50 : Cond.selects "HoleCounter" ky50 ky50 ∈ kG := kG_mem 392 (by decide +kernel) (by decide +kernel)
def ky51 : MethodName := ⟨"HoleCounter", "products", "(I)I"⟩
theorem kw51 : Cond.code ky51 prog_1_method_19_code 7 (some .int) ∈ kG := kG_mem 405 (by decide +kernel) (by decide +kernel)
theorem ks51 : Cond.instanceMethod ky51 ∈ kG := kG_mem 403 (by decide +kernel) (by decide +kernel)
theorem kx51 : Cond.selects "HoleCounter" ky51 ky51 ∈ kG := kG_mem 404 (by decide +kernel) (by decide +kernel)
def ky52 : MethodName := ⟨"HoleCounter", "complexAt", "(I)LHoleCounter$Complex;"⟩
theorem kw52 : Cond.code ky52 prog_1_method_20_code 2 (some (.object "HoleCounter$Complex")) ∈ kG := kG_mem 170 (by decide +kernel) (by decide +kernel)
theorem ks52 : Cond.instanceMethod ky52 ∈ kG := kG_mem 169 (by decide +kernel) (by decide +kernel)
theorem kx52 : Cond.selects "HoleCounter" ky52 ky52 ∈ kG := kG_mem 0 (by decide +kernel) (by decide +kernel)
def ky53 : MethodName := ⟨"HoleCounter", "isDimension", "(I)Z"⟩
theorem kw53 : Cond.code ky53 prog_1_method_21_code 1 (some .boolean) ∈ kG := kG_mem 202 (by decide +kernel) (by decide +kernel)
theorem ks53 : Cond.static ky53 ∈ kG := kG_mem 201 (by decide +kernel) (by decide +kernel)
def ky54 : MethodName := ⟨"HoleCounter", "dimensionOf", "(I)I"⟩
theorem kw54 : Cond.code ky54 prog_1_method_22_code 1 (some .int) ∈ kG := kG_mem 183 (by decide +kernel) (by decide +kernel)
theorem ks54 : Cond.static ky54 ∈ kG := kG_mem 182 (by decide +kernel) (by decide +kernel)
def ky55 : MethodName := ⟨"HoleCounter", "signOfFace", "(II)I"⟩
theorem kw55 : Cond.code ky55 prog_1_method_23_code 3 (some .int) ∈ kG := kG_mem 222 (by decide +kernel) (by decide +kernel)
theorem ks55 : Cond.static ky55 ∈ kG := kG_mem 221 (by decide +kernel) (by decide +kernel)
def ky56 : MethodName := ⟨"HoleCounter", "signOfCount", "(I)I"⟩
theorem kw56 : Cond.code ky56 prog_1_method_24_code 1 (some .int) ∈ kG := kG_mem 225 (by decide +kernel) (by decide +kernel)
theorem ks56 : Cond.static ky56 ∈ kG := kG_mem 224 (by decide +kernel) (by decide +kernel)
def ky57 : MethodName := ⟨"HoleCounter", "independentHoles", "(III)I"⟩
theorem kw57 : Cond.code ky57 prog_1_method_25_code 5 (some .int) ∈ kG := kG_mem 238 (by decide +kernel) (by decide +kernel)
theorem ks57 : Cond.instanceMethod ky57 ∈ kG := kG_mem 237 (by decide +kernel) (by decide +kernel)
theorem kx57 : Cond.selects "HoleCounter" ky57 ky57 ∈ kG := kG_mem 2 (by decide +kernel) (by decide +kernel)
def ky58 : MethodName := ⟨"HoleCounter", "boundaryRank", "(LHoleCounter$Complex;II)I"⟩
theorem kw58 : Cond.code ky58 prog_1_method_26_code 4 (some .int) ∈ kG := kG_mem 242 (by decide +kernel) (by decide +kernel)
theorem ks58 : Cond.instanceMethod ky58 ∈ kG := kG_mem 241 (by decide +kernel) (by decide +kernel)
theorem kx58 : Cond.selects "HoleCounter" ky58 ky58 ∈ kG := kG_mem 3 (by decide +kernel) (by decide +kernel)
def ky59 : MethodName := ⟨"HoleCounter", "layBoundary", "(LHoleCounter$Complex;I)V"⟩
theorem kw59 : Cond.code ky59 prog_1_method_27_code 3 none ∈ kG := kG_mem 246 (by decide +kernel) (by decide +kernel)
theorem ks59 : Cond.instanceMethod ky59 ∈ kG := kG_mem 245 (by decide +kernel) (by decide +kernel)
theorem kx59 : Cond.selects "HoleCounter" ky59 ky59 ∈ kG := kG_mem 4 (by decide +kernel) (by decide +kernel)
def ky60 : MethodName := ⟨"HoleCounter", "writeBoundary", "(LHoleCounter$Complex;III)V"⟩
theorem kw60 : Cond.code ky60 prog_1_method_28_code 9 none ∈ kG := kG_mem 254 (by decide +kernel) (by decide +kernel)
theorem ks60 : Cond.instanceMethod ky60 ∈ kG := kG_mem 253 (by decide +kernel) (by decide +kernel)
theorem kx60 : Cond.selects "HoleCounter" ky60 ky60 ∈ kG := kG_mem 5 (by decide +kernel) (by decide +kernel)
def ky61 : MethodName := ⟨"HoleCounter", "layMap", "(I)V"⟩
theorem kw61 : Cond.code ky61 prog_1_method_29_code 7 none ∈ kG := kG_mem 397 (by decide +kernel) (by decide +kernel)
theorem ks61 : Cond.instanceMethod ky61 ∈ kG := kG_mem 396 (by decide +kernel) (by decide +kernel)
theorem kx61 : Cond.selects "HoleCounter" ky61 ky61 ∈ kG := kG_mem 17 (by decide +kernel) (by decide +kernel)
def ky62 : MethodName := ⟨"HoleCounter", "imageSet", "(I)I"⟩
theorem kw62 : Cond.code ky62 prog_1_method_30_code 4 (some .int) ∈ kG := kG_mem 379 (by decide +kernel) (by decide +kernel)
theorem ks62 : Cond.instanceMethod ky62 ∈ kG := kG_mem 378 (by decide +kernel) (by decide +kernel)
theorem kx62 : Cond.selects "HoleCounter" ky62 ky62 ∈ kG := kG_mem 15 (by decide +kernel) (by decide +kernel)
def ky63 : MethodName := ⟨"HoleCounter", "imageSign", "(I)I"⟩
theorem kw63 : Cond.code ky63 prog_1_method_31_code 6 (some .int) ∈ kG := kG_mem 389 (by decide +kernel) (by decide +kernel)
theorem ks63 : Cond.instanceMethod ky63 ∈ kG := kG_mem 388 (by decide +kernel) (by decide +kernel)
theorem kx63 : Cond.selects "HoleCounter" ky63 ky63 ∈ kG := kG_mem 16 (by decide +kernel) (by decide +kernel)
def ky64 : MethodName := ⟨"HoleCounter", "findCocycles", "(LHoleCounter$Complex;)I"⟩
theorem kw64 : Cond.code ky64 prog_1_method_32_code 7 (some .int) ∈ kG := kG_mem 409 (by decide +kernel) (by decide +kernel)
theorem ks64 : Cond.instanceMethod ky64 ∈ kG := kG_mem 408 (by decide +kernel) (by decide +kernel)
theorem kx64 : Cond.selects "HoleCounter" ky64 ky64 ∈ kG := kG_mem 18 (by decide +kernel) (by decide +kernel)
def ky65 : MethodName := ⟨"HoleCounterModel", "size", "(I)I"⟩
theorem kw65 : Cond.code ky65 prog_6_method_2_code 3 (some .int) ∈ kG := kG_mem 496 (by decide +kernel) (by decide +kernel)
theorem ks65 : Cond.static ky65 ∈ kG := kG_mem 495 (by decide +kernel) (by decide +kernel)
def ky66 : MethodName := ⟨"HoleCounterModel", "isComplex", "(I)Z"⟩
theorem kw66 : Cond.code ky66 prog_6_method_3_code 1 (some .boolean) ∈ kG := kG_mem 493 (by decide +kernel) (by decide +kernel)
theorem ks66 : Cond.static ky66 ∈ kG := kG_mem 492 (by decide +kernel) (by decide +kernel)
def ky67 : MethodName := ⟨"HoleCounterModel", "isDimension", "(I)Z"⟩
theorem kw67 : Cond.code ky67 prog_6_method_4_code 1 (some .boolean) ∈ kG := kG_mem 511 (by decide +kernel) (by decide +kernel)
theorem ks67 : Cond.static ky67 ∈ kG := kG_mem 510 (by decide +kernel) (by decide +kernel)
def ky68 : MethodName := ⟨"HoleCounterModel", "isSimplex", "(II)Z"⟩
theorem kw68 : Cond.code ky68 prog_6_method_5_code 3 (some .boolean) ∈ kG := kG_mem 611 (by decide +kernel) (by decide +kernel)
theorem ks68 : Cond.instanceMethod ky68 ∈ kG := kG_mem 610 (by decide +kernel) (by decide +kernel)
theorem kx68 : Cond.selects "HoleCounterModel" ky68 ky68 ∈ kG := kG_mem 34 (by decide +kernel) (by decide +kernel)
def ky69 : MethodName := ⟨"HoleCounterModel", "many", "(II)I"⟩
theorem kw69 : Cond.code ky69 prog_6_method_6_code 5 (some .int) ∈ kG := kG_mem 500 (by decide +kernel) (by decide +kernel)
theorem ks69 : Cond.instanceMethod ky69 ∈ kG := kG_mem 499 (by decide +kernel) (by decide +kernel)
theorem kx69 : Cond.selects "HoleCounterModel" ky69 ky69 ∈ kG := kG_mem 19 (by decide +kernel) (by decide +kernel)
def ky70 : MethodName := ⟨"HoleCounterModel", "at", "(III)I"⟩
theorem kw70 : Cond.code ky70 prog_6_method_7_code 6 (some .int) ∈ kG := kG_mem 519 (by decide +kernel) (by decide +kernel)
theorem ks70 : Cond.instanceMethod ky70 ∈ kG := kG_mem 518 (by decide +kernel) (by decide +kernel)
theorem kx70 : Cond.selects "HoleCounterModel" ky70 ky70 ∈ kG := kG_mem 20 (by decide +kernel) (by decide +kernel)
def ky71 : MethodName := ⟨"HoleCounterModel", "sign", "(II)I"⟩
theorem kw71 : Cond.code ky71 prog_6_method_8_code 5 (some .int) ∈ kG := kG_mem 526 (by decide +kernel) (by decide +kernel)
theorem ks71 : Cond.static ky71 ∈ kG := kG_mem 525 (by decide +kernel) (by decide +kernel)
def ky72 : MethodName := ⟨"HoleCounterModel", "add", "(II)I"⟩
theorem kw72 : Cond.code ky72 prog_6_method_9_code 6 (some .int) ∈ kG := kG_mem 490 (by decide +kernel) (by decide +kernel)
theorem ks72 : Cond.instanceMethod ky72 ∈ kG := kG_mem 488 (by decide +kernel) (by decide +kernel)
theorem kx72 : Cond.selects "HoleCounterModel" ky72 ky72 ∈ kG := kG_mem 489 (by decide +kernel) (by decide +kernel)
def ky73 : MethodName := ⟨"HoleCounterModel", "clear", "(I)Z"⟩
theorem kw73 : Cond.code ky73 prog_6_method_10_code 3 (some .boolean) ∈ kG := kG_mem 504 (by decide +kernel) (by decide +kernel)
theorem ks73 : Cond.instanceMethod ky73 ∈ kG := kG_mem 502 (by decide +kernel) (by decide +kernel)
theorem kx73 : Cond.selects "HoleCounterModel" ky73 ky73 ∈ kG := kG_mem 503 (by decide +kernel) (by decide +kernel)
def ky74 : MethodName := ⟨"HoleCounterModel", "count", "(II)I"⟩
theorem kw74 : Cond.code ky74 prog_6_method_11_code 3 (some .int) ∈ kG := kG_mem 508 (by decide +kernel) (by decide +kernel)
theorem ks74 : Cond.instanceMethod ky74 ∈ kG := kG_mem 506 (by decide +kernel) (by decide +kernel)
theorem kx74 : Cond.selects "HoleCounterModel" ky74 ky74 ∈ kG := kG_mem 507 (by decide +kernel) (by decide +kernel)
def ky75 : MethodName := ⟨"HoleCounterModel", "simplex", "(III)I"⟩
theorem kw75 : Cond.code ky75 prog_6_method_12_code 5 (some .int) ∈ kG := kG_mem 515 (by decide +kernel) (by decide +kernel)
theorem ks75 : Cond.instanceMethod ky75 ∈ kG := kG_mem 513 (by decide +kernel) (by decide +kernel)
theorem kx75 : Cond.selects "HoleCounterModel" ky75 ky75 ∈ kG := kG_mem 514 (by decide +kernel) (by decide +kernel)
def ky76 : MethodName := ⟨"HoleCounterModel", "incidence", "(IIII)I"⟩
theorem kw76 : Cond.code ky76 prog_6_method_13_code 5 (some .int) ∈ kG := kG_mem 523 (by decide +kernel) (by decide +kernel)
theorem ks76 : Cond.instanceMethod ky76 ∈ kG := kG_mem 521 (by decide +kernel) (by decide +kernel)
theorem kx76 : Cond.selects "HoleCounterModel" ky76 ky76 ∈ kG := kG_mem 522 (by decide +kernel) (by decide +kernel)
def ky77 : MethodName := ⟨"HoleCounterModel", "euler", "(I)I"⟩
theorem kw77 : Cond.code ky77 prog_6_method_14_code 2 (some .int) ∈ kG := kG_mem 530 (by decide +kernel) (by decide +kernel)
theorem ks77 : Cond.instanceMethod ky77 ∈ kG := kG_mem 528 (by decide +kernel) (by decide +kernel)
theorem kx77 : Cond.selects "HoleCounterModel" ky77 ky77 ∈ kG := kG_mem 529 (by decide +kernel) (by decide +kernel)
def ky78 : MethodName := ⟨"HoleCounterModel", "shape", "(II)V"⟩
theorem kw78 : Cond.code ky78 prog_6_method_15_code 4 none ∈ kG := kG_mem 546 (by decide +kernel) (by decide +kernel)
theorem ks78 : Cond.instanceMethod ky78 ∈ kG := kG_mem 545 (by decide +kernel) (by decide +kernel)
theorem kx78 : Cond.selects "HoleCounterModel" ky78 ky78 ∈ kG := kG_mem 23 (by decide +kernel) (by decide +kernel)
def ky79 : MethodName := ⟨"HoleCounterModel", "putBoundary", "(IIII)V"⟩
theorem kw79 : Cond.code ky79 prog_6_method_16_code 9 none ∈ kG := kG_mem 550 (by decide +kernel) (by decide +kernel)
theorem ks79 : Cond.instanceMethod ky79 ∈ kG := kG_mem 549 (by decide +kernel) (by decide +kernel)
theorem kx79 : Cond.selects "HoleCounterModel" ky79 ky79 ∈ kG := kG_mem 24 (by decide +kernel) (by decide +kernel)
def ky80 : MethodName := ⟨"HoleCounterModel", "boundaryOf", "(II)V"⟩
theorem kw80 : Cond.code ky80 prog_6_method_17_code 3 none ∈ kG := kG_mem 542 (by decide +kernel) (by decide +kernel)
theorem ks80 : Cond.instanceMethod ky80 ∈ kG := kG_mem 541 (by decide +kernel) (by decide +kernel)
theorem kx80 : Cond.selects "HoleCounterModel" ky80 ky80 ∈ kG := kG_mem 22 (by decide +kernel) (by decide +kernel)
def ky81 : MethodName := ⟨"HoleCounterModel", "inverse", "(JJ)J"⟩
theorem kw81 : Cond.code ky81 prog_6_method_18_code 10 (some .long) ∈ kG := kG_mem 570 (by decide +kernel) (by decide +kernel)
theorem ks81 : Cond.static ky81 ∈ kG := kG_mem 569 (by decide +kernel) (by decide +kernel)
def ky82 : MethodName := ⟨"HoleCounterModel", "exchange", "(II)V"⟩
theorem kw82 : Cond.code ky82 prog_6_method_19_code 6 none ∈ kG := kG_mem 563 (by decide +kernel) (by decide +kernel)
theorem ks82 : Cond.instanceMethod ky82 ∈ kG := kG_mem 562 (by decide +kernel) (by decide +kernel)
theorem kx82 : Cond.selects "HoleCounterModel" ky82 ky82 ∈ kG := kG_mem 27 (by decide +kernel) (by decide +kernel)
def ky83 : MethodName := ⟨"HoleCounterModel", "rankModulo", "(J)I"⟩
theorem kw83 : Cond.code ky83 prog_6_method_20_code 6 (some .int) ∈ kG := kG_mem 559 (by decide +kernel) (by decide +kernel)
theorem ks83 : Cond.instanceMethod ky83 ∈ kG := kG_mem 558 (by decide +kernel) (by decide +kernel)
theorem kx83 : Cond.selects "HoleCounterModel" ky83 ky83 ∈ kG := kG_mem 26 (by decide +kernel) (by decide +kernel)
def ky84 : MethodName := ⟨"HoleCounterModel", "sweep", "(IIJ)V"⟩
theorem kw84 : Cond.code ky84 prog_6_method_21_code 13 none ∈ kG := kG_mem 567 (by decide +kernel) (by decide +kernel)
theorem ks84 : Cond.instanceMethod ky84 ∈ kG := kG_mem 566 (by decide +kernel) (by decide +kernel)
theorem kx84 : Cond.selects "HoleCounterModel" ky84 ky84 ∈ kG := kG_mem 28 (by decide +kernel) (by decide +kernel)
def ky85 : MethodName := ⟨"HoleCounterModel", "rankOf", "()I"⟩
theorem kw85 : Cond.code ky85 prog_6_method_22_code 3 (some .int) ∈ kG := kG_mem 554 (by decide +kernel) (by decide +kernel)
theorem ks85 : Cond.instanceMethod ky85 ∈ kG := kG_mem 553 (by decide +kernel) (by decide +kernel)
theorem kx85 : Cond.selects "HoleCounterModel" ky85 ky85 ∈ kG := kG_mem 25 (by decide +kernel) (by decide +kernel)
def ky86 : MethodName := ⟨"HoleCounterModel", "boundaryRank", "(II)I"⟩
theorem kw86 : Cond.code ky86 prog_6_method_23_code 3 (some .int) ∈ kG := kG_mem 538 (by decide +kernel) (by decide +kernel)
theorem ks86 : Cond.instanceMethod ky86 ∈ kG := kG_mem 537 (by decide +kernel) (by decide +kernel)
theorem kx86 : Cond.selects "HoleCounterModel" ky86 ky86 ∈ kG := kG_mem 21 (by decide +kernel) (by decide +kernel)
def ky87 : MethodName := ⟨"HoleCounterModel", "betti", "(II)I"⟩
theorem kw87 : Cond.code ky87 prog_6_method_24_code 3 (some .int) ∈ kG := kG_mem 534 (by decide +kernel) (by decide +kernel)
theorem ks87 : Cond.instanceMethod ky87 ∈ kG := kG_mem 532 (by decide +kernel) (by decide +kernel)
theorem kx87 : Cond.selects "HoleCounterModel" ky87 ky87 ∈ kG := kG_mem 533 (by decide +kernel) (by decide +kernel)
def ky88 : MethodName := ⟨"HoleCounterModel", "bettiModulo", "(III)I"⟩
theorem kw88 : Cond.code ky88 prog_6_method_25_code 6 (some .int) ∈ kG := kG_mem 576 (by decide +kernel) (by decide +kernel)
theorem ks88 : Cond.instanceMethod ky88 ∈ kG := kG_mem 574 (by decide +kernel) (by decide +kernel)
theorem kx88 : Cond.selects "HoleCounterModel" ky88 ky88 ∈ kG := kG_mem 575 (by decide +kernel) (by decide +kernel)
def ky89 : MethodName := ⟨"HoleCounterModel", "start", "(I)Z"⟩
theorem kw89 : Cond.code ky89 prog_6_method_26_code 7 (some .boolean) ∈ kG := kG_mem 588 (by decide +kernel) (by decide +kernel)
theorem ks89 : Cond.instanceMethod ky89 ∈ kG := kG_mem 587 (by decide +kernel) (by decide +kernel)
theorem kx89 : Cond.selects "HoleCounterModel" ky89 ky89 ∈ kG := kG_mem 30 (by decide +kernel) (by decide +kernel)
def ky90 : MethodName := ⟨"HoleCounterModel", "downwards", "(I)V"⟩
theorem kw90 : Cond.code ky90 prog_6_method_27_code 6 none ∈ kG := kG_mem 592 (by decide +kernel) (by decide +kernel)
theorem ks90 : Cond.instanceMethod ky90 ∈ kG := kG_mem 591 (by decide +kernel) (by decide +kernel)
theorem kx90 : Cond.selects "HoleCounterModel" ky90 ky90 ∈ kG := kG_mem 31 (by decide +kernel) (by decide +kernel)
def ky91 : MethodName := ⟨"HoleCounterModel", "sideways", "(I)V"⟩
theorem kw91 : Cond.code ky91 prog_6_method_28_code 9 none ∈ kG := kG_mem 596 (by decide +kernel) (by decide +kernel)
theorem ks91 : Cond.instanceMethod ky91 ∈ kG := kG_mem 595 (by decide +kernel) (by decide +kernel)
theorem kx91 : Cond.selects "HoleCounterModel" ky91 ky91 ∈ kG := kG_mem 32 (by decide +kernel) (by decide +kernel)
def ky92 : MethodName := ⟨"HoleCounterModel", "clean", "(I)Z"⟩
theorem kw92 : Cond.code ky92 prog_6_method_29_code 4 (some .boolean) ∈ kG := kG_mem 600 (by decide +kernel) (by decide +kernel)
theorem ks92 : Cond.instanceMethod ky92 ∈ kG := kG_mem 599 (by decide +kernel) (by decide +kernel)
theorem kx92 : Cond.selects "HoleCounterModel" ky92 ky92 ∈ kG := kG_mem 33 (by decide +kernel) (by decide +kernel)
def ky93 : MethodName := ⟨"HoleCounterModel", "common", "(JJ)J"⟩
theorem kw93 : Cond.code ky93 prog_6_method_30_code 10 (some .long) ∈ kG := kG_mem 603 (by decide +kernel) (by decide +kernel)
theorem ks93 : Cond.static ky93 ∈ kG := kG_mem 602 (by decide +kernel) (by decide +kernel)
def ky94 : MethodName := ⟨"HoleCounterModel", "diagonalise", "()V"⟩
theorem kw94 : Cond.code ky94 prog_6_method_31_code 5 none ∈ kG := kG_mem 584 (by decide +kernel) (by decide +kernel)
theorem ks94 : Cond.instanceMethod ky94 ∈ kG := kG_mem 583 (by decide +kernel) (by decide +kernel)
theorem kx94 : Cond.selects "HoleCounterModel" ky94 ky94 ∈ kG := kG_mem 29 (by decide +kernel) (by decide +kernel)
def ky95 : MethodName := ⟨"HoleCounterModel", "torsion", "(III)I"⟩
theorem kw95 : Cond.code ky95 prog_6_method_32_code 6 (some .int) ∈ kG := kG_mem 580 (by decide +kernel) (by decide +kernel)
theorem ks95 : Cond.instanceMethod ky95 ∈ kG := kG_mem 578 (by decide +kernel) (by decide +kernel)
theorem kx95 : Cond.selects "HoleCounterModel" ky95 ky95 ∈ kG := kG_mem 579 (by decide +kernel) (by decide +kernel)
def ky96 : MethodName := ⟨"HoleCounterModel", "put", "(III)Z"⟩
theorem kw96 : Cond.code ky96 prog_6_method_33_code 4 (some .boolean) ∈ kG := kG_mem 607 (by decide +kernel) (by decide +kernel)
theorem ks96 : Cond.instanceMethod ky96 ∈ kG := kG_mem 605 (by decide +kernel) (by decide +kernel)
theorem kx96 : Cond.selects "HoleCounterModel" ky96 ky96 ∈ kG := kG_mem 606 (by decide +kernel) (by decide +kernel)
def ky97 : MethodName := ⟨"HoleCounterModel", "get", "(II)I"⟩
theorem kw97 : Cond.code ky97 prog_6_method_34_code 3 (some .int) ∈ kG := kG_mem 615 (by decide +kernel) (by decide +kernel)
theorem ks97 : Cond.instanceMethod ky97 ∈ kG := kG_mem 613 (by decide +kernel) (by decide +kernel)
theorem kx97 : Cond.selects "HoleCounterModel" ky97 ky97 ∈ kG := kG_mem 614 (by decide +kernel) (by decide +kernel)
def ky98 : MethodName := ⟨"HoleCounterModel", "boundary", "(II)I"⟩
theorem kw98 : Cond.code ky98 prog_6_method_35_code 5 (some .int) ∈ kG := kG_mem 619 (by decide +kernel) (by decide +kernel)
theorem ks98 : Cond.instanceMethod ky98 ∈ kG := kG_mem 617 (by decide +kernel) (by decide +kernel)
theorem kx98 : Cond.selects "HoleCounterModel" ky98 ky98 ∈ kG := kG_mem 618 (by decide +kernel) (by decide +kernel)
def ky99 : MethodName := ⟨"HoleCounterModel", "isCycle", "(II)Z"⟩
theorem kw99 : Cond.code ky99 prog_6_method_36_code 4 (some .boolean) ∈ kG := kG_mem 627 (by decide +kernel) (by decide +kernel)
theorem ks99 : Cond.instanceMethod ky99 ∈ kG := kG_mem 626 (by decide +kernel) (by decide +kernel)
theorem kx99 : Cond.selects "HoleCounterModel" ky99 ky99 ∈ kG := kG_mem 35 (by decide +kernel) (by decide +kernel)
def ky100 : MethodName := ⟨"HoleCounterModel", "volume", "()J"⟩
theorem kw100 : Cond.code ky100 prog_6_method_37_code 4 (some .long) ∈ kG := kG_mem 632 (by decide +kernel) (by decide +kernel)
theorem ks100 : Cond.instanceMethod ky100 ∈ kG := kG_mem 631 (by decide +kernel) (by decide +kernel)
theorem kx100 : Cond.selects "HoleCounterModel" ky100 ky100 ∈ kG := kG_mem 36 (by decide +kernel) (by decide +kernel)
def ky101 : MethodName := ⟨"HoleCounterModel", "order", "(II)I"⟩
theorem kw101 : Cond.code ky101 prog_6_method_38_code 9 (some .int) ∈ kG := kG_mem 623 (by decide +kernel) (by decide +kernel)
theorem ks101 : Cond.instanceMethod ky101 ∈ kG := kG_mem 621 (by decide +kernel) (by decide +kernel)
theorem kx101 : Cond.selects "HoleCounterModel" ky101 ky101 ∈ kG := kG_mem 622 (by decide +kernel) (by decide +kernel)
def ky102 : MethodName := ⟨"HoleCounterModel", "map", "(II)Z"⟩
theorem kw102 : Cond.code ky102 prog_6_method_39_code 3 (some .boolean) ∈ kG := kG_mem 636 (by decide +kernel) (by decide +kernel)
theorem ks102 : Cond.instanceMethod ky102 ∈ kG := kG_mem 634 (by decide +kernel) (by decide +kernel)
theorem kx102 : Cond.selects "HoleCounterModel" ky102 ky102 ∈ kG := kG_mem 635 (by decide +kernel) (by decide +kernel)
def ky103 : MethodName := ⟨"HoleCounterModel", "imageOf", "(I)I"⟩
theorem kw103 : Cond.code ky103 prog_6_method_40_code 4 (some .int) ∈ kG := kG_mem 644 (by decide +kernel) (by decide +kernel)
theorem ks103 : Cond.instanceMethod ky103 ∈ kG := kG_mem 643 (by decide +kernel) (by decide +kernel)
theorem kx103 : Cond.selects "HoleCounterModel" ky103 ky103 ∈ kG := kG_mem 37 (by decide +kernel) (by decide +kernel)
def ky104 : MethodName := ⟨"HoleCounterModel", "simplicial", "()Z"⟩
theorem kw104 : Cond.code ky104 prog_6_method_41_code 2 (some .boolean) ∈ kG := kG_mem 640 (by decide +kernel) (by decide +kernel)
theorem ks104 : Cond.instanceMethod ky104 ∈ kG := kG_mem 638 (by decide +kernel) (by decide +kernel)
theorem kx104 : Cond.selects "HoleCounterModel" ky104 ky104 ∈ kG := kG_mem 639 (by decide +kernel) (by decide +kernel)
def ky105 : MethodName := ⟨"HoleCounterModel", "given", "(II)I"⟩
theorem kw105 : Cond.code ky105 prog_6_method_42_code 7 (some .int) ∈ kG := kG_mem 653 (by decide +kernel) (by decide +kernel)
theorem ks105 : Cond.instanceMethod ky105 ∈ kG := kG_mem 652 (by decide +kernel) (by decide +kernel)
theorem kx105 : Cond.selects "HoleCounterModel" ky105 ky105 ∈ kG := kG_mem 38 (by decide +kernel) (by decide +kernel)
def ky106 : MethodName := ⟨"HoleCounterModel", "image", "(I)I"⟩
theorem kw106 : Cond.code ky106 prog_6_method_43_code 4 (some .int) ∈ kG := kG_mem 648 (by decide +kernel) (by decide +kernel)
theorem ks106 : Cond.instanceMethod ky106 ∈ kG := kG_mem 646 (by decide +kernel) (by decide +kernel)
theorem kx106 : Cond.selects "HoleCounterModel" ky106 ky106 ∈ kG := kG_mem 647 (by decide +kernel) (by decide +kernel)
def ky107 : MethodName := ⟨"HoleCounterModel", "putMap", "(II)V"⟩
theorem kw107 : Cond.code ky107 prog_6_method_44_code 7 none ∈ kG := kG_mem 661 (by decide +kernel) (by decide +kernel)
theorem ks107 : Cond.instanceMethod ky107 ∈ kG := kG_mem 660 (by decide +kernel) (by decide +kernel)
theorem kx107 : Cond.selects "HoleCounterModel" ky107 ky107 ∈ kG := kG_mem 39 (by decide +kernel) (by decide +kernel)
def ky108 : MethodName := ⟨"HoleCounterModel", "rank", "(I)I"⟩
theorem kw108 : Cond.code ky108 prog_6_method_45_code 5 (some .int) ∈ kG := kG_mem 657 (by decide +kernel) (by decide +kernel)
theorem ks108 : Cond.instanceMethod ky108 ∈ kG := kG_mem 655 (by decide +kernel) (by decide +kernel)
theorem kx108 : Cond.selects "HoleCounterModel" ky108 ky108 ∈ kG := kG_mem 656 (by decide +kernel) (by decide +kernel)
def ky109 : MethodName := ⟨"HoleCounterModel", "numberOf", "(II)I"⟩
theorem kw109 : Cond.code ky109 prog_6_method_46_code 5 (some .int) ∈ kG := kG_mem 673 (by decide +kernel) (by decide +kernel)
theorem ks109 : Cond.instanceMethod ky109 ∈ kG := kG_mem 672 (by decide +kernel) (by decide +kernel)
theorem kx109 : Cond.selects "HoleCounterModel" ky109 ky109 ∈ kG := kG_mem 41 (by decide +kernel) (by decide +kernel)
def ky110 : MethodName := ⟨"HoleCounterModel", "extend", "(II)I"⟩
theorem kw110 : Cond.code ky110 prog_6_method_47_code 5 (some .int) ∈ kG := kG_mem 681 (by decide +kernel) (by decide +kernel)
theorem ks110 : Cond.instanceMethod ky110 ∈ kG := kG_mem 680 (by decide +kernel) (by decide +kernel)
theorem kx110 : Cond.selects "HoleCounterModel" ky110 ky110 ∈ kG := kG_mem 43 (by decide +kernel) (by decide +kernel)
def ky111 : MethodName := ⟨"HoleCounterModel", "note", "(I)V"⟩
theorem kw111 : Cond.code ky111 prog_6_method_48_code 5 none ∈ kG := kG_mem 669 (by decide +kernel) (by decide +kernel)
theorem ks111 : Cond.instanceMethod ky111 ∈ kG := kG_mem 668 (by decide +kernel) (by decide +kernel)
theorem kx111 : Cond.selects "HoleCounterModel" ky111 ky111 ∈ kG := kG_mem 40 (by decide +kernel) (by decide +kernel)
def ky112 : MethodName := ⟨"HoleCounterModel", "coboundary", "(I)I"⟩
theorem kw112 : Cond.code ky112 prog_6_method_49_code 5 (some .int) ∈ kG := kG_mem 677 (by decide +kernel) (by decide +kernel)
theorem ks112 : Cond.instanceMethod ky112 ∈ kG := kG_mem 676 (by decide +kernel) (by decide +kernel)
theorem kx112 : Cond.selects "HoleCounterModel" ky112 ky112 ∈ kG := kG_mem 42 (by decide +kernel) (by decide +kernel)
def ky113 : MethodName := ⟨"HoleCounterModel", "cocycles", "(I)I"⟩
theorem kw113 : Cond.code ky113 prog_6_method_50_code 7 (some .int) ∈ kG := kG_mem 685 (by decide +kernel) (by decide +kernel)
theorem ks113 : Cond.instanceMethod ky113 ∈ kG := kG_mem 684 (by decide +kernel) (by decide +kernel)
theorem kx113 : Cond.selects "HoleCounterModel" ky113 ky113 ∈ kG := kG_mem 44 (by decide +kernel) (by decide +kernel)
def ky114 : MethodName := ⟨"HoleCounterModel", "product", "(II)I"⟩
theorem kw114 : Cond.code ky114 prog_6_method_51_code 5 (some .int) ∈ kG := kG_mem 689 (by decide +kernel) (by decide +kernel)
theorem ks114 : Cond.instanceMethod ky114 ∈ kG := kG_mem 688 (by decide +kernel) (by decide +kernel)
theorem kx114 : Cond.selects "HoleCounterModel" ky114 ky114 ∈ kG := kG_mem 45 (by decide +kernel) (by decide +kernel)
def ky115 : MethodName := ⟨"HoleCounterModel", "products", "(I)I"⟩
theorem kw115 : Cond.code ky115 prog_6_method_52_code 8 (some .int) ∈ kG := kG_mem 665 (by decide +kernel) (by decide +kernel)
theorem ks115 : Cond.instanceMethod ky115 ∈ kG := kG_mem 663 (by decide +kernel) (by decide +kernel)
theorem kx115 : Cond.selects "HoleCounterModel" ky115 ky115 ∈ kG := kG_mem 664 (by decide +kernel) (by decide +kernel)
theorem kl_HoleCounter_Complex_15 : Cond.methodLink "HoleCounter$Complex" 15 ky2 ∈ kG := kG_mem 69 (by decide +kernel) (by decide +kernel)
theorem kl_HoleCounterLaw_13 : Cond.methodLink "HoleCounterLaw" 13 ky34 ∈ kG := kG_mem 163 (by decide +kernel) (by decide +kernel)
theorem kl_HoleCounter_43 : Cond.methodLink "HoleCounter" 43 ky52 ∈ kG := kG_mem 167 (by decide +kernel) (by decide +kernel)
theorem kl_HoleCounter_47 : Cond.methodLink "HoleCounter" 47 ky0 ∈ kG := kG_mem 171 (by decide +kernel) (by decide +kernel)
theorem kl_HoleCounter_53 : Cond.methodLink "HoleCounter" 53 ky10 ∈ kG := kG_mem 177 (by decide +kernel) (by decide +kernel)
theorem kl_HoleCounter_Complex_41 : Cond.methodLink "HoleCounter$Complex" 41 ky11 ∈ kG := kG_mem 184 (by decide +kernel) (by decide +kernel)
theorem kl_HoleCounterLaw_18 : Cond.methodLink "HoleCounterLaw" 18 ky35 ∈ kG := kG_mem 188 (by decide +kernel) (by decide +kernel)
theorem kl_HoleCounter_56 : Cond.methodLink "HoleCounter" 56 ky3 ∈ kG := kG_mem 192 (by decide +kernel) (by decide +kernel)
theorem kl_HoleCounterLaw_23 : Cond.methodLink "HoleCounterLaw" 23 ky36 ∈ kG := kG_mem 196 (by decide +kernel) (by decide +kernel)
theorem kl_HoleCounter_59 : Cond.methodLink "HoleCounter" 59 ky53 ∈ kG := kG_mem 200 (by decide +kernel) (by decide +kernel)
theorem kl_HoleCounter_63 : Cond.methodLink "HoleCounter" 63 ky4 ∈ kG := kG_mem 203 (by decide +kernel) (by decide +kernel)
theorem kl_HoleCounterLaw_27 : Cond.methodLink "HoleCounterLaw" 27 ky37 ∈ kG := kG_mem 208 (by decide +kernel) (by decide +kernel)
theorem kl_HoleCounter_66 : Cond.methodLink "HoleCounter" 66 ky5 ∈ kG := kG_mem 212 (by decide +kernel) (by decide +kernel)
theorem kl_HoleCounterLaw_32 : Cond.methodLink "HoleCounterLaw" 32 ky38 ∈ kG := kG_mem 216 (by decide +kernel) (by decide +kernel)
theorem kl_HoleCounter_70 : Cond.methodLink "HoleCounter" 70 ky55 ∈ kG := kG_mem 220 (by decide +kernel) (by decide +kernel)
theorem kl_HoleCounter_157 : Cond.methodLink "HoleCounter" 157 ky56 ∈ kG := kG_mem 223 (by decide +kernel) (by decide +kernel)
theorem kl_HoleCounterLaw_37 : Cond.methodLink "HoleCounterLaw" 37 ky39 ∈ kG := kG_mem 226 (by decide +kernel) (by decide +kernel)
theorem kl_HoleCounterLaw_42 : Cond.methodLink "HoleCounterLaw" 42 ky40 ∈ kG := kG_mem 230 (by decide +kernel) (by decide +kernel)
theorem kl_HoleCounter_74 : Cond.methodLink "HoleCounter" 74 ky57 ∈ kG := kG_mem 235 (by decide +kernel) (by decide +kernel)
theorem kl_HoleCounter_145 : Cond.methodLink "HoleCounter" 145 ky58 ∈ kG := kG_mem 239 (by decide +kernel) (by decide +kernel)
theorem kl_HoleCounter_78 : Cond.methodLink "HoleCounter" 78 ky59 ∈ kG := kG_mem 243 (by decide +kernel) (by decide +kernel)
theorem kl_HoleCounter_105 : Cond.methodLink "HoleCounter" 105 ky16 ∈ kG := kG_mem 247 (by decide +kernel) (by decide +kernel)
theorem kl_HoleCounter_108 : Cond.methodLink "HoleCounter" 108 ky60 ∈ kG := kG_mem 251 (by decide +kernel) (by decide +kernel)
theorem kl_HoleCounter_160 : Cond.methodLink "HoleCounter" 160 ky7 ∈ kG := kG_mem 255 (by decide +kernel) (by decide +kernel)
theorem kl_HoleCounter_112 : Cond.methodLink "HoleCounter" 112 ky17 ∈ kG := kG_mem 259 (by decide +kernel) (by decide +kernel)
theorem kl_HoleCounter_136 : Cond.methodLink "HoleCounter" 136 ky19 ∈ kG := kG_mem 263 (by decide +kernel) (by decide +kernel)
theorem kl_HoleCounter_Grid_41 : Cond.methodLink "HoleCounter$Grid" 41 ky20 ∈ kG := kG_mem 267 (by decide +kernel) (by decide +kernel)
theorem kl_HoleCounter_Grid_49 : Cond.methodLink "HoleCounter$Grid" 49 ky21 ∈ kG := kG_mem 271 (by decide +kernel) (by decide +kernel)
theorem kl_HoleCounter_Grid_53 : Cond.methodLink "HoleCounter$Grid" 53 ky22 ∈ kG := kG_mem 275 (by decide +kernel) (by decide +kernel)
theorem kl_HoleCounter_Grid_56 : Cond.methodLink "HoleCounter$Grid" 56 ky23 ∈ kG := kG_mem 279 (by decide +kernel) (by decide +kernel)
theorem kl_HoleCounter_Grid_60 : Cond.methodLink "HoleCounter$Grid" 60 ky25 ∈ kG := kG_mem 283 (by decide +kernel) (by decide +kernel)
theorem kl_HoleCounter_Grid_64 : Cond.methodLink "HoleCounter$Grid" 64 ky24 ∈ kG := kG_mem 287 (by decide +kernel) (by decide +kernel)
theorem kl_HoleCounterLaw_46 : Cond.methodLink "HoleCounterLaw" 46 ky41 ∈ kG := kG_mem 291 (by decide +kernel) (by decide +kernel)
theorem kl_HoleCounter_82 : Cond.methodLink "HoleCounter" 82 ky28 ∈ kG := kG_mem 295 (by decide +kernel) (by decide +kernel)
theorem kl_HoleCounter_Grid_86 : Cond.methodLink "HoleCounter$Grid" 86 ky26 ∈ kG := kG_mem 299 (by decide +kernel) (by decide +kernel)
theorem kl_HoleCounter_Grid_68 : Cond.methodLink "HoleCounter$Grid" 68 ky19 ∈ kG := kG_mem 303 (by decide +kernel) (by decide +kernel)
theorem kl_HoleCounter_Grid_83 : Cond.methodLink "HoleCounter$Grid" 83 ky27 ∈ kG := kG_mem 308 (by decide +kernel) (by decide +kernel)
theorem kl_HoleCounter_86 : Cond.methodLink "HoleCounter" 86 ky18 ∈ kG := kG_mem 312 (by decide +kernel) (by decide +kernel)
theorem kl_HoleCounterLaw_50 : Cond.methodLink "HoleCounterLaw" 50 ky42 ∈ kG := kG_mem 316 (by decide +kernel) (by decide +kernel)
theorem kl_HoleCounterLaw_54 : Cond.methodLink "HoleCounterLaw" 54 ky43 ∈ kG := kG_mem 320 (by decide +kernel) (by decide +kernel)
theorem kl_HoleCounter_89 : Cond.methodLink "HoleCounter" 89 ky6 ∈ kG := kG_mem 324 (by decide +kernel) (by decide +kernel)
theorem kl_HoleCounter_92 : Cond.methodLink "HoleCounter" 92 ky9 ∈ kG := kG_mem 328 (by decide +kernel) (by decide +kernel)
theorem kl_HoleCounterLaw_59 : Cond.methodLink "HoleCounterLaw" 59 ky44 ∈ kG := kG_mem 332 (by decide +kernel) (by decide +kernel)
theorem kl_HoleCounter_96 : Cond.methodLink "HoleCounter" 96 ky8 ∈ kG := kG_mem 336 (by decide +kernel) (by decide +kernel)
theorem kl_HoleCounterLaw_63 : Cond.methodLink "HoleCounterLaw" 63 ky45 ∈ kG := kG_mem 340 (by decide +kernel) (by decide +kernel)
theorem kl_HoleCounter_99 : Cond.methodLink "HoleCounter" 99 ky12 ∈ kG := kG_mem 344 (by decide +kernel) (by decide +kernel)
theorem kl_HoleCounter_Complex_44 : Cond.methodLink "HoleCounter$Complex" 44 ky4 ∈ kG := kG_mem 348 (by decide +kernel) (by decide +kernel)
theorem kl_HoleCounter_Complex_47 : Cond.methodLink "HoleCounter$Complex" 47 ky5 ∈ kG := kG_mem 349 (by decide +kernel) (by decide +kernel)
theorem kl_HoleCounterLaw_67 : Cond.methodLink "HoleCounterLaw" 67 ky46 ∈ kG := kG_mem 351 (by decide +kernel) (by decide +kernel)
theorem kl_HoleCounter_102 : Cond.methodLink "HoleCounter" 102 ky13 ∈ kG := kG_mem 355 (by decide +kernel) (by decide +kernel)
theorem kl_HoleCounter_Complex_54 : Cond.methodLink "HoleCounter$Complex" 54 ky12 ∈ kG := kG_mem 359 (by decide +kernel) (by decide +kernel)
theorem kl_HoleCounter_116 : Cond.methodLink "HoleCounter" 116 ky29 ∈ kG := kG_mem 360 (by decide +kernel) (by decide +kernel)
theorem kl_HoleCounter_Grid_90 : Cond.methodLink "HoleCounter$Grid" 90 ky30 ∈ kG := kG_mem 364 (by decide +kernel) (by decide +kernel)
theorem kl_HoleCounterLaw_71 : Cond.methodLink "HoleCounterLaw" 71 ky47 ∈ kG := kG_mem 368 (by decide +kernel) (by decide +kernel)
theorem kl_HoleCounterLaw_76 : Cond.methodLink "HoleCounterLaw" 76 ky48 ∈ kG := kG_mem 372 (by decide +kernel) (by decide +kernel)
theorem kl_HoleCounter_119 : Cond.methodLink "HoleCounter" 119 ky62 ∈ kG := kG_mem 376 (by decide +kernel) (by decide +kernel)
theorem kl_HoleCounterLaw_81 : Cond.methodLink "HoleCounterLaw" 81 ky49 ∈ kG := kG_mem 380 (by decide +kernel) (by decide +kernel)
theorem kl_HoleCounter_122 : Cond.methodLink "HoleCounter" 122 ky48 ∈ kG := kG_mem 384 (by decide +kernel) (by decide +kernel)
theorem kl_HoleCounter_126 : Cond.methodLink "HoleCounter" 126 ky54 ∈ kG := kG_mem 385 (by decide +kernel) (by decide +kernel)
theorem kl_HoleCounter_129 : Cond.methodLink "HoleCounter" 129 ky63 ∈ kG := kG_mem 386 (by decide +kernel) (by decide +kernel)
theorem kl_HoleCounterLaw_85 : Cond.methodLink "HoleCounterLaw" 85 ky50 ∈ kG := kG_mem 390 (by decide +kernel) (by decide +kernel)
theorem kl_HoleCounter_132 : Cond.methodLink "HoleCounter" 132 ky61 ∈ kG := kG_mem 394 (by decide +kernel) (by decide +kernel)
theorem kl_HoleCounterLaw_89 : Cond.methodLink "HoleCounterLaw" 89 ky51 ∈ kG := kG_mem 402 (by decide +kernel) (by decide +kernel)
theorem kl_HoleCounter_149 : Cond.methodLink "HoleCounter" 149 ky64 ∈ kG := kG_mem 406 (by decide +kernel) (by decide +kernel)
theorem kl_HoleCounter_163 : Cond.methodLink "HoleCounter" 163 ky31 ∈ kG := kG_mem 410 (by decide +kernel) (by decide +kernel)
theorem kl_HoleCounter_Span_15 : Cond.methodLink "HoleCounter$Span" 15 ky1 ∈ kG := kG_mem 414 (by decide +kernel) (by decide +kernel)
theorem kl_HoleCounter_164 : Cond.methodLink "HoleCounter" 164 ky14 ∈ kG := kG_mem 417 (by decide +kernel) (by decide +kernel)
theorem kl_HoleCounter_153 : Cond.methodLink "HoleCounter" 153 ky33 ∈ kG := kG_mem 421 (by decide +kernel) (by decide +kernel)
theorem kl_HoleCounter_Span_21 : Cond.methodLink "HoleCounter$Span" 21 ky32 ∈ kG := kG_mem 425 (by decide +kernel) (by decide +kernel)
theorem kl_HoleCounter_167 : Cond.methodLink "HoleCounter" 167 ky32 ∈ kG := kG_mem 429 (by decide +kernel) (by decide +kernel)
theorem kl_HoleCounter_171 : Cond.methodLink "HoleCounter" 171 ky15 ∈ kG := kG_mem 430 (by decide +kernel) (by decide +kernel)
theorem kl_HoleCounterLaw_17 : Cond.methodLink "HoleCounterLaw" 17 ky72 ∈ kG := kG_mem 487 (by decide +kernel) (by decide +kernel)
theorem kl_HoleCounterModel_45 : Cond.methodLink "HoleCounterModel" 45 ky66 ∈ kG := kG_mem 491 (by decide +kernel) (by decide +kernel)
theorem kl_HoleCounterModel_49 : Cond.methodLink "HoleCounterModel" 49 ky65 ∈ kG := kG_mem 494 (by decide +kernel) (by decide +kernel)
theorem kl_HoleCounterModel_53 : Cond.methodLink "HoleCounterModel" 53 ky69 ∈ kG := kG_mem 497 (by decide +kernel) (by decide +kernel)
theorem kl_HoleCounterLaw_22 : Cond.methodLink "HoleCounterLaw" 22 ky73 ∈ kG := kG_mem 501 (by decide +kernel) (by decide +kernel)
theorem kl_HoleCounterLaw_26 : Cond.methodLink "HoleCounterLaw" 26 ky74 ∈ kG := kG_mem 505 (by decide +kernel) (by decide +kernel)
theorem kl_HoleCounterModel_57 : Cond.methodLink "HoleCounterModel" 57 ky67 ∈ kG := kG_mem 509 (by decide +kernel) (by decide +kernel)
theorem kl_HoleCounterLaw_31 : Cond.methodLink "HoleCounterLaw" 31 ky75 ∈ kG := kG_mem 512 (by decide +kernel) (by decide +kernel)
theorem kl_HoleCounterModel_60 : Cond.methodLink "HoleCounterModel" 60 ky70 ∈ kG := kG_mem 516 (by decide +kernel) (by decide +kernel)
theorem kl_HoleCounterLaw_36 : Cond.methodLink "HoleCounterLaw" 36 ky76 ∈ kG := kG_mem 520 (by decide +kernel) (by decide +kernel)
theorem kl_HoleCounterModel_64 : Cond.methodLink "HoleCounterModel" 64 ky71 ∈ kG := kG_mem 524 (by decide +kernel) (by decide +kernel)
theorem kl_HoleCounterLaw_41 : Cond.methodLink "HoleCounterLaw" 41 ky77 ∈ kG := kG_mem 527 (by decide +kernel) (by decide +kernel)
theorem kl_HoleCounterLaw_45 : Cond.methodLink "HoleCounterLaw" 45 ky87 ∈ kG := kG_mem 531 (by decide +kernel) (by decide +kernel)
theorem kl_HoleCounterModel_110 : Cond.methodLink "HoleCounterModel" 110 ky86 ∈ kG := kG_mem 535 (by decide +kernel) (by decide +kernel)
theorem kl_HoleCounterModel_103 : Cond.methodLink "HoleCounterModel" 103 ky80 ∈ kG := kG_mem 539 (by decide +kernel) (by decide +kernel)
theorem kl_HoleCounterModel_74 : Cond.methodLink "HoleCounterModel" 74 ky78 ∈ kG := kG_mem 543 (by decide +kernel) (by decide +kernel)
theorem kl_HoleCounterModel_78 : Cond.methodLink "HoleCounterModel" 78 ky79 ∈ kG := kG_mem 547 (by decide +kernel) (by decide +kernel)
theorem kl_HoleCounterModel_106 : Cond.methodLink "HoleCounterModel" 106 ky85 ∈ kG := kG_mem 551 (by decide +kernel) (by decide +kernel)
theorem kl_HoleCounterModel_97 : Cond.methodLink "HoleCounterModel" 97 ky83 ∈ kG := kG_mem 556 (by decide +kernel) (by decide +kernel)
theorem kl_HoleCounterModel_84 : Cond.methodLink "HoleCounterModel" 84 ky82 ∈ kG := kG_mem 560 (by decide +kernel) (by decide +kernel)
theorem kl_HoleCounterModel_87 : Cond.methodLink "HoleCounterModel" 87 ky84 ∈ kG := kG_mem 564 (by decide +kernel) (by decide +kernel)
theorem kl_HoleCounterModel_91 : Cond.methodLink "HoleCounterModel" 91 ky81 ∈ kG := kG_mem 568 (by decide +kernel) (by decide +kernel)
theorem kl_HoleCounterLaw_53 : Cond.methodLink "HoleCounterLaw" 53 ky88 ∈ kG := kG_mem 573 (by decide +kernel) (by decide +kernel)
theorem kl_HoleCounterLaw_49 : Cond.methodLink "HoleCounterLaw" 49 ky95 ∈ kG := kG_mem 577 (by decide +kernel) (by decide +kernel)
theorem kl_HoleCounterModel_132 : Cond.methodLink "HoleCounterModel" 132 ky94 ∈ kG := kG_mem 581 (by decide +kernel) (by decide +kernel)
theorem kl_HoleCounterModel_116 : Cond.methodLink "HoleCounterModel" 116 ky89 ∈ kG := kG_mem 585 (by decide +kernel) (by decide +kernel)
theorem kl_HoleCounterModel_119 : Cond.methodLink "HoleCounterModel" 119 ky90 ∈ kG := kG_mem 589 (by decide +kernel) (by decide +kernel)
theorem kl_HoleCounterModel_123 : Cond.methodLink "HoleCounterModel" 123 ky91 ∈ kG := kG_mem 593 (by decide +kernel) (by decide +kernel)
theorem kl_HoleCounterModel_126 : Cond.methodLink "HoleCounterModel" 126 ky92 ∈ kG := kG_mem 597 (by decide +kernel) (by decide +kernel)
theorem kl_HoleCounterModel_129 : Cond.methodLink "HoleCounterModel" 129 ky93 ∈ kG := kG_mem 601 (by decide +kernel) (by decide +kernel)
theorem kl_HoleCounterLaw_58 : Cond.methodLink "HoleCounterLaw" 58 ky96 ∈ kG := kG_mem 604 (by decide +kernel) (by decide +kernel)
theorem kl_HoleCounterModel_135 : Cond.methodLink "HoleCounterModel" 135 ky68 ∈ kG := kG_mem 608 (by decide +kernel) (by decide +kernel)
theorem kl_HoleCounterLaw_62 : Cond.methodLink "HoleCounterLaw" 62 ky97 ∈ kG := kG_mem 612 (by decide +kernel) (by decide +kernel)
theorem kl_HoleCounterLaw_66 : Cond.methodLink "HoleCounterLaw" 66 ky98 ∈ kG := kG_mem 616 (by decide +kernel) (by decide +kernel)
theorem kl_HoleCounterLaw_70 : Cond.methodLink "HoleCounterLaw" 70 ky101 ∈ kG := kG_mem 620 (by decide +kernel) (by decide +kernel)
theorem kl_HoleCounterModel_142 : Cond.methodLink "HoleCounterModel" 142 ky99 ∈ kG := kG_mem 624 (by decide +kernel) (by decide +kernel)
theorem kl_HoleCounterModel_139 : Cond.methodLink "HoleCounterModel" 139 ky98 ∈ kG := kG_mem 628 (by decide +kernel) (by decide +kernel)
theorem kl_HoleCounterModel_145 : Cond.methodLink "HoleCounterModel" 145 ky100 ∈ kG := kG_mem 629 (by decide +kernel) (by decide +kernel)
theorem kl_HoleCounterLaw_75 : Cond.methodLink "HoleCounterLaw" 75 ky102 ∈ kG := kG_mem 633 (by decide +kernel) (by decide +kernel)
theorem kl_HoleCounterLaw_80 : Cond.methodLink "HoleCounterLaw" 80 ky104 ∈ kG := kG_mem 637 (by decide +kernel) (by decide +kernel)
theorem kl_HoleCounterModel_149 : Cond.methodLink "HoleCounterModel" 149 ky103 ∈ kG := kG_mem 641 (by decide +kernel) (by decide +kernel)
theorem kl_HoleCounterLaw_84 : Cond.methodLink "HoleCounterLaw" 84 ky106 ∈ kG := kG_mem 645 (by decide +kernel) (by decide +kernel)
theorem kl_HoleCounterModel_152 : Cond.methodLink "HoleCounterModel" 152 ky104 ∈ kG := kG_mem 649 (by decide +kernel) (by decide +kernel)
theorem kl_HoleCounterModel_156 : Cond.methodLink "HoleCounterModel" 156 ky105 ∈ kG := kG_mem 650 (by decide +kernel) (by decide +kernel)
theorem kl_HoleCounterLaw_88 : Cond.methodLink "HoleCounterLaw" 88 ky108 ∈ kG := kG_mem 654 (by decide +kernel) (by decide +kernel)
theorem kl_HoleCounterModel_159 : Cond.methodLink "HoleCounterModel" 159 ky107 ∈ kG := kG_mem 658 (by decide +kernel) (by decide +kernel)
theorem kl_HoleCounterLaw_92 : Cond.methodLink "HoleCounterLaw" 92 ky115 ∈ kG := kG_mem 662 (by decide +kernel) (by decide +kernel)
theorem kl_HoleCounterModel_171 : Cond.methodLink "HoleCounterModel" 171 ky111 ∈ kG := kG_mem 666 (by decide +kernel) (by decide +kernel)
theorem kl_HoleCounterModel_165 : Cond.methodLink "HoleCounterModel" 165 ky109 ∈ kG := kG_mem 670 (by decide +kernel) (by decide +kernel)
theorem kl_HoleCounterModel_168 : Cond.methodLink "HoleCounterModel" 168 ky112 ∈ kG := kG_mem 674 (by decide +kernel) (by decide +kernel)
theorem kl_HoleCounterModel_174 : Cond.methodLink "HoleCounterModel" 174 ky110 ∈ kG := kG_mem 678 (by decide +kernel) (by decide +kernel)
theorem kl_HoleCounterModel_177 : Cond.methodLink "HoleCounterModel" 177 ky113 ∈ kG := kG_mem 682 (by decide +kernel) (by decide +kernel)
theorem kl_HoleCounterModel_180 : Cond.methodLink "HoleCounterModel" 180 ky114 ∈ kG := kG_mem 686 (by decide +kernel) (by decide +kernel)
theorem kl_HoleCounter_Complex_9 : Cond.fieldLink "HoleCounter$Complex" 9 "HoleCounter$Complex" "place" "[I" ∈ kG := kG_mem 72 (by decide +kernel) (by decide +kernel)
theorem kl_HoleCounter_Complex_21 : Cond.fieldLink "HoleCounter$Complex" 21 "HoleCounter$Complex" "kept" "[I" ∈ kG := kG_mem 73 (by decide +kernel) (by decide +kernel)
theorem kl_HoleCounter_Complex_24 : Cond.fieldLink "HoleCounter$Complex" 24 "HoleCounter$Complex" "sizes" "[I" ∈ kG := kG_mem 74 (by decide +kernel) (by decide +kernel)
theorem kl_HoleCounter_Complex_27 : Cond.fieldLink "HoleCounter$Complex" 27 "HoleCounter$Complex" "sets" "[I" ∈ kG := kG_mem 75 (by decide +kernel) (by decide +kernel)
theorem kl_HoleCounter_Complex_30 : Cond.fieldLink "HoleCounter$Complex" 30 "HoleCounter$Complex" "grown" "[I" ∈ kG := kG_mem 76 (by decide +kernel) (by decide +kernel)
theorem kl_HoleCounter_Grid_11 : Cond.fieldLink "HoleCounter$Grid" 11 "HoleCounter$Grid" "cells" "[I" ∈ kG := kG_mem 96 (by decide +kernel) (by decide +kernel)
theorem kl_HoleCounter_Grid_15 : Cond.fieldLink "HoleCounter$Grid" 15 "HoleCounter$Grid" "work" "[I" ∈ kG := kG_mem 97 (by decide +kernel) (by decide +kernel)
theorem kl_HoleCounter_Grid_18 : Cond.fieldLink "HoleCounter$Grid" 18 "HoleCounter$Grid" "pivots" "[I" ∈ kG := kG_mem 98 (by decide +kernel) (by decide +kernel)
theorem kl_HoleCounter_Grid_21 : Cond.fieldLink "HoleCounter$Grid" 21 "HoleCounter$Grid" "factors" "[I" ∈ kG := kG_mem 99 (by decide +kernel) (by decide +kernel)
theorem kl_HoleCounter_Grid_24 : Cond.fieldLink "HoleCounter$Grid" 24 "HoleCounter$Grid" "primes" "[I" ∈ kG := kG_mem 100 (by decide +kernel) (by decide +kernel)
theorem kl_HoleCounter_Grid_27 : Cond.fieldLink "HoleCounter$Grid" 27 "HoleCounter$Grid" "powers" "[I" ∈ kG := kG_mem 101 (by decide +kernel) (by decide +kernel)
theorem kl_HoleCounter_Grid_35 : Cond.fieldLink "HoleCounter$Grid" 35 "HoleCounter$Grid" "rows" "I" ∈ kG := kG_mem 102 (by decide +kernel) (by decide +kernel)
theorem kl_HoleCounter_Grid_38 : Cond.fieldLink "HoleCounter$Grid" 38 "HoleCounter$Grid" "columns" "I" ∈ kG := kG_mem 103 (by decide +kernel) (by decide +kernel)
theorem kl_HoleCounter_Grid_31 : Cond.fieldLink "HoleCounter$Grid" 31 "HoleCounter$Grid" "modulus" "I" ∈ kG := kG_mem 104 (by decide +kernel) (by decide +kernel)
theorem kl_HoleCounter_Grid_45 : Cond.fieldLink "HoleCounter$Grid" 45 "HoleCounter$Grid" "minor" "J" ∈ kG := kG_mem 105 (by decide +kernel) (by decide +kernel)
theorem kl_HoleCounter_Grid_80 : Cond.fieldLink "HoleCounter$Grid" 80 "HoleCounter$Grid" "kinds" "I" ∈ kG := kG_mem 106 (by decide +kernel) (by decide +kernel)
theorem kl_HoleCounter_Span_9 : Cond.fieldLink "HoleCounter$Span" 9 "HoleCounter$Span" "rows" "[J" ∈ kG := kG_mem 136 (by decide +kernel) (by decide +kernel)
theorem kl_HoleCounter_10 : Cond.fieldLink "HoleCounter" 10 "HoleCounter" "source" "LHoleCounter$Complex;" ∈ kG := kG_mem 141 (by decide +kernel) (by decide +kernel)
theorem kl_HoleCounter_16 : Cond.fieldLink "HoleCounter" 16 "HoleCounter" "target" "LHoleCounter$Complex;" ∈ kG := kG_mem 142 (by decide +kernel) (by decide +kernel)
theorem kl_HoleCounter_19 : Cond.fieldLink "HoleCounter" 19 "HoleCounter" "images" "[I" ∈ kG := kG_mem 143 (by decide +kernel) (by decide +kernel)
theorem kl_HoleCounter_26 : Cond.fieldLink "HoleCounter" 26 "HoleCounter" "grid" "LHoleCounter$Grid;" ∈ kG := kG_mem 144 (by decide +kernel) (by decide +kernel)
theorem kl_HoleCounter_33 : Cond.fieldLink "HoleCounter" 33 "HoleCounter" "span" "LHoleCounter$Span;" ∈ kG := kG_mem 145 (by decide +kernel) (by decide +kernel)
theorem kl_HoleCounter_37 : Cond.fieldLink "HoleCounter" 37 "HoleCounter" "fronts" "[I" ∈ kG := kG_mem 146 (by decide +kernel) (by decide +kernel)
theorem kl_HoleCounter_40 : Cond.fieldLink "HoleCounter" 40 "HoleCounter" "backs" "[I" ∈ kG := kG_mem 147 (by decide +kernel) (by decide +kernel)
theorem kl_HoleCounterModel_7 : Cond.fieldLink "HoleCounterModel" 7 "HoleCounterModel" "has" "[Z" ∈ kG := kG_mem 440 (by decide +kernel) (by decide +kernel)
theorem kl_HoleCounterModel_13 : Cond.fieldLink "HoleCounterModel" 13 "HoleCounterModel" "kept" "[I" ∈ kG := kG_mem 441 (by decide +kernel) (by decide +kernel)
theorem kl_HoleCounterModel_17 : Cond.fieldLink "HoleCounterModel" 17 "HoleCounterModel" "f" "[I" ∈ kG := kG_mem 442 (by decide +kernel) (by decide +kernel)
theorem kl_HoleCounterModel_67 : Cond.fieldLink "HoleCounterModel" 67 "HoleCounterModel" "rows" "I" ∈ kG := kG_mem 443 (by decide +kernel) (by decide +kernel)
theorem kl_HoleCounterModel_71 : Cond.fieldLink "HoleCounterModel" 71 "HoleCounterModel" "columns" "I" ∈ kG := kG_mem 444 (by decide +kernel) (by decide +kernel)
theorem kl_HoleCounterModel_20 : Cond.fieldLink "HoleCounterModel" 20 "HoleCounterModel" "matrix" "[J" ∈ kG := kG_mem 445 (by decide +kernel) (by decide +kernel)
theorem kl_HoleCounterModel_24 : Cond.fieldLink "HoleCounterModel" 24 "HoleCounterModel" "work" "[J" ∈ kG := kG_mem 446 (by decide +kernel) (by decide +kernel)
theorem kl_HoleCounterModel_113 : Cond.fieldLink "HoleCounterModel" 113 "HoleCounterModel" "diagonal" "I" ∈ kG := kG_mem 447 (by decide +kernel) (by decide +kernel)
theorem kl_HoleCounterModel_27 : Cond.fieldLink "HoleCounterModel" 27 "HoleCounterModel" "divisor" "[J" ∈ kG := kG_mem 448 (by decide +kernel) (by decide +kernel)
theorem kl_HoleCounterModel_30 : Cond.fieldLink "HoleCounterModel" 30 "HoleCounterModel" "cocycle" "[I" ∈ kG := kG_mem 449 (by decide +kernel) (by decide +kernel)
theorem kl_HoleCounterModel_33 : Cond.fieldLink "HoleCounterModel" 33 "HoleCounterModel" "span" "[I" ∈ kG := kG_mem 450 (by decide +kernel) (by decide +kernel)
theorem kl_HoleCounterModel_162 : Cond.fieldLink "HoleCounterModel" 162 "HoleCounterModel" "triangles" "I" ∈ kG := kG_mem 451 (by decide +kernel) (by decide +kernel)
theorem kl_HoleCounterModel_36 : Cond.fieldLink "HoleCounterModel" 36 "HoleCounterModel" "firstEdge" "[I" ∈ kG := kG_mem 452 (by decide +kernel) (by decide +kernel)
theorem kl_HoleCounterModel_39 : Cond.fieldLink "HoleCounterModel" 39 "HoleCounterModel" "secondEdge" "[I" ∈ kG := kG_mem 453 (by decide +kernel) (by decide +kernel)
theorem kl_HoleCounterModel_42 : Cond.fieldLink "HoleCounterModel" 42 "HoleCounterModel" "longEdge" "[I" ∈ kG := kG_mem 454 (by decide +kernel) (by decide +kernel)
theorem kl_HoleCounter_Grid_30 : Cond.constant "HoleCounter$Grid" 30 2147483647 ∈ kG := kG_mem 95 (by decide +kernel) (by decide +kernel)
theorem kl_java_lang_Integer_265 : Cond.constant "java/lang/Integer" 265 1431655765 ∈ kG := kG_mem 174 (by decide +kernel) (by decide +kernel)
theorem kl_java_lang_Integer_266 : Cond.constant "java/lang/Integer" 266 858993459 ∈ kG := kG_mem 175 (by decide +kernel) (by decide +kernel)
theorem kl_java_lang_Integer_267 : Cond.constant "java/lang/Integer" 267 252645135 ∈ kG := kG_mem 176 (by decide +kernel) (by decide +kernel)
theorem kl_HoleCounter_73 : Cond.constant "HoleCounter" 73 2147483647 ∈ kG := kG_mem 234 (by decide +kernel) (by decide +kernel)
theorem kl_HoleCounter_139 : Cond.constant "HoleCounter" 139 2147483629 ∈ kG := kG_mem 398 (by decide +kernel) (by decide +kernel)
theorem kl_HoleCounter_Grid_72 : Cond.constantLong "HoleCounter$Grid" 72 2147483647 ∈ kG := kG_mem 304 (by decide +kernel) (by decide +kernel)
theorem kl_HoleCounterModel_95 : Cond.constantLong "HoleCounterModel" 95 2147483647 ∈ kG := kG_mem 555 (by decide +kernel) (by decide +kernel)
theorem kl_HoleCounterModel_82 : Cond.constantLong "HoleCounterModel" 82 2 ∈ kG := kG_mem 571 (by decide +kernel) (by decide +kernel)
theorem kl_HoleCounterModel_101 : Cond.constantLong "HoleCounterModel" 101 2147483629 ∈ kG := kG_mem 572 (by decide +kernel) (by decide +kernel)
theorem kms0 : Cond.static Lib.Math.max.name ∈ kG := kG_mem 400 (by decide +kernel) (by decide +kernel)
theorem kmc0 : Cond.code Lib.Math.max.name Lib.Math.max.code 2 (some .int) ∈ kG := kG_mem 401 (by decide +kernel) (by decide +kernel)
theorem kl_HoleCounter_140 : Cond.methodLink "HoleCounter" 140 Lib.Math.max.name ∈ kG := kG_mem 399 (by decide +kernel) (by decide +kernel)
theorem kms1 : Cond.static Lib.MathLoose.min_long.x ∈ kG := kG_mem 306 (by decide +kernel) (by decide +kernel)
theorem kmc1 : Cond.code Lib.MathLoose.min_long.x Lib.MathLoose.min_long.code 4 (some .long) ∈ kG := kG_mem 307 (by decide +kernel) (by decide +kernel)
theorem kl_HoleCounter_Grid_74 : Cond.methodLink "HoleCounter$Grid" 74 Lib.MathLoose.min_long.x ∈ kG := kG_mem 305 (by decide +kernel) (by decide +kernel)
def kNW : mm_N := [("HoleCounter$Complex", 37, ky54, "HoleCounter"), ("HoleCounter$Complex", 33, ky53, "HoleCounter"), ("HoleCounter$Complex", 51, ky55, "HoleCounter")]
theorem kNW_in : ∀ x ∈ kNW, Cond.methodLinkNest x.1 x.2.1 x.2.2.1 x.2.2.2 ∈ lw_tbl := by decide +kernel
end
section
def mm_all (cc : ByteArray) : List (Option mm_I) → Nat → Bool
  | [], _ => true
  | none :: l, i => mm_all cc l (i + 1)
  | some x :: l, i => mm_chk cc i x && mm_all cc l (i + 1)
theorem mm_all_get {cc : ByteArray} : ∀ (l : List (Option mm_I)) (o : Nat), mm_all cc l o = true → ∀ (pc : Nat) (x : mm_I), mm_nth l pc = some (some x) → mm_chk cc (o + pc) x = true
  | [], o, _, pc, x, h => by simp [mm_nth] at h
  | none :: l, o, ha, pc, x, h => by
    cases pc with
    | zero => simp [mm_nth] at h
    | succ n =>
      have z := mm_all_get l (o + 1) (by simpa [mm_all] using ha) n x (by simpa [mm_nth] using h)
      rwa [show o + (n + 1) = o + 1 + n by omega]
  | some y :: l, o, ha, pc, x, h => by
    simp only [mm_all, Bool.and_eq_true] at ha
    cases pc with
    | zero =>
      have e : y = x := by simpa [mm_nth] using h
      subst e
      exact ha.1
    | succ n =>
      have z := mm_all_get l (o + 1) ha.2 n x (by simpa [mm_nth] using h)
      rwa [show o + (n + 1) = o + 1 + n by omega]
theorem mm_all_sp {cc : ByteArray} {l : List (Option mm_I)} (h : mm_all cc l 0 = true) : ∀ (pc : Nat) (x : mm_I), mm_nth l pc = some (some x) → mm_chk cc pc x = true := fun pc x hx => by
  have z := mm_all_get l 0 h pc x hx
  rwa [Nat.zero_add] at z
theorem mm_all_app {cc : ByteArray} : ∀ (a b : List (Option mm_I)) (o : Nat), mm_all cc a o = true → mm_all cc b (o + a.length) = true → mm_all cc (a ++ b) o = true
  | [], b, o, _, h => by simpa using h
  | none :: a, b, o, h1, h2 => by
    simp only [List.cons_append, mm_all] at h1 ⊢
    exact mm_all_app a b (o + 1) h1 (by rwa [show o + 1 + a.length = o + (none :: a : List (Option mm_I)).length by simp; omega])
  | some x :: a, b, o, h1, h2 => by
    simp only [List.cons_append, mm_all, Bool.and_eq_true] at h1 ⊢
    exact ⟨h1.1, mm_all_app a b (o + 1) h1.2 (by rwa [show o + 1 + a.length = o + (some x :: a : List (Option mm_I)).length by simp; omega])⟩
theorem mm_look_in : ∀ (l : List (Nat × mm_K)) (i : Nat) (K : mm_K), mm_look l i = some K → (i, K) ∈ l
  | [], i, K, h => by simp [mm_look] at h
  | x :: l, i, K, h => by
    simp only [mm_look] at h
    split at h
    · rename_i e
      have e := Nat.eq_of_beq_eq_true e
      cases h
      subst e
      exact List.mem_cons_self
    · exact List.mem_cons_of_mem _ (mm_look_in l i K h)
theorem mm_pool_sp {P : Nat → mm_K → Prop} {l : List (Nat × mm_K)} (h : ∀ x ∈ l, P x.1 x.2) : ∀ (i : Nat) (K : mm_K), mm_look l i = some K → P i K := fun i K hk => h (i, K) (mm_look_in l i K hk)
end
section
def kt_0 : List (Option mm_I) := [some (.iload_n 0, 1, []), some (.iload_n 0, 2, []), some (.iconst 1, 3, []), some (.iushr, 4, []), some (.ldc_w 265, 7, []), none, none, some (.iand, 8, []), some (.isub, 9, []), some (.istore_n 0, 10, []), some (.iload_n 0, 11, []), some (.ldc_w 266, 14, []), none, none, some (.iand, 15, []), some (.iload_n 0, 16, []), some (.iconst 2, 17, []), some (.iushr, 18, []), some (.ldc_w 266, 21, []), none, none, some (.iand, 22, []), some (.iadd, 23, []), some (.istore_n 0, 24, []), some (.iload_n 0, 25, []), some (.iload_n 0, 26, []), some (.iconst 4, 27, []), some (.iushr, 28, []), some (.iadd, 29, []), some (.ldc_w 267, 32, []), none, none, some (.iand, 33, []), some (.istore_n 0, 34, []), some (.iload_n 0, 35, []), some (.iload_n 0, 36, []), some (.bipush 8, 38, []), none, some (.iushr, 39, []), some (.iadd, 40, []), some (.istore_n 0, 41, []), some (.iload_n 0, 42, []), some (.iload_n 0, 43, []), some (.bipush 16, 45, []), none, some (.iushr, 46, []), some (.iadd, 47, []), some (.istore_n 0, 48, []), some (.iload_n 0, 49, []), some (.bipush 63, 51, []), none, some (.iand, 52, []), some (.ireturn, 53, [])]
theorem kh_0 : mm_all prog_7_method_49_code kt_0 0 = true := by decide +kernel
def kp_0 : List (Nat × mm_K) := [(265, .inr (.inl (.int 1431655765))), (266, .inr (.inl (.int 858993459))), (267, .inr (.inl (.int 252645135)))]
def kq_0 : mm_M := (kt_0, kp_0, 1, (some .int))
def kt_1 : List (Option mm_I) := [some (.iconst 0, 1, []), some (.istore_n 3, 2, []), some (.aload_n 0, 3, []), some (.arraylength, 4, []), some (.istore 4, 6, []), none, some (.iload_n 3, 7, []), some (.iload 4, 9, []), none, some (.if_icmp .ge 13, 12, [22]), none, none, some (.aload_n 0, 13, []), some (.iload_n 3, 14, []), some (.lload_n 1, 15, []), some (.lastore, 16, []), some (.iinc 3 1, 19, []), none, none, some (.goto (-13), 22, [6]), none, none, some (.return_, 23, [])]
theorem kh_1 : mm_all prog_9_method_101_code kt_1 0 = true := by decide +kernel
def kp_1 : List (Nat × mm_K) := []
def kq_1 : mm_M := (kt_1, kp_1, 5, none)
def kt_2 : List (Option mm_I) := [some (.iconst 0, 1, []), some (.istore_n 2, 2, []), some (.aload_n 0, 3, []), some (.arraylength, 4, []), some (.istore_n 3, 5, []), some (.iload_n 2, 6, []), some (.iload_n 3, 7, []), some (.if_icmp .ge 13, 10, [20]), none, none, some (.aload_n 0, 11, []), some (.iload_n 2, 12, []), some (.iload_n 1, 13, []), some (.iastore, 14, []), some (.iinc 2 1, 17, []), none, none, some (.goto (-12), 20, [5]), none, none, some (.return_, 21, [])]
theorem kh_2 : mm_all prog_9_method_103_code kt_2 0 = true := by decide +kernel
def kp_2 : List (Nat × mm_K) := []
def kq_2 : mm_M := (kt_2, kp_2, 4, none)
def kt_3 : List (Option mm_I) := [some (.aload_n 0, 1, []), some (.getfield 9, 4, []), none, none, some (.iconst (-1), 5, []), some (.invokestatic 15, 8, []), none, none, some (.aload_n 0, 9, []), some (.getfield 21, 12, []), none, none, some (.iconst 0, 13, []), some (.invokestatic 15, 16, []), none, none, some (.aload_n 0, 17, []), some (.getfield 24, 20, []), none, none, some (.iconst 0, 21, []), some (.invokestatic 15, 24, []), none, none, some (.return_, 25, [])]
theorem kh_3 : mm_all prog_2_method_2_code kt_3 0 = true := by decide +kernel
def kp_3 : List (Nat × mm_K) := [(9, .inl (0, 0, none)), (15, .inr (.inr (.inl (2, 2, none)))), (21, .inl (0, 1, none)), (24, .inl (0, 2, none))]
def kq_3 : mm_M := (kt_3, kp_3, 1, none)
def kt_4 : List (Option mm_I) := [some (.iload_n 1, 1, []), some (.invokestatic 33, 4, []), none, none, some (.ifCond .eq 12, 7, [16]), none, none, some (.aload_n 0, 8, []), some (.getfield 24, 11, []), none, none, some (.iload_n 1, 12, []), some (.iaload, 13, []), some (.goto 4, 16, [17]), none, none, some (.iconst 0, 17, []), some (.ireturn, 18, [])]
theorem kh_4 : mm_all prog_2_method_3_code kt_4 0 = true := by decide +kernel
def kp_4 : List (Nat × mm_K) := [(33, .inr (.inr (.inl (53, 1, none)))), (24, .inl (0, 2, none))]
def kq_4 : mm_M := (kt_4, kp_4, 2, (some .int))
def kt_5 : List (Option mm_I) := [some (.aload_n 0, 1, []), some (.getfield 27, 4, []), none, none, some (.iload_n 1, 5, []), some (.bipush 24, 7, []), none, some (.imul, 8, []), some (.iload_n 2, 9, []), some (.iadd, 10, []), some (.iaload, 11, []), some (.ireturn, 12, [])]
theorem kh_5 : mm_all prog_2_method_4_code kt_5 0 = true := by decide +kernel
def kp_5 : List (Nat × mm_K) := [(27, .inl (0, 3, none))]
def kq_5 : mm_M := (kt_5, kp_5, 3, (some .int))
def kt_6 : List (Option mm_I) := [some (.iload_n 1, 1, []), some (.ifCond .le 24, 4, [25]), none, none, some (.iload_n 1, 5, []), some (.sipush 256, 8, []), none, none, some (.if_icmp .ge 17, 11, [25]), none, none, some (.aload_n 0, 12, []), some (.getfield 9, 15, []), none, none, some (.iload_n 1, 16, []), some (.iaload, 17, []), some (.iconst (-1), 18, []), some (.if_icmp .eq 7, 21, [25]), none, none, some (.iconst 1, 22, []), some (.goto 4, 25, [26]), none, none, some (.iconst 0, 26, []), some (.ireturn, 27, [])]
theorem kh_6 : mm_all prog_2_method_5_code kt_6 0 = true := by decide +kernel
def kp_6 : List (Nat × mm_K) := [(9, .inl (0, 0, none))]
def kq_6 : mm_M := (kt_6, kp_6, 2, (some .boolean))
def kt_7 : List (Option mm_I) := [some (.aload_n 0, 1, []), some (.getfield 9, 4, []), none, none, some (.iload_n 1, 5, []), some (.iaload, 6, []), some (.ireturn, 7, [])]
theorem kh_7 : mm_all prog_2_method_6_code kt_7 0 = true := by decide +kernel
def kp_7 : List (Nat × mm_K) := [(9, .inl (0, 0, none))]
def kq_7 : mm_M := (kt_7, kp_7, 2, (some .int))
def kt_8 : List (Option mm_I) := [some (.aload_n 0, 1, []), some (.getfield 21, 4, []), none, none, some (.iload_n 1, 5, []), some (.iaload, 6, []), some (.ireturn, 7, [])]
theorem kh_8 : mm_all prog_2_method_7_code kt_8 0 = true := by decide +kernel
def kp_8 : List (Nat × mm_K) := [(21, .inl (0, 1, none))]
def kq_8 : mm_M := (kt_8, kp_8, 2, (some .int))
def kt_9 : List (Option mm_I) := [some (.aload_n 0, 1, []), some (.getfield 21, 4, []), none, none, some (.iload_n 1, 5, []), some (.iload_n 2, 6, []), some (.iastore, 7, []), some (.return_, 8, [])]
theorem kh_9 : mm_all prog_2_method_8_code kt_9 0 = true := by decide +kernel
def kp_9 : List (Nat × mm_K) := [(21, .inl (0, 1, none))]
def kq_9 : mm_M := (kt_9, kp_9, 3, none)
def kt_10 : List (Option mm_I) := [some (.aload_n 0, 1, []), some (.getfield 30, 4, []), none, none, some (.iconst 0, 5, []), some (.invokestatic 15, 8, []), none, none, some (.iload_n 1, 9, []), some (.istore_n 2, 10, []), some (.iload_n 2, 11, []), some (.ifCond .le 35, 14, [46]), none, none, some (.aload_n 0, 15, []), some (.getfield 9, 18, []), none, none, some (.iload_n 2, 19, []), some (.iaload, 20, []), some (.iconst (-1), 21, []), some (.if_icmp .ne 16, 24, [37]), none, none, some (.aload_n 0, 25, []), some (.getfield 30, 28, []), none, none, some (.iload_n 2, 29, []), some (.invokestatic 37, 32, []), none, none, some (.dup2, 33, []), some (.iaload, 34, []), some (.iconst 1, 35, []), some (.iadd, 36, []), some (.iastore, 37, []), some (.iload_n 2, 38, []), some (.iconst 1, 39, []), some (.isub, 40, []), some (.iload_n 1, 41, []), some (.iand, 42, []), some (.istore_n 2, 43, []), some (.goto (-33), 46, [10]), none, none, some (.iconst 0, 47, []), some (.istore_n 2, 48, []), some (.iconst 0, 49, []), some (.istore_n 3, 50, []), some (.iload_n 3, 51, []), some (.iconst 4, 52, []), some (.if_icmp .ge 39, 55, [91]), none, none, some (.aload_n 0, 56, []), some (.getfield 24, 59, []), none, none, some (.iload_n 3, 60, []), some (.iaload, 61, []), some (.aload_n 0, 62, []), some (.getfield 30, 65, []), none, none, some (.iload_n 3, 66, []), some (.iaload, 67, []), some (.iadd, 68, []), some (.bipush 24, 70, []), none, some (.if_icmp .le 6, 73, [76]), none, none, some (.bipush (-2), 75, []), none, some (.ireturn, 76, []), some (.iload_n 2, 77, []), some (.aload_n 0, 78, []), some (.getfield 30, 81, []), none, none, some (.iload_n 3, 82, []), some (.iaload, 83, []), some (.iadd, 84, []), some (.istore_n 2, 85, []), some (.iinc 3 1, 88, []), none, none, some (.goto (-38), 91, [50]), none, none, some (.iload_n 1, 92, []), some (.istore_n 3, 93, []), some (.iload_n 3, 94, []), some (.ifCond .le 19, 97, [113]), none, none, some (.aload_n 0, 98, []), some (.getfield 9, 101, []), none, none, some (.iload_n 3, 102, []), some (.iconst 0, 103, []), some (.iastore, 104, []), some (.iload_n 3, 105, []), some (.iconst 1, 106, []), some (.isub, 107, []), some (.iload_n 1, 108, []), some (.iand, 109, []), some (.istore_n 3, 110, []), some (.goto (-17), 113, [93]), none, none, some (.aload_n 0, 114, []), some (.invokevirtual 41, 117, []), none, none, some (.iload_n 2, 118, []), some (.ireturn, 119, [])]
theorem kh_10 : mm_all prog_2_method_9_code kt_10 0 = true := by decide +kernel
def kp_10 : List (Nat × mm_K) := [(30, .inl (0, 4, none)), (15, .inr (.inr (.inl (2, 2, none)))), (9, .inl (0, 0, none)), (37, .inr (.inr (.inl (54, 1, none)))), (24, .inl (0, 2, none)), (41, .inr (.inr (.inl (11, 0, some 0))))]
def kq_10 : mm_M := (kt_10, kp_10, 4, (some .int))
def kt_11 : List (Option mm_I) := [some (.aload_n 0, 1, []), some (.getfield 24, 4, []), none, none, some (.iconst 0, 5, []), some (.invokestatic 15, 8, []), none, none, some (.iconst 1, 9, []), some (.istore_n 1, 10, []), some (.iload_n 1, 11, []), some (.sipush 256, 14, []), none, none, some (.if_icmp .ge 63, 17, [77]), none, none, some (.aload_n 0, 18, []), some (.getfield 9, 21, []), none, none, some (.iload_n 1, 22, []), some (.iaload, 23, []), some (.iconst (-1), 24, []), some (.if_icmp .eq 47, 27, [71]), none, none, some (.iload_n 1, 28, []), some (.invokestatic 37, 31, []), none, none, some (.istore_n 2, 32, []), some (.aload_n 0, 33, []), some (.getfield 9, 36, []), none, none, some (.iload_n 1, 37, []), some (.aload_n 0, 38, []), some (.getfield 24, 41, []), none, none, some (.iload_n 2, 42, []), some (.iaload, 43, []), some (.iastore, 44, []), some (.aload_n 0, 45, []), some (.getfield 27, 48, []), none, none, some (.iload_n 2, 49, []), some (.bipush 24, 51, []), none, some (.imul, 52, []), some (.aload_n 0, 53, []), some (.getfield 24, 56, []), none, none, some (.iload_n 2, 57, []), some (.iaload, 58, []), some (.iadd, 59, []), some (.iload_n 1, 60, []), some (.iastore, 61, []), some (.aload_n 0, 62, []), some (.getfield 24, 65, []), none, none, some (.iload_n 2, 66, []), some (.dup2, 67, []), some (.iaload, 68, []), some (.iconst 1, 69, []), some (.iadd, 70, []), some (.iastore, 71, []), some (.iinc 1 1, 74, []), none, none, some (.goto (-64), 77, [10]), none, none, some (.return_, 78, [])]
theorem kh_11 : mm_all prog_2_method_10_code kt_11 0 = true := by decide +kernel
def kp_11 : List (Nat × mm_K) := [(24, .inl (0, 2, none)), (15, .inr (.inr (.inl (2, 2, none)))), (9, .inl (0, 0, none)), (37, .inr (.inr (.inl (54, 1, none)))), (27, .inl (0, 3, none))]
def kq_11 : mm_M := (kt_11, kp_11, 3, none)
def kt_12 : List (Option mm_I) := [some (.iload_n 1, 1, []), some (.invokestatic 37, 4, []), none, none, some (.iconst 1, 5, []), some (.iadd, 6, []), some (.istore_n 2, 7, []), some (.iconst 0, 8, []), some (.istore_n 3, 9, []), some (.iconst 0, 10, []), some (.istore 4, 12, []), none, some (.iload 4, 14, []), none, some (.aload_n 0, 15, []), some (.iload_n 2, 16, []), some (.invokevirtual 44, 19, []), none, none, some (.if_icmp .ge 35, 22, [54]), none, none, some (.aload_n 0, 23, []), some (.iload_n 2, 24, []), some (.iload 4, 26, []), none, some (.invokevirtual 47, 29, []), none, none, some (.istore 5, 31, []), none, some (.iload_n 3, 32, []), some (.iload_n 1, 33, []), some (.iload 5, 35, []), none, some (.invokestatic 51, 38, []), none, none, some (.aload_n 0, 39, []), some (.getfield 21, 42, []), none, none, some (.iload 5, 44, []), none, some (.iaload, 45, []), some (.imul, 46, []), some (.iadd, 47, []), some (.istore_n 3, 48, []), some (.iinc 4 1, 51, []), none, none, some (.goto (-39), 54, [12]), none, none, some (.iload_n 3, 55, []), some (.ireturn, 56, [])]
theorem kh_12 : mm_all prog_2_method_11_code kt_12 0 = true := by decide +kernel
def kp_12 : List (Nat × mm_K) := [(37, .inr (.inr (.inl (54, 1, none)))), (44, .inr (.inr (.inl (4, 1, some 0)))), (47, .inr (.inr (.inl (5, 2, some 0)))), (51, .inr (.inr (.inl (55, 2, none)))), (21, .inl (0, 1, none))]
def kq_12 : mm_M := (kt_12, kp_12, 6, (some .int))
def kt_13 : List (Option mm_I) := [some (.iconst 0, 1, []), some (.istore_n 2, 2, []), some (.iload_n 2, 3, []), some (.aload_n 0, 4, []), some (.iload_n 1, 5, []), some (.iconst 1, 6, []), some (.isub, 7, []), some (.invokevirtual 44, 10, []), none, none, some (.if_icmp .ge 26, 13, [36]), none, none, some (.aload_n 0, 14, []), some (.aload_n 0, 15, []), some (.iload_n 1, 16, []), some (.iconst 1, 17, []), some (.isub, 18, []), some (.iload_n 2, 19, []), some (.invokevirtual 47, 22, []), none, none, some (.invokevirtual 54, 25, []), none, none, some (.ifCond .eq 5, 28, [30]), none, none, some (.iconst 0, 29, []), some (.ireturn, 30, []), some (.iinc 2 1, 33, []), none, none, some (.goto (-31), 36, [2]), none, none, some (.iconst 1, 37, []), some (.ireturn, 38, [])]
theorem kh_13 : mm_all prog_2_method_12_code kt_13 0 = true := by decide +kernel
def kp_13 : List (Nat × mm_K) := [(44, .inr (.inr (.inl (4, 1, some 0)))), (47, .inr (.inr (.inl (5, 2, some 0)))), (54, .inr (.inr (.inl (12, 1, some 0))))]
def kq_13 : mm_M := (kt_13, kp_13, 3, (some .boolean))
def kt_14 : List (Option mm_I) := [some (.aload_n 0, 1, []), some (.iconst 1, 2, []), some (.iload_n 1, 3, []), some (.invokevirtual 47, 6, []), none, none, some (.istore_n 2, 7, []), some (.iconst 0, 8, []), some (.istore_n 3, 9, []), some (.iconst 0, 10, []), some (.istore 4, 12, []), none, some (.iload 4, 14, []), none, some (.aload_n 0, 15, []), some (.iconst 2, 16, []), some (.invokevirtual 44, 19, []), none, none, some (.if_icmp .ge 29, 22, [48]), none, none, some (.aload_n 0, 23, []), some (.iconst 2, 24, []), some (.iload 4, 26, []), none, some (.invokevirtual 47, 29, []), none, none, some (.iload_n 2, 30, []), some (.iand, 31, []), some (.iload_n 2, 32, []), some (.if_icmp .ne 10, 35, [42]), none, none, some (.iload_n 3, 36, []), some (.iconst 1, 37, []), some (.iload 4, 39, []), none, some (.ishl, 40, []), some (.ior, 41, []), some (.istore_n 3, 42, []), some (.iinc 4 1, 45, []), none, none, some (.goto (-33), 48, [12]), none, none, some (.iload_n 3, 49, []), some (.ireturn, 50, [])]
theorem kh_14 : mm_all prog_2_method_13_code kt_14 0 = true := by decide +kernel
def kp_14 : List (Nat × mm_K) := [(47, .inr (.inr (.inl (5, 2, some 0)))), (44, .inr (.inr (.inl (4, 1, some 0))))]
def kq_14 : mm_M := (kt_14, kp_14, 5, (some .int))
def kt_15 : List (Option mm_I) := [some (.iconst 0, 1, []), some (.istore_n 3, 2, []), some (.iconst 0, 3, []), some (.istore 4, 5, []), none, some (.iload 4, 7, []), none, some (.aload_n 0, 8, []), some (.iconst 2, 9, []), some (.invokevirtual 44, 12, []), none, none, some (.if_icmp .ge 76, 15, [88]), none, none, some (.aload_n 0, 16, []), some (.iconst 2, 17, []), some (.iload 4, 19, []), none, some (.invokevirtual 47, 22, []), none, none, some (.istore 5, 24, []), none, some (.iload 5, 26, []), none, some (.iload 5, 28, []), none, some (.iconst 1, 29, []), some (.isub, 30, []), some (.iand, 31, []), some (.istore 6, 33, []), none, some (.iload 6, 35, []), none, some (.iload 6, 37, []), none, some (.ineg, 38, []), some (.iand, 39, []), some (.istore 7, 41, []), none, some (.iload_n 2, 42, []), some (.ifCond .eq 15, 45, [57]), none, none, some (.iload 5, 47, []), none, some (.iconst 2, 48, []), some (.iload 7, 50, []), none, some (.imul, 51, []), some (.iconst 1, 52, []), some (.isub, 53, []), some (.iand, 54, []), some (.goto 5, 57, [59]), none, none, some (.iload 6, 59, []), none, some (.istore 8, 61, []), none, some (.iload_n 1, 62, []), some (.aload_n 0, 63, []), some (.getfield 9, 66, []), none, none, some (.iload 8, 68, []), none, some (.iaload, 69, []), some (.ishr, 70, []), some (.iconst 1, 71, []), some (.iand, 72, []), some (.ifCond .eq 10, 75, [82]), none, none, some (.iload_n 3, 76, []), some (.iconst 1, 77, []), some (.iload 4, 79, []), none, some (.ishl, 80, []), some (.ior, 81, []), some (.istore_n 3, 82, []), some (.iinc 4 1, 85, []), none, none, some (.goto (-80), 88, [5]), none, none, some (.iload_n 3, 89, []), some (.ireturn, 90, [])]
theorem kh_15 : mm_all prog_2_method_14_code kt_15 0 = true := by decide +kernel
def kp_15 : List (Nat × mm_K) := [(44, .inr (.inr (.inl (4, 1, some 0)))), (47, .inr (.inr (.inl (5, 2, some 0)))), (9, .inl (0, 0, none))]
def kq_15 : mm_M := (kt_15, kp_15, 9, (some .int))
def kt_16 : List (Option mm_I) := [some (.aload_n 0, 1, []), some (.iload_n 1, 2, []), some (.putfield 35, 5, []), none, none, some (.aload_n 0, 6, []), some (.iload_n 2, 7, []), some (.putfield 38, 10, []), none, none, some (.iconst 0, 11, []), some (.istore_n 3, 12, []), some (.iload_n 3, 13, []), some (.aload_n 0, 14, []), some (.getfield 35, 17, []), none, none, some (.if_icmp .ge 40, 20, [57]), none, none, some (.iconst 0, 21, []), some (.istore 4, 23, []), none, some (.iload 4, 25, []), none, some (.aload_n 0, 26, []), some (.getfield 38, 29, []), none, none, some (.if_icmp .ge 22, 32, [51]), none, none, some (.aload_n 0, 33, []), some (.getfield 11, 36, []), none, none, some (.iload_n 3, 37, []), some (.bipush 48, 39, []), none, some (.imul, 40, []), some (.iload 4, 42, []), none, some (.iadd, 43, []), some (.iconst 0, 44, []), some (.iastore, 45, []), some (.iinc 4 1, 48, []), none, none, some (.goto (-25), 51, [23]), none, none, some (.iinc 3 1, 54, []), none, none, some (.goto (-42), 57, [12]), none, none, some (.return_, 58, [])]
theorem kh_16 : mm_all prog_3_method_2_code kt_16 0 = true := by decide +kernel
def kp_16 : List (Nat × mm_K) := [(35, .inl (1, 6, some .int)), (38, .inl (1, 7, some .int)), (11, .inl (1, 0, none))]
def kq_16 : mm_M := (kt_16, kp_16, 5, none)
def kt_17 : List (Option mm_I) := [some (.aload_n 0, 1, []), some (.getfield 11, 4, []), none, none, some (.iload_n 1, 5, []), some (.bipush 48, 7, []), none, some (.imul, 8, []), some (.iload_n 2, 9, []), some (.iadd, 10, []), some (.iload_n 3, 11, []), some (.iastore, 12, []), some (.return_, 13, [])]
theorem kh_17 : mm_all prog_3_method_3_code kt_17 0 = true := by decide +kernel
def kp_17 : List (Nat × mm_K) := [(11, .inl (1, 0, none))]
def kq_17 : mm_M := (kt_17, kp_17, 4, none)
def kt_18 : List (Option mm_I) := [some (.aload_n 0, 1, []), some (.getfield 21, 4, []), none, none, some (.iload_n 1, 5, []), some (.iaload, 6, []), some (.ireturn, 7, [])]
theorem kh_18 : mm_all prog_3_method_4_code kt_18 0 = true := by decide +kernel
def kp_18 : List (Nat × mm_K) := [(21, .inl (1, 3, none))]
def kq_18 : mm_M := (kt_18, kp_18, 2, (some .int))
def kt_19 : List (Option mm_I) := [some (.aload_n 0, 1, []), some (.iload_n 1, 2, []), some (.iload_n 2, 3, []), some (.invokevirtual 41, 6, []), none, none, some (.aload_n 0, 7, []), some (.lconst 1, 8, []), some (.putfield 45, 11, []), none, none, some (.iconst 0, 12, []), some (.istore_n 3, 13, []), some (.iconst 1, 14, []), some (.istore 4, 16, []), none, some (.iconst 0, 17, []), some (.istore 5, 19, []), none, some (.iload 5, 21, []), none, some (.iload_n 2, 22, []), some (.if_icmp .ge 116, 25, [138]), none, none, some (.iload_n 3, 26, []), some (.istore 6, 28, []), none, some (.iconst 0, 29, []), some (.istore 7, 31, []), none, some (.iload 7, 33, []), none, some (.aload_n 0, 34, []), some (.getfield 38, 37, []), none, none, some (.if_icmp .ge 78, 40, [115]), none, none, some (.aload_n 0, 41, []), some (.iload_n 3, 42, []), some (.iload 7, 44, []), none, some (.iload 4, 46, []), none, some (.iload_n 1, 47, []), some (.imul, 48, []), some (.invokevirtual 49, 51, []), none, none, some (.istore 8, 53, []), none, some (.iload 8, 55, []), none, some (.aload_n 0, 56, []), some (.getfield 35, 59, []), none, none, some (.if_icmp .ge 50, 62, [109]), none, none, some (.aload_n 0, 63, []), some (.iload_n 3, 64, []), some (.iload 8, 66, []), none, some (.invokevirtual 53, 69, []), none, none, some (.aload_n 0, 70, []), some (.aload_n 0, 71, []), some (.getfield 45, 74, []), none, none, some (.aload_n 0, 75, []), some (.getfield 15, 78, []), none, none, some (.iload_n 3, 79, []), some (.bipush 48, 81, []), none, some (.imul, 82, []), some (.iload 7, 84, []), none, some (.iadd, 85, []), some (.iaload, 86, []), some (.i2l, 87, []), some (.lmul, 88, []), some (.aload_n 0, 89, []), some (.getfield 31, 92, []), none, none, some (.i2l, 93, []), some (.lrem, 94, []), some (.putfield 45, 97, []), none, none, some (.aload_n 0, 98, []), some (.iload_n 3, 99, []), some (.iload 7, 101, []), none, some (.iload 4, 103, []), none, some (.invokevirtual 56, 106, []), none, none, some (.iinc 3 1, 109, []), none, none, some (.iinc 7 1, 112, []), none, none, some (.goto (-81), 115, [31]), none, none, some (.aload_n 0, 116, []), some (.getfield 18, 119, []), none, none, some (.iload 5, 121, []), none, some (.iload_n 3, 122, []), some (.iload 6, 124, []), none, some (.isub, 125, []), some (.iastore, 126, []), some (.iload 4, 128, []), none, some (.iload_n 1, 129, []), some (.imul, 130, []), some (.istore 4, 132, []), none, some (.iinc 5 1, 135, []), none, none, some (.goto (-116), 138, [19]), none, none, some (.iload_n 3, 139, []), some (.ireturn, 140, [])]
theorem kh_19 : mm_all prog_3_method_5_code kt_19 0 = true := by decide +kernel
def kp_19 : List (Nat × mm_K) := [(41, .inr (.inr (.inl (20, 2, some 1)))), (45, .inl (1, 9, some .long)), (38, .inl (1, 7, some .int)), (49, .inr (.inr (.inl (21, 3, some 1)))), (35, .inl (1, 6, some .int)), (53, .inr (.inr (.inl (22, 2, some 1)))), (15, .inl (1, 1, none)), (31, .inl (1, 8, some .int)), (56, .inr (.inr (.inl (23, 3, some 1)))), (18, .inl (1, 2, none))]
def kq_19 : mm_M := (kt_19, kp_19, 9, (some .int))
def kt_20 : List (Option mm_I) := [some (.aload_n 0, 1, []), some (.iconst 1, 2, []), some (.putfield 31, 5, []), none, none, some (.iconst 0, 6, []), some (.istore_n 3, 7, []), some (.iload_n 3, 8, []), some (.iload_n 2, 9, []), some (.if_icmp .ge 19, 12, [28]), none, none, some (.aload_n 0, 13, []), some (.dup, 14, []), some (.getfield 31, 17, []), none, none, some (.iload_n 1, 18, []), some (.imul, 19, []), some (.putfield 31, 22, []), none, none, some (.iinc 3 1, 25, []), none, none, some (.goto (-18), 28, [7]), none, none, some (.iconst 0, 29, []), some (.istore_n 3, 30, []), some (.iload_n 3, 31, []), some (.aload_n 0, 32, []), some (.getfield 35, 35, []), none, none, some (.if_icmp .ge 74, 38, [109]), none, none, some (.iconst 0, 39, []), some (.istore 4, 41, []), none, some (.iload 4, 43, []), none, some (.aload_n 0, 44, []), some (.getfield 38, 47, []), none, none, some (.if_icmp .ge 56, 50, [103]), none, none, some (.iload_n 3, 51, []), some (.bipush 48, 53, []), none, some (.imul, 54, []), some (.iload 4, 56, []), none, some (.iadd, 57, []), some (.istore 5, 59, []), none, some (.aload_n 0, 60, []), some (.getfield 11, 63, []), none, none, some (.iload 5, 65, []), none, some (.iaload, 66, []), some (.aload_n 0, 67, []), some (.getfield 31, 70, []), none, none, some (.irem, 71, []), some (.istore 6, 73, []), none, some (.aload_n 0, 74, []), some (.getfield 15, 77, []), none, none, some (.iload 5, 79, []), none, some (.iload 6, 81, []), none, some (.ifCond .ge 13, 84, [94]), none, none, some (.iload 6, 86, []), none, some (.aload_n 0, 87, []), some (.getfield 31, 90, []), none, none, some (.iadd, 91, []), some (.goto 5, 94, [96]), none, none, some (.iload 6, 96, []), none, some (.iastore, 97, []), some (.iinc 4 1, 100, []), none, none, some (.goto (-59), 103, [41]), none, none, some (.iinc 3 1, 106, []), none, none, some (.goto (-76), 109, [30]), none, none, some (.return_, 110, [])]
theorem kh_20 : mm_all prog_3_method_6_code kt_20 0 = true := by decide +kernel
def kp_20 : List (Nat × mm_K) := [(31, .inl (1, 8, some .int)), (35, .inl (1, 6, some .int)), (38, .inl (1, 7, some .int)), (11, .inl (1, 0, none)), (15, .inl (1, 1, none))]
def kq_20 : mm_M := (kt_20, kp_20, 7, none)
def kt_21 : List (Option mm_I) := [some (.iload_n 1, 1, []), some (.istore 4, 3, []), none, some (.iload 4, 5, []), none, some (.aload_n 0, 6, []), some (.getfield 35, 9, []), none, none, some (.if_icmp .ge 26, 12, [35]), none, none, some (.aload_n 0, 13, []), some (.getfield 15, 16, []), none, none, some (.iload 4, 18, []), none, some (.bipush 48, 20, []), none, some (.imul, 21, []), some (.iload_n 2, 22, []), some (.iadd, 23, []), some (.iaload, 24, []), some (.iload_n 3, 25, []), some (.irem, 26, []), some (.ifCond .ne 9, 29, [35]), none, none, some (.iinc 4 1, 32, []), none, none, some (.goto (-29), 35, [3]), none, none, some (.iload 4, 37, []), none, some (.ireturn, 38, [])]
theorem kh_21 : mm_all prog_3_method_7_code kt_21 0 = true := by decide +kernel
def kp_21 : List (Nat × mm_K) := [(35, .inl (1, 6, some .int)), (15, .inl (1, 1, none))]
def kq_21 : mm_M := (kt_21, kp_21, 5, (some .int))
def kt_22 : List (Option mm_I) := [some (.iload_n 1, 1, []), some (.iload_n 2, 2, []), some (.if_icmp .ne 4, 5, [6]), none, none, some (.return_, 6, []), some (.iconst 0, 7, []), some (.istore_n 3, 8, []), some (.iload_n 3, 9, []), some (.aload_n 0, 10, []), some (.getfield 38, 13, []), none, none, some (.if_icmp .ge 57, 16, [70]), none, none, some (.aload_n 0, 17, []), some (.getfield 15, 20, []), none, none, some (.iload_n 1, 21, []), some (.bipush 48, 23, []), none, some (.imul, 24, []), some (.iload_n 3, 25, []), some (.iadd, 26, []), some (.iaload, 27, []), some (.istore 4, 29, []), none, some (.aload_n 0, 30, []), some (.getfield 15, 33, []), none, none, some (.iload_n 1, 34, []), some (.bipush 48, 36, []), none, some (.imul, 37, []), some (.iload_n 3, 38, []), some (.iadd, 39, []), some (.aload_n 0, 40, []), some (.getfield 15, 43, []), none, none, some (.iload_n 2, 44, []), some (.bipush 48, 46, []), none, some (.imul, 47, []), some (.iload_n 3, 48, []), some (.iadd, 49, []), some (.iaload, 50, []), some (.iastore, 51, []), some (.aload_n 0, 52, []), some (.getfield 15, 55, []), none, none, some (.iload_n 2, 56, []), some (.bipush 48, 58, []), none, some (.imul, 59, []), some (.iload_n 3, 60, []), some (.iadd, 61, []), some (.iload 4, 63, []), none, some (.iastore, 64, []), some (.iinc 3 1, 67, []), none, none, some (.goto (-59), 70, [8]), none, none, some (.return_, 71, [])]
theorem kh_22 : mm_all prog_3_method_8_code kt_22 0 = true := by decide +kernel
def kp_22 : List (Nat × mm_K) := [(38, .inl (1, 7, some .int)), (15, .inl (1, 1, none))]
def kq_22 : mm_M := (kt_22, kp_22, 5, none)
def kt_23 : List (Option mm_I) := [some (.aload_n 0, 1, []), some (.aload_n 0, 2, []), some (.getfield 15, 5, []), none, none, some (.iload_n 1, 6, []), some (.bipush 48, 8, []), none, some (.imul, 9, []), some (.iload_n 2, 10, []), some (.iadd, 11, []), some (.iaload, 12, []), some (.iload_n 3, 13, []), some (.idiv, 14, []), some (.invokevirtual 60, 17, []), none, none, some (.lstore 4, 19, []), none, some (.iload_n 1, 20, []), some (.iconst 1, 21, []), some (.iadd, 22, []), some (.istore 6, 24, []), none, some (.iload 6, 26, []), none, some (.aload_n 0, 27, []), some (.getfield 35, 30, []), none, none, some (.if_icmp .ge 55, 33, [85]), none, none, some (.aload_n 0, 34, []), some (.getfield 15, 37, []), none, none, some (.iload 6, 39, []), none, some (.bipush 48, 41, []), none, some (.imul, 42, []), some (.iload_n 2, 43, []), some (.iadd, 44, []), some (.iaload, 45, []), some (.istore 7, 47, []), none, some (.iload 7, 49, []), none, some (.ifCond .eq 30, 52, [79]), none, none, some (.aload_n 0, 53, []), some (.iload 6, 55, []), none, some (.iload_n 1, 56, []), some (.aload_n 0, 57, []), some (.getfield 31, 60, []), none, none, some (.i2l, 61, []), some (.iload 7, 63, []), none, some (.iload_n 3, 64, []), some (.idiv, 65, []), some (.i2l, 66, []), some (.lload 4, 68, []), none, some (.lmul, 69, []), some (.aload_n 0, 70, []), some (.getfield 31, 73, []), none, none, some (.i2l, 74, []), some (.lrem, 75, []), some (.lsub, 76, []), some (.invokevirtual 64, 79, []), none, none, some (.iinc 6 1, 82, []), none, none, some (.goto (-58), 85, [24]), none, none, some (.return_, 86, [])]
theorem kh_23 : mm_all prog_3_method_9_code kt_23 0 = true := by decide +kernel
def kp_23 : List (Nat × mm_K) := [(15, .inl (1, 1, none)), (60, .inr (.inr (.inl (25, 1, some 1)))), (35, .inl (1, 6, some .int)), (31, .inl (1, 8, some .int)), (64, .inr (.inr (.inl (24, 3, some 1))))]
def kq_23 : mm_M := (kt_23, kp_23, 8, none)
def kt_24 : List (Option mm_I) := [some (.iconst 0, 1, []), some (.istore 5, 3, []), none, some (.iload 5, 5, []), none, some (.aload_n 0, 6, []), some (.getfield 38, 9, []), none, none, some (.if_icmp .ge 65, 12, [74]), none, none, some (.aload_n 0, 13, []), some (.getfield 15, 16, []), none, none, some (.iload_n 2, 17, []), some (.bipush 48, 19, []), none, some (.imul, 20, []), some (.iload 5, 22, []), none, some (.iadd, 23, []), some (.iaload, 24, []), some (.istore 6, 26, []), none, some (.iload 6, 28, []), none, some (.ifCond .eq 40, 31, [68]), none, none, some (.iload_n 1, 32, []), some (.bipush 48, 34, []), none, some (.imul, 35, []), some (.iload 5, 37, []), none, some (.iadd, 38, []), some (.istore 7, 40, []), none, some (.aload_n 0, 41, []), some (.getfield 15, 44, []), none, none, some (.iload 7, 46, []), none, some (.aload_n 0, 47, []), some (.getfield 15, 50, []), none, none, some (.iload 7, 52, []), none, some (.iaload, 53, []), some (.i2l, 54, []), some (.lload_n 3, 55, []), some (.iload 6, 57, []), none, some (.i2l, 58, []), some (.lmul, 59, []), some (.ladd, 60, []), some (.aload_n 0, 61, []), some (.getfield 31, 64, []), none, none, some (.i2l, 65, []), some (.lrem, 66, []), some (.l2i, 67, []), some (.iastore, 68, []), some (.iinc 5 1, 71, []), none, none, some (.goto (-68), 74, [3]), none, none, some (.return_, 75, [])]
theorem kh_24 : mm_all prog_3_method_10_code kt_24 0 = true := by decide +kernel
def kp_24 : List (Nat × mm_K) := [(38, .inl (1, 7, some .int)), (15, .inl (1, 1, none)), (31, .inl (1, 8, some .int))]
def kq_24 : mm_M := (kt_24, kp_24, 8, none)
def kt_25 : List (Option mm_I) := [some (.iload_n 1, 1, []), some (.i2l, 2, []), some (.lstore_n 2, 3, []), some (.aload_n 0, 4, []), some (.getfield 31, 7, []), none, none, some (.i2l, 8, []), some (.lstore 4, 10, []), none, some (.lconst 1, 11, []), some (.lstore 6, 13, []), none, some (.lconst 0, 14, []), some (.lstore 8, 16, []), none, some (.iconst 0, 17, []), some (.istore 10, 19, []), none, some (.iload 10, 21, []), none, some (.bipush 100, 23, []), none, some (.if_icmp .ge 56, 26, [79]), none, none, some (.lload 4, 28, []), none, some (.lconst 0, 29, []), some (.lcmp, 30, []), some (.ifCond .eq 49, 33, [79]), none, none, some (.lload_n 2, 34, []), some (.lload 4, 36, []), none, some (.ldiv, 37, []), some (.lstore 11, 39, []), none, some (.lload_n 2, 40, []), some (.lload 11, 42, []), none, some (.lload 4, 44, []), none, some (.lmul, 45, []), some (.lsub, 46, []), some (.lstore 13, 48, []), none, some (.lload 6, 50, []), none, some (.lload 11, 52, []), none, some (.lload 8, 54, []), none, some (.lmul, 55, []), some (.lsub, 56, []), some (.lstore 15, 58, []), none, some (.lload 4, 60, []), none, some (.lstore_n 2, 61, []), some (.lload 8, 63, []), none, some (.lstore 6, 65, []), none, some (.lload 13, 67, []), none, some (.lstore 4, 69, []), none, some (.lload 15, 71, []), none, some (.lstore 8, 73, []), none, some (.iinc 10 1, 76, []), none, none, some (.goto (-57), 79, [19]), none, none, some (.lload 6, 81, []), none, some (.lconst 0, 82, []), some (.lcmp, 83, []), some (.ifCond .ge 14, 86, [97]), none, none, some (.lload 6, 88, []), none, some (.aload_n 0, 89, []), some (.getfield 31, 92, []), none, none, some (.i2l, 93, []), some (.ladd, 94, []), some (.goto 5, 97, [99]), none, none, some (.lload 6, 99, []), none, some (.lreturn, 100, [])]
theorem kh_25 : mm_all prog_3_method_11_code kt_25 0 = true := by decide +kernel
def kp_25 : List (Nat × mm_K) := [(31, .inl (1, 8, some .int))]
def kq_25 : mm_M := (kt_25, kp_25, 17, (some .long))
def kt_26 : List (Option mm_I) := [some (.aload_n 0, 1, []), some (.ldc 30, 3, []), none, some (.iconst 1, 4, []), some (.invokevirtual 68, 7, []), none, none, some (.istore_n 1, 8, []), some (.aload_n 0, 9, []), some (.getfield 45, 12, []), none, none, some (.ldc2_w 72, 15, []), none, none, some (.aload_n 0, 16, []), some (.getfield 45, 19, []), none, none, some (.lsub, 20, []), some (.invokestatic 74, 23, []), none, none, some (.l2i, 24, []), some (.istore_n 2, 25, []), some (.aload_n 0, 26, []), some (.iconst 0, 27, []), some (.putfield 80, 30, []), none, none, some (.iconst 2, 31, []), some (.istore_n 3, 32, []), some (.iload_n 3, 33, []), some (.iload_n 3, 34, []), some (.imul, 35, []), some (.iload_n 2, 36, []), some (.if_icmp .gt 40, 39, [76]), none, none, some (.iconst 0, 40, []), some (.istore 4, 42, []), none, some (.iload_n 2, 43, []), some (.iconst 1, 44, []), some (.if_icmp .le 19, 47, [63]), none, none, some (.iload_n 2, 48, []), some (.iload_n 3, 49, []), some (.irem, 50, []), some (.ifCond .ne 13, 53, [63]), none, none, some (.iload_n 2, 54, []), some (.iload_n 3, 55, []), some (.idiv, 56, []), some (.istore_n 2, 57, []), some (.iinc 4 1, 60, []), none, none, some (.goto (-18), 63, [42]), none, none, some (.aload_n 0, 64, []), some (.iload_n 3, 65, []), some (.iload 4, 67, []), none, some (.invokevirtual 83, 70, []), none, none, some (.iinc 3 1, 73, []), none, none, some (.goto (-41), 76, [32]), none, none, some (.aload_n 0, 77, []), some (.iload_n 2, 78, []), some (.iload_n 2, 79, []), some (.iconst 1, 80, []), some (.if_icmp .le 7, 83, [87]), none, none, some (.iconst 1, 84, []), some (.goto 4, 87, [88]), none, none, some (.iconst 0, 88, []), some (.invokevirtual 83, 91, []), none, none, some (.iload_n 1, 92, []), some (.ireturn, 93, [])]
theorem kh_26 : mm_all prog_3_method_12_code kt_26 0 = true := by decide +kernel
def kp_26 : List (Nat × mm_K) := [(30, .inr (.inl (.int 2147483647))), (68, .inr (.inr (.inl (19, 2, some 1)))), (45, .inl (1, 9, some .long)), (72, .inr (.inl (.long 2147483647))), (74, .inr (.inr (.inr 1))), (80, .inl (1, 10, some .int)), (83, .inr (.inr (.inl (27, 2, some 1))))]
def kq_26 : mm_M := (kt_26, kp_26, 5, (some .int))
def kt_27 : List (Option mm_I) := [some (.iload_n 2, 1, []), some (.ifCond .le 42, 4, [43]), none, none, some (.aload_n 0, 5, []), some (.getfield 80, 8, []), none, none, some (.bipush 10, 10, []), none, some (.if_icmp .ge 33, 13, [43]), none, none, some (.aload_n 0, 14, []), some (.getfield 24, 17, []), none, none, some (.aload_n 0, 18, []), some (.getfield 80, 21, []), none, none, some (.iload_n 1, 22, []), some (.iastore, 23, []), some (.aload_n 0, 24, []), some (.getfield 27, 27, []), none, none, some (.aload_n 0, 28, []), some (.getfield 80, 31, []), none, none, some (.iload_n 2, 32, []), some (.iastore, 33, []), some (.aload_n 0, 34, []), some (.dup, 35, []), some (.getfield 80, 38, []), none, none, some (.iconst 1, 39, []), some (.iadd, 40, []), some (.putfield 80, 43, []), none, none, some (.return_, 44, [])]
theorem kh_27 : mm_all prog_3_method_13_code kt_27 0 = true := by decide +kernel
def kp_27 : List (Nat × mm_K) := [(80, .inl (1, 10, some .int)), (24, .inl (1, 4, none)), (27, .inl (1, 5, none))]
def kq_27 : mm_M := (kt_27, kp_27, 3, none)
def kt_28 : List (Option mm_I) := [some (.aload_n 0, 1, []), some (.invokevirtual 86, 4, []), none, none, some (.istore_n 1, 5, []), some (.iconst 0, 6, []), some (.istore_n 2, 7, []), some (.iload_n 2, 8, []), some (.iload_n 1, 9, []), some (.if_icmp .ge 16, 12, [25]), none, none, some (.aload_n 0, 13, []), some (.getfield 21, 16, []), none, none, some (.iload_n 2, 17, []), some (.iconst 1, 18, []), some (.iastore, 19, []), some (.iinc 2 1, 22, []), none, none, some (.goto (-15), 25, [7]), none, none, some (.iconst 0, 26, []), some (.istore_n 2, 27, []), some (.iload_n 2, 28, []), some (.aload_n 0, 29, []), some (.getfield 80, 32, []), none, none, some (.if_icmp .ge 89, 35, [121]), none, none, some (.aload_n 0, 36, []), some (.aload_n 0, 37, []), some (.getfield 24, 40, []), none, none, some (.iload_n 2, 41, []), some (.iaload, 42, []), some (.aload_n 0, 43, []), some (.getfield 27, 46, []), none, none, some (.iload_n 2, 47, []), some (.iaload, 48, []), some (.invokevirtual 68, 51, []), none, none, some (.pop, 52, []), some (.iconst 0, 53, []), some (.istore_n 3, 54, []), some (.iconst 0, 55, []), some (.istore 4, 57, []), none, some (.iload 4, 59, []), none, some (.aload_n 0, 60, []), some (.getfield 27, 63, []), none, none, some (.iload_n 2, 64, []), some (.iaload, 65, []), some (.if_icmp .ge 50, 68, [115]), none, none, some (.iload_n 3, 69, []), some (.aload_n 0, 70, []), some (.getfield 18, 73, []), none, none, some (.iload 4, 75, []), none, some (.iaload, 76, []), some (.iadd, 77, []), some (.istore_n 3, 78, []), some (.iload_n 3, 79, []), some (.istore 5, 81, []), none, some (.iload 5, 83, []), none, some (.iload_n 1, 84, []), some (.if_icmp .ge 25, 87, [109]), none, none, some (.aload_n 0, 88, []), some (.getfield 21, 91, []), none, none, some (.iload 5, 93, []), none, some (.dup2, 94, []), some (.iaload, 95, []), some (.aload_n 0, 96, []), some (.getfield 24, 99, []), none, none, some (.iload_n 2, 100, []), some (.iaload, 101, []), some (.imul, 102, []), some (.iastore, 103, []), some (.iinc 5 1, 106, []), none, none, some (.goto (-25), 109, [81]), none, none, some (.iinc 4 1, 112, []), none, none, some (.goto (-55), 115, [57]), none, none, some (.iinc 2 1, 118, []), none, none, some (.goto (-91), 121, [27]), none, none, some (.iload_n 1, 122, []), some (.ireturn, 123, [])]
theorem kh_28 : mm_all prog_3_method_14_code kt_28 0 = true := by decide +kernel
def kp_28 : List (Nat × mm_K) := [(86, .inr (.inr (.inl (26, 0, some 1)))), (21, .inl (1, 3, none)), (80, .inl (1, 10, some .int)), (24, .inl (1, 4, none)), (27, .inl (1, 5, none)), (68, .inr (.inr (.inl (19, 2, some 1)))), (18, .inl (1, 2, none))]
def kq_28 : mm_M := (kt_28, kp_28, 6, (some .int))
def kt_29 : List (Option mm_I) := [some (.aload_n 0, 1, []), some (.getfield 38, 4, []), none, none, some (.istore_n 1, 5, []), some (.aload_n 0, 6, []), some (.iload_n 1, 7, []), some (.iconst 1, 8, []), some (.isub, 9, []), some (.putfield 38, 12, []), none, none, some (.aload_n 0, 13, []), some (.invokevirtual 86, 16, []), none, none, some (.istore_n 2, 17, []), some (.aload_n 0, 18, []), some (.iload_n 1, 19, []), some (.putfield 38, 22, []), none, none, some (.aload_n 0, 23, []), some (.ldc 30, 25, []), none, some (.iconst 1, 26, []), some (.invokevirtual 68, 29, []), none, none, some (.iload_n 2, 30, []), some (.if_icmp .le 5, 33, [35]), none, none, some (.iconst 0, 34, []), some (.ireturn, 35, []), some (.iconst 1, 36, []), some (.istore_n 3, 37, []), some (.iconst 0, 38, []), some (.istore 4, 40, []), none, some (.iload 4, 42, []), none, some (.aload_n 0, 43, []), some (.getfield 80, 46, []), none, none, some (.if_icmp .ge 66, 49, [112]), none, none, some (.aload_n 0, 50, []), some (.iload_n 1, 51, []), some (.iconst 1, 52, []), some (.isub, 53, []), some (.putfield 38, 56, []), none, none, some (.aload_n 0, 57, []), some (.iload 4, 59, []), none, some (.iload_n 2, 60, []), some (.invokevirtual 90, 63, []), none, none, some (.istore 5, 65, []), none, some (.aload_n 0, 66, []), some (.iload_n 1, 67, []), some (.putfield 38, 70, []), none, none, some (.aload_n 0, 71, []), some (.iload 4, 73, []), none, some (.iload_n 2, 74, []), some (.invokevirtual 90, 77, []), none, none, some (.istore 6, 79, []), none, some (.iload 6, 81, []), none, some (.istore 7, 83, []), none, some (.iload 7, 85, []), none, some (.iload 5, 87, []), none, some (.if_icmp .ge 19, 90, [106]), none, none, some (.iload_n 3, 91, []), some (.aload_n 0, 92, []), some (.getfield 24, 95, []), none, none, some (.iload 4, 97, []), none, some (.iaload, 98, []), some (.imul, 99, []), some (.istore_n 3, 100, []), some (.iinc 7 1, 103, []), none, none, some (.goto (-20), 106, [83]), none, none, some (.iinc 4 1, 109, []), none, none, some (.goto (-69), 112, [40]), none, none, some (.iload_n 3, 113, []), some (.ireturn, 114, [])]
theorem kh_29 : mm_all prog_3_method_15_code kt_29 0 = true := by decide +kernel
def kp_29 : List (Nat × mm_K) := [(38, .inl (1, 7, some .int)), (86, .inr (.inr (.inl (26, 0, some 1)))), (30, .inr (.inl (.int 2147483647))), (68, .inr (.inr (.inl (19, 2, some 1)))), (80, .inl (1, 10, some .int)), (90, .inr (.inr (.inl (30, 2, some 1)))), (24, .inl (1, 4, none))]
def kq_29 : mm_M := (kt_29, kp_29, 8, (some .int))
def kt_30 : List (Option mm_I) := [some (.aload_n 0, 1, []), some (.aload_n 0, 2, []), some (.getfield 24, 5, []), none, none, some (.iload_n 1, 6, []), some (.iaload, 7, []), some (.aload_n 0, 8, []), some (.getfield 27, 11, []), none, none, some (.iload_n 1, 12, []), some (.iaload, 13, []), some (.invokevirtual 68, 16, []), none, none, some (.istore_n 3, 17, []), some (.iload_n 2, 18, []), some (.iload_n 3, 19, []), some (.isub, 20, []), some (.aload_n 0, 21, []), some (.getfield 27, 24, []), none, none, some (.iload_n 1, 25, []), some (.iaload, 26, []), some (.imul, 27, []), some (.istore 4, 29, []), none, some (.iconst 0, 30, []), some (.istore 5, 32, []), none, some (.iload 5, 34, []), none, some (.aload_n 0, 35, []), some (.getfield 27, 38, []), none, none, some (.iload_n 1, 39, []), some (.iaload, 40, []), some (.if_icmp .ge 24, 43, [64]), none, none, some (.iload 4, 45, []), none, some (.iload 5, 47, []), none, some (.aload_n 0, 48, []), some (.getfield 18, 51, []), none, none, some (.iload 5, 53, []), none, some (.iaload, 54, []), some (.imul, 55, []), some (.iadd, 56, []), some (.istore 4, 58, []), none, some (.iinc 5 1, 61, []), none, none, some (.goto (-29), 64, [32]), none, none, some (.iload 4, 66, []), none, some (.ireturn, 67, [])]
theorem kh_30 : mm_all prog_3_method_16_code kt_30 0 = true := by decide +kernel
def kp_30 : List (Nat × mm_K) := [(24, .inl (1, 4, none)), (27, .inl (1, 5, none)), (68, .inr (.inr (.inl (19, 2, some 1)))), (18, .inl (1, 2, none))]
def kq_30 : mm_M := (kt_30, kp_30, 6, (some .int))
def kt_31 : List (Option mm_I) := [some (.aload_n 0, 1, []), some (.getfield 9, 4, []), none, none, some (.lconst 0, 5, []), some (.invokestatic 15, 8, []), none, none, some (.return_, 9, [])]
theorem kh_31 : mm_all prog_4_method_2_code kt_31 0 = true := by decide +kernel
def kp_31 : List (Nat × mm_K) := [(9, .inl (2, 0, none)), (15, .inr (.inr (.inl (1, 2, none))))]
def kq_31 : mm_M := (kt_31, kp_31, 1, none)
def kt_32 : List (Option mm_I) := [some (.lload_n 1, 1, []), some (.lstore_n 3, 2, []), some (.iconst 0, 3, []), some (.istore 5, 5, []), none, some (.iload 5, 7, []), none, some (.bipush 24, 9, []), none, some (.if_icmp .ge 30, 12, [39]), none, none, some (.lload_n 3, 13, []), some (.iload 5, 15, []), none, some (.lshr, 16, []), some (.lconst 1, 17, []), some (.land, 18, []), some (.lconst 0, 19, []), some (.lcmp, 20, []), some (.ifCond .eq 13, 23, [33]), none, none, some (.lload_n 3, 24, []), some (.aload_n 0, 25, []), some (.getfield 9, 28, []), none, none, some (.iload 5, 30, []), none, some (.laload, 31, []), some (.lxor, 32, []), some (.lstore_n 3, 33, []), some (.iinc 5 1, 36, []), none, none, some (.goto (-31), 39, [5]), none, none, some (.lload_n 3, 40, []), some (.lreturn, 41, [])]
theorem kh_32 : mm_all prog_4_method_3_code kt_32 0 = true := by decide +kernel
def kp_32 : List (Nat × mm_K) := [(9, .inl (2, 0, none))]
def kq_32 : mm_M := (kt_32, kp_32, 6, (some .long))
def kt_33 : List (Option mm_I) := [some (.aload_n 0, 1, []), some (.lload_n 1, 2, []), some (.invokevirtual 21, 5, []), none, none, some (.lstore_n 3, 6, []), some (.iconst 0, 7, []), some (.istore 5, 9, []), none, some (.iload 5, 11, []), none, some (.bipush 24, 13, []), none, some (.if_icmp .ge 30, 16, [43]), none, none, some (.lload_n 3, 17, []), some (.iload 5, 19, []), none, some (.lshr, 20, []), some (.lconst 1, 21, []), some (.land, 22, []), some (.lconst 0, 23, []), some (.lcmp, 24, []), some (.ifCond .eq 13, 27, [37]), none, none, some (.aload_n 0, 28, []), some (.getfield 9, 31, []), none, none, some (.iload 5, 33, []), none, some (.lload_n 3, 34, []), some (.lastore, 35, []), some (.iconst 1, 36, []), some (.ireturn, 37, []), some (.iinc 5 1, 40, []), none, none, some (.goto (-31), 43, [9]), none, none, some (.iconst 0, 44, []), some (.ireturn, 45, [])]
theorem kh_33 : mm_all prog_4_method_4_code kt_33 0 = true := by decide +kernel
def kp_33 : List (Nat × mm_K) := [(21, .inr (.inr (.inl (32, 1, some 2)))), (9, .inl (2, 0, none))]
def kq_33 : mm_M := (kt_33, kp_33, 6, (some .boolean))
def kt_34 : List (Option mm_I) := [some (.aload_n 0, 1, []), some (.iload_n 1, 2, []), some (.invokevirtual 43, 5, []), none, none, some (.astore_n 3, 6, []), some (.aload_n 3, 7, []), some (.ifnull 23, 10, [30]), none, none, some (.iload_n 2, 11, []), some (.iconst 1, 12, []), some (.if_icmp .lt 18, 15, [30]), none, none, some (.iload_n 2, 16, []), some (.sipush 256, 19, []), none, none, some (.if_icmp .ge 11, 22, [30]), none, none, some (.iload_n 2, 23, []), some (.invokestatic 47, 26, []), none, none, some (.iconst 4, 27, []), some (.if_icmp .le 5, 30, [32]), none, none, some (.iconst (-1), 31, []), some (.ireturn, 32, []), some (.aload_n 3, 33, []), some (.iload_n 2, 34, []), some (.invokevirtual 53, 37, []), none, none, some (.ireturn, 38, [])]
theorem kh_34 : mm_all prog_1_method_2_code kt_34 0 = true := by decide +kernel
def kp_34 : List (Nat × mm_K) := [(43, .inr (.inr (.inl (52, 1, some 3)))), (47, .inr (.inr (.inl (0, 1, none)))), (53, .inr (.inr (.inl (10, 1, some 0))))]
def kq_34 : mm_M := (kt_34, kp_34, 4, (some .int))
def kt_35 : List (Option mm_I) := [some (.aload_n 0, 1, []), some (.iload_n 1, 2, []), some (.invokevirtual 43, 5, []), none, none, some (.astore_n 2, 6, []), some (.aload_n 2, 7, []), some (.ifnonnull 5, 10, [12]), none, none, some (.iconst 0, 11, []), some (.ireturn, 12, []), some (.aload_n 2, 13, []), some (.invokevirtual 56, 16, []), none, none, some (.iconst 1, 17, []), some (.ireturn, 18, [])]
theorem kh_35 : mm_all prog_1_method_3_code kt_35 0 = true := by decide +kernel
def kp_35 : List (Nat × mm_K) := [(43, .inr (.inr (.inl (52, 1, some 3)))), (56, .inr (.inr (.inl (3, 0, some 0))))]
def kq_35 : mm_M := (kt_35, kp_35, 3, (some .boolean))
def kt_36 : List (Option mm_I) := [some (.aload_n 0, 1, []), some (.iload_n 1, 2, []), some (.invokevirtual 43, 5, []), none, none, some (.astore_n 3, 6, []), some (.aload_n 3, 7, []), some (.ifnull 10, 10, [17]), none, none, some (.iload_n 2, 11, []), some (.invokestatic 59, 14, []), none, none, some (.ifCond .ne 5, 17, [19]), none, none, some (.iconst (-1), 18, []), some (.ireturn, 19, []), some (.aload_n 3, 20, []), some (.iload_n 2, 21, []), some (.invokevirtual 63, 24, []), none, none, some (.ireturn, 25, [])]
theorem kh_36 : mm_all prog_1_method_4_code kt_36 0 = true := by decide +kernel
def kp_36 : List (Nat × mm_K) := [(43, .inr (.inr (.inl (52, 1, some 3)))), (59, .inr (.inr (.inl (53, 1, none)))), (63, .inr (.inr (.inl (4, 1, some 0))))]
def kq_36 : mm_M := (kt_36, kp_36, 4, (some .int))
def kt_37 : List (Option mm_I) := [some (.aload_n 0, 1, []), some (.iload_n 1, 2, []), some (.invokevirtual 43, 5, []), none, none, some (.astore 4, 7, []), none, some (.aload 4, 9, []), none, some (.ifnull 17, 12, [26]), none, none, some (.iload_n 3, 13, []), some (.ifCond .lt 13, 16, [26]), none, none, some (.iload_n 3, 17, []), some (.aload 4, 19, []), none, some (.iload_n 2, 20, []), some (.invokevirtual 63, 23, []), none, none, some (.if_icmp .lt 5, 26, [28]), none, none, some (.iconst (-1), 27, []), some (.ireturn, 28, []), some (.aload 4, 30, []), none, some (.iload_n 2, 31, []), some (.iload_n 3, 32, []), some (.invokevirtual 66, 35, []), none, none, some (.ireturn, 36, [])]
theorem kh_37 : mm_all prog_1_method_5_code kt_37 0 = true := by decide +kernel
def kp_37 : List (Nat × mm_K) := [(43, .inr (.inr (.inl (52, 1, some 3)))), (63, .inr (.inr (.inl (4, 1, some 0)))), (66, .inr (.inr (.inl (5, 2, some 0))))]
def kq_37 : mm_M := (kt_37, kp_37, 5, (some .int))
def kt_38 : List (Option mm_I) := [some (.aload_n 0, 1, []), some (.iload_n 1, 2, []), some (.invokevirtual 43, 5, []), none, none, some (.astore 5, 7, []), none, some (.aload 5, 9, []), none, some (.ifnull 35, 12, [44]), none, none, some (.iload_n 3, 13, []), some (.ifCond .lt 31, 16, [44]), none, none, some (.iload_n 3, 17, []), some (.aload 5, 19, []), none, some (.iload_n 2, 20, []), some (.iconst 1, 21, []), some (.isub, 22, []), some (.invokevirtual 63, 25, []), none, none, some (.if_icmp .ge 19, 28, [44]), none, none, some (.iload 4, 30, []), none, some (.ifCond .lt 14, 33, [44]), none, none, some (.iload 4, 35, []), none, some (.aload 5, 37, []), none, some (.iload_n 2, 38, []), some (.invokevirtual 63, 41, []), none, none, some (.if_icmp .lt 5, 44, [46]), none, none, some (.iconst 0, 45, []), some (.ireturn, 46, []), some (.aload 5, 48, []), none, some (.iload_n 2, 49, []), some (.iconst 1, 50, []), some (.isub, 51, []), some (.iload_n 3, 52, []), some (.invokevirtual 66, 55, []), none, none, some (.aload 5, 57, []), none, some (.iload_n 2, 58, []), some (.iload 4, 60, []), none, some (.invokevirtual 66, 63, []), none, none, some (.invokestatic 70, 66, []), none, none, some (.ireturn, 67, [])]
theorem kh_38 : mm_all prog_1_method_6_code kt_38 0 = true := by decide +kernel
def kp_38 : List (Nat × mm_K) := [(43, .inr (.inr (.inl (52, 1, some 3)))), (63, .inr (.inr (.inl (4, 1, some 0)))), (66, .inr (.inr (.inl (5, 2, some 0)))), (70, .inr (.inr (.inl (55, 2, none))))]
def kq_38 : mm_M := (kt_38, kp_38, 6, (some .int))
def kt_39 : List (Option mm_I) := [some (.aload_n 0, 1, []), some (.iload_n 1, 2, []), some (.invokevirtual 43, 5, []), none, none, some (.astore_n 2, 6, []), some (.aload_n 2, 7, []), some (.ifnonnull 5, 10, [12]), none, none, some (.iconst 0, 11, []), some (.ireturn, 12, []), some (.aload_n 2, 13, []), some (.iconst 0, 14, []), some (.invokevirtual 63, 17, []), none, none, some (.aload_n 2, 18, []), some (.iconst 1, 19, []), some (.invokevirtual 63, 22, []), none, none, some (.isub, 23, []), some (.aload_n 2, 24, []), some (.iconst 2, 25, []), some (.invokevirtual 63, 28, []), none, none, some (.iadd, 29, []), some (.aload_n 2, 30, []), some (.iconst 3, 31, []), some (.invokevirtual 63, 34, []), none, none, some (.isub, 35, []), some (.ireturn, 36, [])]
theorem kh_39 : mm_all prog_1_method_7_code kt_39 0 = true := by decide +kernel
def kp_39 : List (Nat × mm_K) := [(43, .inr (.inr (.inl (52, 1, some 3)))), (63, .inr (.inr (.inl (4, 1, some 0))))]
def kq_39 : mm_M := (kt_39, kp_39, 3, (some .int))
def kt_40 : List (Option mm_I) := [some (.aload_n 0, 1, []), some (.iload_n 1, 2, []), some (.iload_n 2, 3, []), some (.ldc 73, 5, []), none, some (.invokevirtual 74, 8, []), none, none, some (.ireturn, 9, [])]
theorem kh_40 : mm_all prog_1_method_8_code kt_40 0 = true := by decide +kernel
def kp_40 : List (Nat × mm_K) := [(73, .inr (.inl (.int 2147483647))), (74, .inr (.inr (.inl (57, 3, some 3))))]
def kq_40 : mm_M := (kt_40, kp_40, 3, (some .int))
def kt_41 : List (Option mm_I) := [some (.aload_n 0, 1, []), some (.iload_n 1, 2, []), some (.invokevirtual 43, 5, []), none, none, some (.astore 4, 7, []), none, some (.aload 4, 9, []), none, some (.ifnull 14, 12, [23]), none, none, some (.iload_n 2, 13, []), some (.invokestatic 59, 16, []), none, none, some (.ifCond .eq 7, 19, [23]), none, none, some (.iload_n 3, 20, []), some (.ifCond .ge 5, 23, [25]), none, none, some (.iconst (-1), 24, []), some (.ireturn, 25, []), some (.aload_n 0, 26, []), some (.aload 4, 28, []), none, some (.iload_n 2, 29, []), some (.iconst 1, 30, []), some (.iadd, 31, []), some (.invokevirtual 78, 34, []), none, none, some (.aload_n 0, 35, []), some (.getfield 26, 38, []), none, none, some (.invokevirtual 82, 41, []), none, none, some (.istore 5, 43, []), none, some (.iconst 0, 44, []), some (.istore 6, 46, []), none, some (.iload 6, 48, []), none, some (.iload 5, 50, []), none, some (.if_icmp .ge 22, 53, [72]), none, none, some (.aload_n 0, 54, []), some (.getfield 26, 57, []), none, none, some (.iload 6, 59, []), none, some (.invokevirtual 86, 62, []), none, none, some (.iconst 1, 63, []), some (.if_icmp .ne 9, 66, [72]), none, none, some (.iinc 6 1, 69, []), none, none, some (.goto (-23), 72, [46]), none, none, some (.iload_n 3, 73, []), some (.iload 5, 75, []), none, some (.iload 6, 77, []), none, some (.isub, 78, []), some (.if_icmp .ge 17, 81, [95]), none, none, some (.aload_n 0, 82, []), some (.getfield 26, 85, []), none, none, some (.iload 6, 87, []), none, some (.iload_n 3, 88, []), some (.iadd, 89, []), some (.invokevirtual 86, 92, []), none, none, some (.goto 4, 95, [96]), none, none, some (.iconst 0, 96, []), some (.ireturn, 97, [])]
theorem kh_41 : mm_all prog_1_method_9_code kt_41 0 = true := by decide +kernel
def kp_41 : List (Nat × mm_K) := [(43, .inr (.inr (.inl (52, 1, some 3)))), (59, .inr (.inr (.inl (53, 1, none)))), (78, .inr (.inr (.inl (59, 2, some 3)))), (26, .inl (3, 3, none)), (82, .inr (.inr (.inl (28, 0, some 1)))), (86, .inr (.inr (.inl (18, 1, some 1))))]
def kq_41 : mm_M := (kt_41, kp_41, 7, (some .int))
end
section
def kt_42 : List (Option mm_I) := [some (.iload_n 3, 1, []), some (.iconst 2, 2, []), some (.if_icmp .eq 33, 5, [35]), none, none, some (.iload_n 3, 6, []), some (.iconst 3, 7, []), some (.if_icmp .eq 28, 10, [35]), none, none, some (.iload_n 3, 11, []), some (.iconst 5, 12, []), some (.if_icmp .eq 23, 15, [35]), none, none, some (.iload_n 3, 16, []), some (.bipush 7, 18, []), none, some (.if_icmp .eq 17, 21, [35]), none, none, some (.iload_n 3, 22, []), some (.bipush 11, 24, []), none, some (.if_icmp .eq 11, 27, [35]), none, none, some (.iload_n 3, 28, []), some (.bipush 13, 30, []), none, some (.if_icmp .eq 5, 33, [35]), none, none, some (.iconst (-1), 34, []), some (.ireturn, 35, []), some (.aload_n 0, 36, []), some (.iload_n 1, 37, []), some (.iload_n 2, 38, []), some (.iload_n 3, 39, []), some (.invokevirtual 74, 42, []), none, none, some (.ireturn, 43, [])]
theorem kh_42 : mm_all prog_1_method_10_code kt_42 0 = true := by decide +kernel
def kp_42 : List (Nat × mm_K) := [(74, .inr (.inr (.inl (57, 3, some 3))))]
def kq_42 : mm_M := (kt_42, kp_42, 4, (some .int))
def kt_43 : List (Option mm_I) := [some (.aload_n 0, 1, []), some (.iload_n 1, 2, []), some (.invokevirtual 43, 5, []), none, none, some (.astore 4, 7, []), none, some (.aload 4, 9, []), none, some (.ifnull 24, 12, [33]), none, none, some (.aload 4, 14, []), none, some (.iload_n 2, 15, []), some (.invokevirtual 89, 18, []), none, none, some (.ifCond .eq 15, 21, [33]), none, none, some (.iload_n 3, 22, []), some (.bipush (-9), 24, []), none, some (.if_icmp .lt 9, 27, [33]), none, none, some (.iload_n 3, 28, []), some (.bipush 9, 30, []), none, some (.if_icmp .le 5, 33, [35]), none, none, some (.iconst 0, 34, []), some (.ireturn, 35, []), some (.aload 4, 37, []), none, some (.iload_n 2, 38, []), some (.iload_n 3, 39, []), some (.invokevirtual 92, 42, []), none, none, some (.iconst 1, 43, []), some (.ireturn, 44, [])]
theorem kh_43 : mm_all prog_1_method_11_code kt_43 0 = true := by decide +kernel
def kp_43 : List (Nat × mm_K) := [(43, .inr (.inr (.inl (52, 1, some 3)))), (89, .inr (.inr (.inl (6, 1, some 0)))), (92, .inr (.inr (.inl (9, 2, some 0))))]
def kq_43 : mm_M := (kt_43, kp_43, 5, (some .boolean))
def kt_44 : List (Option mm_I) := [some (.aload_n 0, 1, []), some (.iload_n 1, 2, []), some (.invokevirtual 43, 5, []), none, none, some (.astore_n 3, 6, []), some (.aload_n 3, 7, []), some (.ifnull 11, 10, [18]), none, none, some (.aload_n 3, 11, []), some (.iload_n 2, 12, []), some (.invokevirtual 89, 15, []), none, none, some (.ifCond .ne 5, 18, [20]), none, none, some (.iconst 0, 19, []), some (.ireturn, 20, []), some (.aload_n 3, 21, []), some (.iload_n 2, 22, []), some (.invokevirtual 96, 25, []), none, none, some (.ireturn, 26, [])]
theorem kh_44 : mm_all prog_1_method_12_code kt_44 0 = true := by decide +kernel
def kp_44 : List (Nat × mm_K) := [(43, .inr (.inr (.inl (52, 1, some 3)))), (89, .inr (.inr (.inl (6, 1, some 0)))), (96, .inr (.inr (.inl (8, 1, some 0))))]
def kq_44 : mm_M := (kt_44, kp_44, 4, (some .int))
def kt_45 : List (Option mm_I) := [some (.aload_n 0, 1, []), some (.iload_n 1, 2, []), some (.invokevirtual 43, 5, []), none, none, some (.astore_n 3, 6, []), some (.aload_n 3, 7, []), some (.ifnull 11, 10, [18]), none, none, some (.aload_n 3, 11, []), some (.iload_n 2, 12, []), some (.invokevirtual 89, 15, []), none, none, some (.ifCond .ne 5, 18, [20]), none, none, some (.iconst 0, 19, []), some (.ireturn, 20, []), some (.aload_n 3, 21, []), some (.iload_n 2, 22, []), some (.invokevirtual 99, 25, []), none, none, some (.ireturn, 26, [])]
theorem kh_45 : mm_all prog_1_method_13_code kt_45 0 = true := by decide +kernel
def kp_45 : List (Nat × mm_K) := [(43, .inr (.inr (.inl (52, 1, some 3)))), (89, .inr (.inr (.inl (6, 1, some 0)))), (99, .inr (.inr (.inl (12, 1, some 0))))]
def kq_45 : mm_M := (kt_45, kp_45, 4, (some .int))
def kt_46 : List (Option mm_I) := [some (.aload_n 0, 1, []), some (.iload_n 1, 2, []), some (.invokevirtual 43, 5, []), none, none, some (.astore_n 3, 6, []), some (.aload_n 3, 7, []), some (.ifnull 10, 10, [17]), none, none, some (.iload_n 2, 11, []), some (.invokestatic 59, 14, []), none, none, some (.ifCond .ne 5, 17, [19]), none, none, some (.iconst (-1), 18, []), some (.ireturn, 19, []), some (.aload_n 3, 20, []), some (.iload_n 2, 21, []), some (.invokevirtual 102, 24, []), none, none, some (.ifCond .ne 6, 27, [30]), none, none, some (.bipush (-3), 29, []), none, some (.ireturn, 30, []), some (.aload_n 3, 31, []), some (.iload_n 2, 32, []), some (.iconst 1, 33, []), some (.iadd, 34, []), some (.invokevirtual 63, 37, []), none, none, some (.istore 4, 39, []), none, some (.aload_n 0, 40, []), some (.getfield 26, 43, []), none, none, some (.aload_n 3, 44, []), some (.iload_n 2, 45, []), some (.invokevirtual 63, 48, []), none, none, some (.iload 4, 50, []), none, some (.iconst 1, 51, []), some (.iadd, 52, []), some (.invokevirtual 105, 55, []), none, none, some (.aload_n 0, 56, []), some (.aload_n 3, 57, []), some (.iload_n 2, 58, []), some (.iconst 1, 59, []), some (.iadd, 60, []), some (.iconst 0, 61, []), some (.iconst 0, 62, []), some (.invokevirtual 108, 65, []), none, none, some (.iconst 0, 66, []), some (.istore 5, 68, []), none, some (.iload 5, 70, []), none, some (.aload_n 3, 71, []), some (.iload_n 2, 72, []), some (.invokevirtual 63, 75, []), none, none, some (.if_icmp .ge 31, 78, [106]), none, none, some (.aload_n 0, 79, []), some (.getfield 26, 82, []), none, none, some (.iload 5, 84, []), none, some (.iload 4, 86, []), none, some (.aload_n 3, 87, []), some (.aload_n 3, 88, []), some (.iload_n 2, 89, []), some (.iload 5, 91, []), none, some (.invokevirtual 66, 94, []), none, none, some (.invokevirtual 96, 97, []), none, none, some (.invokevirtual 112, 100, []), none, none, some (.iinc 5 1, 103, []), none, none, some (.goto (-35), 106, [68]), none, none, some (.aload_n 0, 107, []), some (.getfield 26, 110, []), none, none, some (.invokevirtual 116, 113, []), none, none, some (.ireturn, 114, [])]
theorem kh_46 : mm_all prog_1_method_14_code kt_46 0 = true := by decide +kernel
def kp_46 : List (Nat × mm_K) := [(43, .inr (.inr (.inl (52, 1, some 3)))), (59, .inr (.inr (.inl (53, 1, none)))), (102, .inr (.inr (.inl (13, 1, some 0)))), (63, .inr (.inr (.inl (4, 1, some 0)))), (26, .inl (3, 3, none)), (105, .inr (.inr (.inl (16, 2, some 1)))), (108, .inr (.inr (.inl (60, 4, some 3)))), (66, .inr (.inr (.inl (5, 2, some 0)))), (96, .inr (.inr (.inl (8, 1, some 0)))), (112, .inr (.inr (.inl (17, 3, some 1)))), (116, .inr (.inr (.inl (29, 0, some 1))))]
def kq_46 : mm_M := (kt_46, kp_46, 6, (some .int))
def kt_47 : List (Option mm_I) := [some (.iload_n 1, 1, []), some (.ifCond .lt 19, 4, [20]), none, none, some (.iload_n 1, 5, []), some (.bipush 8, 7, []), none, some (.if_icmp .ge 13, 10, [20]), none, none, some (.iload_n 2, 11, []), some (.ifCond .lt 9, 14, [20]), none, none, some (.iload_n 2, 15, []), some (.bipush 8, 17, []), none, some (.if_icmp .lt 5, 20, [22]), none, none, some (.iconst 0, 21, []), some (.ireturn, 22, []), some (.aload_n 0, 23, []), some (.getfield 19, 26, []), none, none, some (.iload_n 1, 27, []), some (.iload_n 2, 28, []), some (.iastore, 29, []), some (.iconst 1, 30, []), some (.ireturn, 31, [])]
theorem kh_47 : mm_all prog_1_method_15_code kt_47 0 = true := by decide +kernel
def kp_47 : List (Nat × mm_K) := [(19, .inl (3, 2, none))]
def kq_47 : mm_M := (kt_47, kp_47, 3, (some .boolean))
def kt_48 : List (Option mm_I) := [some (.iconst 0, 1, []), some (.istore_n 1, 2, []), some (.iload_n 1, 3, []), some (.iconst 4, 4, []), some (.if_icmp .ge 54, 7, [58]), none, none, some (.iconst 0, 8, []), some (.istore_n 2, 9, []), some (.iload_n 2, 10, []), some (.aload_n 0, 11, []), some (.getfield 10, 14, []), none, none, some (.iload_n 1, 15, []), some (.invokevirtual 63, 18, []), none, none, some (.if_icmp .ge 34, 21, [52]), none, none, some (.aload_n 0, 22, []), some (.getfield 16, 25, []), none, none, some (.aload_n 0, 26, []), some (.aload_n 0, 27, []), some (.getfield 10, 30, []), none, none, some (.iload_n 1, 31, []), some (.iload_n 2, 32, []), some (.invokevirtual 66, 35, []), none, none, some (.invokevirtual 119, 38, []), none, none, some (.invokevirtual 89, 41, []), none, none, some (.ifCond .ne 5, 44, [46]), none, none, some (.iconst 0, 45, []), some (.ireturn, 46, []), some (.iinc 2 1, 49, []), none, none, some (.goto (-40), 52, [9]), none, none, some (.iinc 1 1, 55, []), none, none, some (.goto (-53), 58, [2]), none, none, some (.iconst 1, 59, []), some (.ireturn, 60, [])]
theorem kh_48 : mm_all prog_1_method_16_code kt_48 0 = true := by decide +kernel
def kp_48 : List (Nat × mm_K) := [(10, .inl (3, 0, none)), (63, .inr (.inr (.inl (4, 1, some 0)))), (16, .inl (3, 1, none)), (66, .inr (.inr (.inl (5, 2, some 0)))), (119, .inr (.inr (.inl (62, 1, some 3)))), (89, .inr (.inr (.inl (6, 1, some 0))))]
def kq_48 : mm_M := (kt_48, kp_48, 3, (some .boolean))
def kt_49 : List (Option mm_I) := [some (.aload_n 0, 1, []), some (.getfield 16, 4, []), none, none, some (.iload_n 1, 5, []), some (.invokevirtual 89, 8, []), none, none, some (.ifCond .eq 10, 11, [18]), none, none, some (.aload_n 0, 12, []), some (.invokevirtual 122, 15, []), none, none, some (.ifCond .ne 5, 18, [20]), none, none, some (.iconst 0, 19, []), some (.ireturn, 20, []), some (.iload_n 1, 21, []), some (.invokestatic 126, 24, []), none, none, some (.istore_n 2, 25, []), some (.iconst 0, 26, []), some (.istore_n 3, 27, []), some (.iconst 0, 28, []), some (.istore 4, 30, []), none, some (.iload 4, 32, []), none, some (.aload_n 0, 33, []), some (.getfield 10, 36, []), none, none, some (.iload_n 2, 37, []), some (.invokevirtual 63, 40, []), none, none, some (.if_icmp .ge 50, 43, [90]), none, none, some (.aload_n 0, 44, []), some (.getfield 10, 47, []), none, none, some (.iload_n 2, 48, []), some (.iload 4, 50, []), none, some (.invokevirtual 66, 53, []), none, none, some (.istore 5, 55, []), none, some (.aload_n 0, 56, []), some (.iload 5, 58, []), none, some (.invokevirtual 119, 61, []), none, none, some (.iload_n 1, 62, []), some (.if_icmp .ne 22, 65, [84]), none, none, some (.iload_n 3, 66, []), some (.aload_n 0, 67, []), some (.iload 5, 69, []), none, some (.invokevirtual 129, 72, []), none, none, some (.aload_n 0, 73, []), some (.getfield 10, 76, []), none, none, some (.iload 5, 78, []), none, some (.invokevirtual 96, 81, []), none, none, some (.imul, 82, []), some (.iadd, 83, []), some (.istore_n 3, 84, []), some (.iinc 4 1, 87, []), none, none, some (.goto (-57), 90, [30]), none, none, some (.iload_n 3, 91, []), some (.ireturn, 92, [])]
theorem kh_49 : mm_all prog_1_method_17_code kt_49 0 = true := by decide +kernel
def kp_49 : List (Nat × mm_K) := [(16, .inl (3, 1, none)), (89, .inr (.inr (.inl (6, 1, some 0)))), (122, .inr (.inr (.inl (48, 0, some 3)))), (126, .inr (.inr (.inl (54, 1, none)))), (10, .inl (3, 0, none)), (63, .inr (.inr (.inl (4, 1, some 0)))), (66, .inr (.inr (.inl (5, 2, some 0)))), (119, .inr (.inr (.inl (62, 1, some 3)))), (129, .inr (.inr (.inl (63, 1, some 3)))), (96, .inr (.inr (.inl (8, 1, some 0))))]
def kq_49 : mm_M := (kt_49, kp_49, 6, (some .int))
def kt_50 : List (Option mm_I) := [some (.iload_n 1, 1, []), some (.invokestatic 59, 4, []), none, none, some (.ifCond .ne 5, 7, [9]), none, none, some (.iconst (-1), 8, []), some (.ireturn, 9, []), some (.aload_n 0, 10, []), some (.invokevirtual 122, 13, []), none, none, some (.ifCond .ne 6, 16, [19]), none, none, some (.bipush (-4), 18, []), none, some (.ireturn, 19, []), some (.aload_n 0, 20, []), some (.iload_n 1, 21, []), some (.invokevirtual 132, 24, []), none, none, some (.aload_n 0, 25, []), some (.getfield 26, 28, []), none, none, some (.ldc 73, 30, []), none, some (.iconst 1, 31, []), some (.invokevirtual 136, 34, []), none, none, some (.aload_n 0, 35, []), some (.getfield 26, 38, []), none, none, some (.ldc 139, 40, []), none, some (.iconst 1, 41, []), some (.invokevirtual 136, 44, []), none, none, some (.invokestatic 140, 47, []), none, none, some (.istore_n 2, 48, []), some (.iload_n 2, 49, []), some (.aload_n 0, 50, []), some (.aload_n 0, 51, []), some (.getfield 10, 54, []), none, none, some (.iload_n 1, 55, []), some (.ldc 73, 57, []), none, some (.invokevirtual 145, 60, []), none, none, some (.isub, 61, []), some (.aload_n 0, 62, []), some (.aload_n 0, 63, []), some (.getfield 16, 66, []), none, none, some (.iload_n 1, 67, []), some (.iconst 1, 68, []), some (.iadd, 69, []), some (.ldc 73, 71, []), none, some (.invokevirtual 145, 74, []), none, none, some (.isub, 75, []), some (.ireturn, 76, [])]
theorem kh_50 : mm_all prog_1_method_18_code kt_50 0 = true := by decide +kernel
def kp_50 : List (Nat × mm_K) := [(59, .inr (.inr (.inl (53, 1, none)))), (122, .inr (.inr (.inl (48, 0, some 3)))), (132, .inr (.inr (.inl (61, 1, some 3)))), (26, .inl (3, 3, none)), (73, .inr (.inl (.int 2147483647))), (136, .inr (.inr (.inl (19, 2, some 1)))), (139, .inr (.inl (.int 2147483629))), (140, .inr (.inr (.inr 0))), (10, .inl (3, 0, none)), (145, .inr (.inr (.inl (58, 3, some 3)))), (16, .inl (3, 1, none))]
def kq_50 : mm_M := (kt_50, kp_50, 3, (some .int))
def kt_51 : List (Option mm_I) := [some (.aload_n 0, 1, []), some (.iload_n 1, 2, []), some (.invokevirtual 43, 5, []), none, none, some (.astore_n 2, 6, []), some (.aload_n 2, 7, []), some (.ifnonnull 5, 10, [12]), none, none, some (.iconst (-1), 11, []), some (.ireturn, 12, []), some (.aload_n 0, 13, []), some (.aload_n 2, 14, []), some (.invokevirtual 149, 17, []), none, none, some (.istore_n 3, 18, []), some (.iconst 0, 19, []), some (.istore 4, 21, []), none, some (.iconst 0, 22, []), some (.istore 5, 24, []), none, some (.iload 5, 26, []), none, some (.iload_n 3, 27, []), some (.if_icmp .ge 53, 30, [80]), none, none, some (.iconst 0, 31, []), some (.istore 6, 33, []), none, some (.iload 6, 35, []), none, some (.iload_n 3, 36, []), some (.if_icmp .ge 38, 39, [74]), none, none, some (.aload_n 0, 40, []), some (.getfield 33, 43, []), none, none, some (.aload_n 0, 44, []), some (.getfield 37, 47, []), none, none, some (.iload 5, 49, []), none, some (.iaload, 50, []), some (.aload_n 0, 51, []), some (.getfield 40, 54, []), none, none, some (.iload 6, 56, []), none, some (.iaload, 57, []), some (.iand, 58, []), some (.i2l, 59, []), some (.invokevirtual 153, 62, []), none, none, some (.ifCond .eq 6, 65, [68]), none, none, some (.iinc 4 1, 68, []), none, none, some (.iinc 6 1, 71, []), none, none, some (.goto (-38), 74, [33]), none, none, some (.iinc 5 1, 77, []), none, none, some (.goto (-53), 80, [24]), none, none, some (.iload 4, 82, []), none, some (.ireturn, 83, [])]
theorem kh_51 : mm_all prog_1_method_19_code kt_51 0 = true := by decide +kernel
def kp_51 : List (Nat × mm_K) := [(43, .inr (.inr (.inl (52, 1, some 3)))), (149, .inr (.inr (.inl (64, 1, some 3)))), (33, .inl (3, 4, none)), (37, .inl (3, 5, none)), (40, .inl (3, 6, none)), (153, .inr (.inr (.inl (33, 1, some 2))))]
def kq_51 : mm_M := (kt_51, kp_51, 7, (some .int))
def kt_52 : List (Option mm_I) := [some (.iload_n 1, 1, []), some (.ifCond .ne 8, 4, [9]), none, none, some (.aload_n 0, 5, []), some (.getfield 10, 8, []), none, none, some (.areturn, 9, []), some (.iload_n 1, 10, []), some (.iconst 1, 11, []), some (.if_icmp .ne 10, 14, [21]), none, none, some (.aload_n 0, 15, []), some (.getfield 16, 18, []), none, none, some (.goto 4, 21, [22]), none, none, some (.aconst_null, 22, []), some (.areturn, 23, [])]
theorem kh_52 : mm_all prog_1_method_20_code kt_52 0 = true := by decide +kernel
def kp_52 : List (Nat × mm_K) := [(10, .inl (3, 0, none)), (16, .inl (3, 1, none))]
def kq_52 : mm_M := (kt_52, kp_52, 2, (some (.object "HoleCounter$Complex")))
def kt_53 : List (Option mm_I) := [some (.iload_n 0, 1, []), some (.ifCond .lt 12, 4, [13]), none, none, some (.iload_n 0, 5, []), some (.iconst 4, 6, []), some (.if_icmp .ge 7, 9, [13]), none, none, some (.iconst 1, 10, []), some (.goto 4, 13, [14]), none, none, some (.iconst 0, 14, []), some (.ireturn, 15, [])]
theorem kh_53 : mm_all prog_1_method_21_code kt_53 0 = true := by decide +kernel
def kp_53 : List (Nat × mm_K) := []
def kq_53 : mm_M := (kt_53, kp_53, 1, (some .boolean))
def kt_54 : List (Option mm_I) := [some (.iload_n 0, 1, []), some (.invokestatic 47, 4, []), none, none, some (.iconst 1, 5, []), some (.isub, 6, []), some (.ireturn, 7, [])]
theorem kh_54 : mm_all prog_1_method_22_code kt_54 0 = true := by decide +kernel
def kp_54 : List (Nat × mm_K) := [(47, .inr (.inr (.inl (0, 1, none))))]
def kq_54 : mm_M := (kt_54, kp_54, 1, (some .int))
def kt_55 : List (Option mm_I) := [some (.iload_n 1, 1, []), some (.iload_n 0, 2, []), some (.iconst (-1), 3, []), some (.ixor, 4, []), some (.iand, 5, []), some (.istore_n 2, 6, []), some (.iload_n 0, 7, []), some (.iload_n 1, 8, []), some (.iconst (-1), 9, []), some (.ixor, 10, []), some (.iand, 11, []), some (.ifCond .ne 11, 14, [22]), none, none, some (.iload_n 2, 15, []), some (.invokestatic 47, 18, []), none, none, some (.iconst 1, 19, []), some (.if_icmp .eq 5, 22, [24]), none, none, some (.iconst 0, 23, []), some (.ireturn, 24, []), some (.iload_n 1, 25, []), some (.iload_n 2, 26, []), some (.iconst 1, 27, []), some (.isub, 28, []), some (.iand, 29, []), some (.invokestatic 47, 32, []), none, none, some (.invokestatic 157, 35, []), none, none, some (.ireturn, 36, [])]
theorem kh_55 : mm_all prog_1_method_23_code kt_55 0 = true := by decide +kernel
def kp_55 : List (Nat × mm_K) := [(47, .inr (.inr (.inl (0, 1, none)))), (157, .inr (.inr (.inl (56, 1, none))))]
def kq_55 : mm_M := (kt_55, kp_55, 3, (some .int))
def kt_56 : List (Option mm_I) := [some (.iload_n 0, 1, []), some (.iconst 1, 2, []), some (.iand, 3, []), some (.ifCond .ne 7, 6, [10]), none, none, some (.iconst 1, 7, []), some (.goto 4, 10, [11]), none, none, some (.iconst (-1), 11, []), some (.ireturn, 12, [])]
theorem kh_56 : mm_all prog_1_method_24_code kt_56 0 = true := by decide +kernel
def kp_56 : List (Nat × mm_K) := []
def kq_56 : mm_M := (kt_56, kp_56, 1, (some .int))
def kt_57 : List (Option mm_I) := [some (.aload_n 0, 1, []), some (.iload_n 1, 2, []), some (.invokevirtual 43, 5, []), none, none, some (.astore 4, 7, []), none, some (.aload 4, 9, []), none, some (.ifnull 10, 12, [19]), none, none, some (.iload_n 2, 13, []), some (.invokestatic 59, 16, []), none, none, some (.ifCond .ne 5, 19, [21]), none, none, some (.iconst (-1), 20, []), some (.ireturn, 21, []), some (.aload 4, 23, []), none, some (.iload_n 2, 24, []), some (.invokevirtual 63, 27, []), none, none, some (.aload_n 0, 28, []), some (.aload 4, 30, []), none, some (.iload_n 2, 31, []), some (.iload_n 3, 32, []), some (.invokevirtual 145, 35, []), none, none, some (.isub, 36, []), some (.aload_n 0, 37, []), some (.aload 4, 39, []), none, some (.iload_n 2, 40, []), some (.iconst 1, 41, []), some (.iadd, 42, []), some (.iload_n 3, 43, []), some (.invokevirtual 145, 46, []), none, none, some (.isub, 47, []), some (.ireturn, 48, [])]
theorem kh_57 : mm_all prog_1_method_25_code kt_57 0 = true := by decide +kernel
def kp_57 : List (Nat × mm_K) := [(43, .inr (.inr (.inl (52, 1, some 3)))), (59, .inr (.inr (.inl (53, 1, none)))), (63, .inr (.inr (.inl (4, 1, some 0)))), (145, .inr (.inr (.inl (58, 3, some 3))))]
def kq_57 : mm_M := (kt_57, kp_57, 5, (some .int))
def kt_58 : List (Option mm_I) := [some (.aload_n 0, 1, []), some (.aload_n 1, 2, []), some (.iload_n 2, 3, []), some (.invokevirtual 78, 6, []), none, none, some (.aload_n 0, 7, []), some (.getfield 26, 10, []), none, none, some (.iload_n 3, 11, []), some (.iconst 1, 12, []), some (.invokevirtual 136, 15, []), none, none, some (.ireturn, 16, [])]
theorem kh_58 : mm_all prog_1_method_26_code kt_58 0 = true := by decide +kernel
def kp_58 : List (Nat × mm_K) := [(78, .inr (.inr (.inl (59, 2, some 3)))), (26, .inl (3, 3, none)), (136, .inr (.inr (.inl (19, 2, some 1))))]
def kq_58 : mm_M := (kt_58, kp_58, 4, (some .int))
def kt_59 : List (Option mm_I) := [some (.aload_n 0, 1, []), some (.getfield 26, 4, []), none, none, some (.aload_n 1, 5, []), some (.iload_n 2, 6, []), some (.iconst 1, 7, []), some (.isub, 8, []), some (.invokevirtual 63, 11, []), none, none, some (.aload_n 1, 12, []), some (.iload_n 2, 13, []), some (.invokevirtual 63, 16, []), none, none, some (.invokevirtual 105, 19, []), none, none, some (.aload_n 0, 20, []), some (.aload_n 1, 21, []), some (.iload_n 2, 22, []), some (.iconst 0, 23, []), some (.iconst 0, 24, []), some (.invokevirtual 108, 27, []), none, none, some (.return_, 28, [])]
theorem kh_59 : mm_all prog_1_method_27_code kt_59 0 = true := by decide +kernel
def kp_59 : List (Nat × mm_K) := [(26, .inl (3, 3, none)), (63, .inr (.inr (.inl (4, 1, some 0)))), (105, .inr (.inr (.inl (16, 2, some 1)))), (108, .inr (.inr (.inl (60, 4, some 3))))]
def kq_59 : mm_M := (kt_59, kp_59, 3, none)
def kt_60 : List (Option mm_I) := [some (.iload_n 2, 1, []), some (.ifCond .ne 4, 4, [5]), none, none, some (.return_, 5, []), some (.iconst 0, 6, []), some (.istore 5, 8, []), none, some (.iload 5, 10, []), none, some (.aload_n 1, 11, []), some (.iload_n 2, 12, []), some (.invokevirtual 63, 15, []), none, none, some (.if_icmp .ge 79, 18, [94]), none, none, some (.aload_n 1, 19, []), some (.iload_n 2, 20, []), some (.iload 5, 22, []), none, some (.invokevirtual 66, 25, []), none, none, some (.istore 6, 27, []), none, some (.iconst 0, 28, []), some (.istore 7, 30, []), none, some (.iload 7, 32, []), none, some (.bipush 8, 34, []), none, some (.if_icmp .ge 54, 37, [88]), none, none, some (.iload 6, 39, []), none, some (.iconst 1, 40, []), some (.iload 7, 42, []), none, some (.ishl, 43, []), some (.iconst (-1), 44, []), some (.ixor, 45, []), some (.iand, 46, []), some (.istore 8, 48, []), none, some (.iload 8, 50, []), none, some (.iload 6, 52, []), none, some (.if_icmp .eq 30, 55, [82]), none, none, some (.aload_n 0, 56, []), some (.getfield 26, 59, []), none, none, some (.iload_n 3, 60, []), some (.aload_n 1, 61, []), some (.iload 8, 63, []), none, some (.invokevirtual 160, 66, []), none, none, some (.iadd, 67, []), some (.iload 4, 69, []), none, some (.iload 5, 71, []), none, some (.iadd, 72, []), some (.iload 8, 74, []), none, some (.iload 6, 76, []), none, some (.invokestatic 70, 79, []), none, none, some (.invokevirtual 112, 82, []), none, none, some (.iinc 7 1, 85, []), none, none, some (.goto (-55), 88, [30]), none, none, some (.iinc 5 1, 91, []), none, none, some (.goto (-83), 94, [8]), none, none, some (.return_, 95, [])]
theorem kh_60 : mm_all prog_1_method_28_code kt_60 0 = true := by decide +kernel
def kp_60 : List (Nat × mm_K) := [(63, .inr (.inr (.inl (4, 1, some 0)))), (66, .inr (.inr (.inl (5, 2, some 0)))), (26, .inl (3, 3, none)), (160, .inr (.inr (.inl (7, 1, some 0)))), (70, .inr (.inr (.inl (55, 2, none)))), (112, .inr (.inr (.inl (17, 3, some 1))))]
def kq_60 : mm_M := (kt_60, kp_60, 9, none)
def kt_61 : List (Option mm_I) := [some (.aload_n 0, 1, []), some (.getfield 10, 4, []), none, none, some (.iload_n 1, 5, []), some (.iconst 1, 6, []), some (.isub, 7, []), some (.invokevirtual 63, 10, []), none, none, some (.istore_n 2, 11, []), some (.aload_n 0, 12, []), some (.getfield 10, 15, []), none, none, some (.iload_n 1, 16, []), some (.invokevirtual 63, 19, []), none, none, some (.istore_n 3, 20, []), some (.aload_n 0, 21, []), some (.getfield 26, 24, []), none, none, some (.iload_n 2, 25, []), some (.aload_n 0, 26, []), some (.getfield 16, 29, []), none, none, some (.iload_n 1, 30, []), some (.invokevirtual 63, 33, []), none, none, some (.iadd, 34, []), some (.iload_n 3, 35, []), some (.aload_n 0, 36, []), some (.getfield 16, 39, []), none, none, some (.iload_n 1, 40, []), some (.iconst 1, 41, []), some (.iadd, 42, []), some (.invokevirtual 63, 45, []), none, none, some (.iadd, 46, []), some (.invokevirtual 105, 49, []), none, none, some (.aload_n 0, 50, []), some (.aload_n 0, 51, []), some (.getfield 10, 54, []), none, none, some (.iload_n 1, 55, []), some (.iconst 0, 56, []), some (.iconst 0, 57, []), some (.invokevirtual 108, 60, []), none, none, some (.aload_n 0, 61, []), some (.aload_n 0, 62, []), some (.getfield 16, 65, []), none, none, some (.iload_n 1, 66, []), some (.iconst 1, 67, []), some (.iadd, 68, []), some (.iload_n 2, 69, []), some (.iload_n 3, 70, []), some (.invokevirtual 108, 73, []), none, none, some (.iconst 0, 74, []), some (.istore 4, 76, []), none, some (.iload 4, 78, []), none, some (.iload_n 3, 79, []), some (.if_icmp .ge 60, 82, [139]), none, none, some (.aload_n 0, 83, []), some (.getfield 10, 86, []), none, none, some (.iload_n 1, 87, []), some (.iload 4, 89, []), none, some (.invokevirtual 66, 92, []), none, none, some (.istore 5, 94, []), none, some (.aload_n 0, 95, []), some (.iload 5, 97, []), none, some (.invokevirtual 129, 100, []), none, none, some (.istore 6, 102, []), none, some (.iload 6, 104, []), none, some (.ifCond .eq 29, 107, [133]), none, none, some (.aload_n 0, 108, []), some (.getfield 26, 111, []), none, none, some (.iload_n 2, 112, []), some (.aload_n 0, 113, []), some (.getfield 16, 116, []), none, none, some (.aload_n 0, 117, []), some (.iload 5, 119, []), none, some (.invokevirtual 119, 122, []), none, none, some (.invokevirtual 160, 125, []), none, none, some (.iadd, 126, []), some (.iload 4, 128, []), none, some (.iload 6, 130, []), none, some (.invokevirtual 112, 133, []), none, none, some (.iinc 4 1, 136, []), none, none, some (.goto (-60), 139, [76]), none, none, some (.return_, 140, [])]
theorem kh_61 : mm_all prog_1_method_29_code kt_61 0 = true := by decide +kernel
def kp_61 : List (Nat × mm_K) := [(10, .inl (3, 0, none)), (63, .inr (.inr (.inl (4, 1, some 0)))), (26, .inl (3, 3, none)), (16, .inl (3, 1, none)), (105, .inr (.inr (.inl (16, 2, some 1)))), (108, .inr (.inr (.inl (60, 4, some 3)))), (66, .inr (.inr (.inl (5, 2, some 0)))), (129, .inr (.inr (.inl (63, 1, some 3)))), (119, .inr (.inr (.inl (62, 1, some 3)))), (160, .inr (.inr (.inl (7, 1, some 0)))), (112, .inr (.inr (.inl (17, 3, some 1))))]
def kq_61 : mm_M := (kt_61, kp_61, 7, none)
def kt_62 : List (Option mm_I) := [some (.iconst 0, 1, []), some (.istore_n 2, 2, []), some (.iconst 0, 3, []), some (.istore_n 3, 4, []), some (.iload_n 3, 5, []), some (.bipush 8, 7, []), none, some (.if_icmp .ge 28, 10, [35]), none, none, some (.iload_n 1, 11, []), some (.iload_n 3, 12, []), some (.ishr, 13, []), some (.iconst 1, 14, []), some (.iand, 15, []), some (.ifCond .eq 14, 18, [29]), none, none, some (.iload_n 2, 19, []), some (.iconst 1, 20, []), some (.aload_n 0, 21, []), some (.getfield 19, 24, []), none, none, some (.iload_n 3, 25, []), some (.iaload, 26, []), some (.ishl, 27, []), some (.ior, 28, []), some (.istore_n 2, 29, []), some (.iinc 3 1, 32, []), none, none, some (.goto (-28), 35, [4]), none, none, some (.iload_n 2, 36, []), some (.ireturn, 37, [])]
theorem kh_62 : mm_all prog_1_method_30_code kt_62 0 = true := by decide +kernel
def kp_62 : List (Nat × mm_K) := [(19, .inl (3, 2, none))]
def kq_62 : mm_M := (kt_62, kp_62, 4, (some .int))
def kt_63 : List (Option mm_I) := [some (.iconst 0, 1, []), some (.istore_n 2, 2, []), some (.iconst 0, 3, []), some (.istore_n 3, 4, []), some (.iconst 0, 5, []), some (.istore 4, 7, []), none, some (.iload 4, 9, []), none, some (.bipush 8, 11, []), none, some (.if_icmp .ge 58, 14, [69]), none, none, some (.iload_n 1, 15, []), some (.iload 4, 17, []), none, some (.ishr, 18, []), some (.iconst 1, 19, []), some (.iand, 20, []), some (.ifCond .eq 43, 23, [63]), none, none, some (.iload_n 2, 24, []), some (.aload_n 0, 25, []), some (.getfield 19, 28, []), none, none, some (.iload 4, 30, []), none, some (.iaload, 31, []), some (.ishr, 32, []), some (.istore 5, 34, []), none, some (.iload 5, 36, []), none, some (.iconst 1, 37, []), some (.iand, 38, []), some (.ifCond .eq 5, 41, [43]), none, none, some (.iconst 0, 42, []), some (.ireturn, 43, []), some (.iload_n 3, 44, []), some (.iload 5, 46, []), none, some (.invokestatic 47, 49, []), none, none, some (.iadd, 50, []), some (.istore_n 3, 51, []), some (.iload_n 2, 52, []), some (.iconst 1, 53, []), some (.aload_n 0, 54, []), some (.getfield 19, 57, []), none, none, some (.iload 4, 59, []), none, some (.iaload, 60, []), some (.ishl, 61, []), some (.ior, 62, []), some (.istore_n 2, 63, []), some (.iinc 4 1, 66, []), none, none, some (.goto (-59), 69, [7]), none, none, some (.iload_n 3, 70, []), some (.invokestatic 157, 73, []), none, none, some (.ireturn, 74, [])]
theorem kh_63 : mm_all prog_1_method_31_code kt_63 0 = true := by decide +kernel
def kp_63 : List (Nat × mm_K) := [(19, .inl (3, 2, none)), (47, .inr (.inr (.inl (0, 1, none)))), (157, .inr (.inr (.inl (56, 1, none))))]
def kq_63 : mm_M := (kt_63, kp_63, 6, (some .int))
def kt_64 : List (Option mm_I) := [some (.aload_n 0, 1, []), some (.getfield 33, 4, []), none, none, some (.invokevirtual 163, 7, []), none, none, some (.iconst 0, 8, []), some (.istore_n 2, 9, []), some (.iconst 0, 10, []), some (.istore_n 3, 11, []), some (.iload_n 3, 12, []), some (.aload_n 1, 13, []), some (.iconst 1, 14, []), some (.invokevirtual 63, 17, []), none, none, some (.if_icmp .ge 80, 20, [97]), none, none, some (.aload_n 1, 21, []), some (.iload_n 3, 22, []), some (.invokevirtual 164, 25, []), none, none, some (.i2l, 26, []), some (.lconst 1, 27, []), some (.bipush 24, 29, []), none, some (.iload_n 3, 30, []), some (.iadd, 31, []), some (.lshl, 32, []), some (.lor, 33, []), some (.lstore 4, 35, []), none, some (.aload_n 0, 36, []), some (.getfield 33, 39, []), none, none, some (.lload 4, 41, []), none, some (.invokevirtual 153, 44, []), none, none, some (.ifCond .ne 47, 47, [91]), none, none, some (.aload_n 0, 48, []), some (.getfield 33, 51, []), none, none, some (.lload 4, 53, []), none, some (.invokevirtual 167, 56, []), none, none, some (.bipush 24, 58, []), none, some (.lshr, 59, []), some (.l2i, 60, []), some (.istore 6, 62, []), none, some (.aload_n 0, 63, []), some (.getfield 37, 66, []), none, none, some (.iload_n 2, 67, []), some (.aload_n 1, 68, []), some (.iload 6, 70, []), none, some (.iconst 1, 71, []), some (.invokevirtual 171, 74, []), none, none, some (.iastore, 75, []), some (.aload_n 0, 76, []), some (.getfield 40, 79, []), none, none, some (.iload_n 2, 80, []), some (.aload_n 1, 81, []), some (.iload 6, 83, []), none, some (.iconst 0, 84, []), some (.invokevirtual 171, 87, []), none, none, some (.iastore, 88, []), some (.iinc 2 1, 91, []), none, none, some (.iinc 3 1, 94, []), none, none, some (.goto (-83), 97, [11]), none, none, some (.iload_n 2, 98, []), some (.ireturn, 99, [])]
theorem kh_64 : mm_all prog_1_method_32_code kt_64 0 = true := by decide +kernel
def kp_64 : List (Nat × mm_K) := [(33, .inl (3, 4, none)), (163, .inr (.inr (.inl (31, 0, some 2)))), (63, .inr (.inr (.inl (4, 1, some 0)))), (164, .inr (.inr (.inl (14, 1, some 0)))), (153, .inr (.inr (.inl (33, 1, some 2)))), (167, .inr (.inr (.inl (32, 1, some 2)))), (37, .inl (3, 5, none)), (171, .inr (.inr (.inl (15, 2, some 0)))), (40, .inl (3, 6, none))]
def kq_64 : mm_M := (kt_64, kp_64, 7, (some .int))
def kt_65 : List (Option mm_I) := [some (.iconst 0, 1, []), some (.istore_n 1, 2, []), some (.iconst 0, 3, []), some (.istore_n 2, 4, []), some (.iload_n 2, 5, []), some (.bipush 8, 7, []), none, some (.if_icmp .ge 17, 10, [24]), none, none, some (.iload_n 1, 11, []), some (.iload_n 0, 12, []), some (.iload_n 2, 13, []), some (.ishr, 14, []), some (.iconst 1, 15, []), some (.iand, 16, []), some (.iadd, 17, []), some (.istore_n 1, 18, []), some (.iinc 2 1, 21, []), none, none, some (.goto (-17), 24, [4]), none, none, some (.iload_n 1, 25, []), some (.ireturn, 26, [])]
theorem kh_65 : mm_all prog_6_method_2_code kt_65 0 = true := by decide +kernel
def kp_65 : List (Nat × mm_K) := []
def kq_65 : mm_M := (kt_65, kp_65, 3, (some .int))
def kt_66 : List (Option mm_I) := [some (.iload_n 0, 1, []), some (.ifCond .eq 8, 4, [9]), none, none, some (.iload_n 0, 5, []), some (.iconst 1, 6, []), some (.if_icmp .ne 7, 9, [13]), none, none, some (.iconst 1, 10, []), some (.goto 4, 13, [14]), none, none, some (.iconst 0, 14, []), some (.ireturn, 15, [])]
theorem kh_66 : mm_all prog_6_method_3_code kt_66 0 = true := by decide +kernel
def kp_66 : List (Nat × mm_K) := []
def kq_66 : mm_M := (kt_66, kp_66, 1, (some .boolean))
def kt_67 : List (Option mm_I) := [some (.iload_n 0, 1, []), some (.ifCond .lt 12, 4, [13]), none, none, some (.iload_n 0, 5, []), some (.iconst 3, 6, []), some (.if_icmp .gt 7, 9, [13]), none, none, some (.iconst 1, 10, []), some (.goto 4, 13, [14]), none, none, some (.iconst 0, 14, []), some (.ireturn, 15, [])]
theorem kh_67 : mm_all prog_6_method_4_code kt_67 0 = true := by decide +kernel
def kp_67 : List (Nat × mm_K) := []
def kq_67 : mm_M := (kt_67, kp_67, 1, (some .boolean))
def kt_68 : List (Option mm_I) := [some (.iload_n 1, 1, []), some (.invokestatic 45, 4, []), none, none, some (.ifCond .eq 34, 7, [38]), none, none, some (.iload_n 2, 8, []), some (.iconst 1, 9, []), some (.if_icmp .lt 29, 12, [38]), none, none, some (.iload_n 2, 13, []), some (.sipush 255, 16, []), none, none, some (.if_icmp .gt 22, 19, [38]), none, none, some (.aload_n 0, 20, []), some (.getfield 7, 23, []), none, none, some (.sipush 256, 26, []), none, none, some (.iload_n 1, 27, []), some (.imul, 28, []), some (.iload_n 2, 29, []), some (.iadd, 30, []), some (.baload, 31, []), some (.ifCond .eq 7, 34, [38]), none, none, some (.iconst 1, 35, []), some (.goto 4, 38, [39]), none, none, some (.iconst 0, 39, []), some (.ireturn, 40, [])]
theorem kh_68 : mm_all prog_6_method_5_code kt_68 0 = true := by decide +kernel
def kp_68 : List (Nat × mm_K) := [(45, .inr (.inr (.inl (66, 1, none)))), (7, .inl (4, 0, none))]
def kq_68 : mm_M := (kt_68, kp_68, 3, (some .boolean))
def kt_69 : List (Option mm_I) := [some (.iconst 0, 1, []), some (.istore_n 3, 2, []), some (.iconst 1, 3, []), some (.istore 4, 5, []), none, some (.iload 4, 7, []), none, some (.sipush 256, 10, []), none, none, some (.if_icmp .ge 44, 13, [54]), none, none, some (.aload_n 0, 14, []), some (.getfield 7, 17, []), none, none, some (.sipush 256, 20, []), none, none, some (.iload_n 1, 21, []), some (.imul, 22, []), some (.iload 4, 24, []), none, some (.iadd, 25, []), some (.baload, 26, []), some (.ifCond .eq 20, 29, [46]), none, none, some (.iload 4, 31, []), none, some (.invokestatic 49, 34, []), none, none, some (.iload_n 2, 35, []), some (.iconst 1, 36, []), some (.iadd, 37, []), some (.if_icmp .ne 9, 40, [46]), none, none, some (.iload_n 3, 41, []), some (.iconst 1, 42, []), some (.iadd, 43, []), some (.goto 4, 46, [47]), none, none, some (.iload_n 3, 47, []), some (.istore_n 3, 48, []), some (.iinc 4 1, 51, []), none, none, some (.goto (-46), 54, [5]), none, none, some (.iload_n 3, 55, []), some (.ireturn, 56, [])]
theorem kh_69 : mm_all prog_6_method_6_code kt_69 0 = true := by decide +kernel
def kp_69 : List (Nat × mm_K) := [(7, .inl (4, 0, none)), (49, .inr (.inr (.inl (65, 1, none))))]
def kq_69 : mm_M := (kt_69, kp_69, 5, (some .int))
def kt_70 : List (Option mm_I) := [some (.iload_n 3, 1, []), some (.istore 4, 3, []), none, some (.iconst 1, 4, []), some (.istore 5, 6, []), none, some (.iload 5, 8, []), none, some (.sipush 256, 11, []), none, none, some (.if_icmp .ge 47, 14, [58]), none, none, some (.aload_n 0, 15, []), some (.getfield 7, 18, []), none, none, some (.sipush 256, 21, []), none, none, some (.iload_n 1, 22, []), some (.imul, 23, []), some (.iload 5, 25, []), none, some (.iadd, 26, []), some (.baload, 27, []), some (.ifCond .eq 25, 30, [52]), none, none, some (.iload 5, 32, []), none, some (.invokestatic 49, 35, []), none, none, some (.iload_n 2, 36, []), some (.iconst 1, 37, []), some (.iadd, 38, []), some (.if_icmp .ne 14, 41, [52]), none, none, some (.iload 4, 43, []), none, some (.ifCond .ne 6, 46, [49]), none, none, some (.iload 5, 48, []), none, some (.ireturn, 49, []), some (.iinc 4 (-1), 52, []), none, none, some (.iinc 5 1, 55, []), none, none, some (.goto (-49), 58, [6]), none, none, some (.iconst 0, 59, []), some (.ireturn, 60, [])]
theorem kh_70 : mm_all prog_6_method_7_code kt_70 0 = true := by decide +kernel
def kp_70 : List (Nat × mm_K) := [(7, .inl (4, 0, none)), (49, .inr (.inr (.inl (65, 1, none))))]
def kq_70 : mm_M := (kt_70, kp_70, 6, (some .int))
def kt_71 : List (Option mm_I) := [some (.iload_n 1, 1, []), some (.iload_n 0, 2, []), some (.iconst (-1), 3, []), some (.ixor, 4, []), some (.iand, 5, []), some (.ifCond .ne 20, 8, [25]), none, none, some (.iload_n 1, 9, []), some (.ifCond .eq 16, 12, [25]), none, none, some (.iload_n 1, 13, []), some (.invokestatic 49, 16, []), none, none, some (.iload_n 0, 17, []), some (.invokestatic 49, 20, []), none, none, some (.iconst 1, 21, []), some (.isub, 22, []), some (.if_icmp .eq 5, 25, [27]), none, none, some (.iconst 0, 26, []), some (.ireturn, 27, []), some (.iload_n 0, 28, []), some (.iload_n 1, 29, []), some (.iconst (-1), 30, []), some (.ixor, 31, []), some (.iand, 32, []), some (.istore_n 2, 33, []), some (.iconst 0, 34, []), some (.istore_n 3, 35, []), some (.iconst 0, 36, []), some (.istore 4, 38, []), none, some (.iload 4, 40, []), none, some (.bipush 8, 42, []), none, some (.if_icmp .ge 35, 45, [77]), none, none, some (.iload_n 0, 46, []), some (.iload 4, 48, []), none, some (.ishr, 49, []), some (.iconst 1, 50, []), some (.iand, 51, []), some (.iconst 1, 52, []), some (.if_icmp .ne 17, 55, [69]), none, none, some (.iconst 1, 56, []), some (.iload 4, 58, []), none, some (.ishl, 59, []), some (.iload_n 2, 60, []), some (.if_icmp .ge 9, 63, [69]), none, none, some (.iload_n 3, 64, []), some (.iconst 1, 65, []), some (.iadd, 66, []), some (.goto 4, 69, [70]), none, none, some (.iload_n 3, 70, []), some (.istore_n 3, 71, []), some (.iinc 4 1, 74, []), none, none, some (.goto (-36), 77, [38]), none, none, some (.iload_n 3, 78, []), some (.iconst 2, 79, []), some (.irem, 80, []), some (.ifCond .ne 7, 83, [87]), none, none, some (.iconst 1, 84, []), some (.goto 4, 87, [88]), none, none, some (.iconst (-1), 88, []), some (.ireturn, 89, [])]
theorem kh_71 : mm_all prog_6_method_8_code kt_71 0 = true := by decide +kernel
def kp_71 : List (Nat × mm_K) := [(49, .inr (.inr (.inl (65, 1, none))))]
def kq_71 : mm_M := (kt_71, kp_71, 5, (some .int))
def kt_72 : List (Option mm_I) := [some (.iload_n 1, 1, []), some (.invokestatic 45, 4, []), none, none, some (.ifCond .eq 23, 7, [27]), none, none, some (.iload_n 2, 8, []), some (.iconst 1, 9, []), some (.if_icmp .lt 18, 12, [27]), none, none, some (.iload_n 2, 13, []), some (.sipush 255, 16, []), none, none, some (.if_icmp .gt 11, 19, [27]), none, none, some (.iload_n 2, 20, []), some (.invokestatic 49, 23, []), none, none, some (.iconst 4, 24, []), some (.if_icmp .le 5, 27, [29]), none, none, some (.iconst (-1), 28, []), some (.ireturn, 29, []), some (.iconst 0, 30, []), some (.istore_n 3, 31, []), some (.iload_n 3, 32, []), some (.iconst 4, 33, []), some (.if_icmp .ge 89, 36, [122]), none, none, some (.aload_n 0, 37, []), some (.iload_n 1, 38, []), some (.iload_n 3, 39, []), some (.invokevirtual 53, 42, []), none, none, some (.istore 4, 44, []), none, some (.iconst 1, 45, []), some (.istore 5, 47, []), none, some (.iload 5, 49, []), none, some (.iload_n 2, 50, []), some (.if_icmp .gt 56, 53, [106]), none, none, some (.iload 5, 55, []), none, some (.iload_n 2, 56, []), some (.iconst (-1), 57, []), some (.ixor, 58, []), some (.iand, 59, []), some (.ifCond .ne 37, 62, [96]), none, none, some (.iload 5, 64, []), none, some (.invokestatic 49, 67, []), none, none, some (.iload_n 3, 68, []), some (.iconst 1, 69, []), some (.iadd, 70, []), some (.if_icmp .ne 26, 73, [96]), none, none, some (.aload_n 0, 74, []), some (.getfield 7, 77, []), none, none, some (.sipush 256, 80, []), none, none, some (.iload_n 1, 81, []), some (.imul, 82, []), some (.iload 5, 84, []), none, some (.iadd, 85, []), some (.baload, 86, []), some (.ifCond .ne 10, 89, [96]), none, none, some (.iload 4, 91, []), none, some (.iconst 1, 92, []), some (.iadd, 93, []), some (.goto 5, 96, [98]), none, none, some (.iload 4, 98, []), none, some (.istore 4, 100, []), none, some (.iinc 5 1, 103, []), none, none, some (.goto (-56), 106, [47]), none, none, some (.iload 4, 108, []), none, some (.bipush 24, 110, []), none, some (.if_icmp .le 6, 113, [116]), none, none, some (.bipush (-2), 115, []), none, some (.ireturn, 116, []), some (.iinc 3 1, 119, []), none, none, some (.goto (-88), 122, [31]), none, none, some (.iconst 0, 123, []), some (.istore_n 3, 124, []), some (.iconst 1, 125, []), some (.istore 4, 127, []), none, some (.iload 4, 129, []), none, some (.iload_n 2, 130, []), some (.if_icmp .gt 65, 133, [195]), none, none, some (.iload 4, 135, []), none, some (.iload_n 2, 136, []), some (.iconst (-1), 137, []), some (.ixor, 138, []), some (.iand, 139, []), some (.ifCond .ne 50, 142, [189]), none, none, some (.aload_n 0, 143, []), some (.getfield 7, 146, []), none, none, some (.sipush 256, 149, []), none, none, some (.iload_n 1, 150, []), some (.imul, 151, []), some (.iload 4, 153, []), none, some (.iadd, 154, []), some (.baload, 155, []), some (.ifCond .ne 34, 158, [189]), none, none, some (.aload_n 0, 159, []), some (.getfield 7, 162, []), none, none, some (.sipush 256, 165, []), none, none, some (.iload_n 1, 166, []), some (.imul, 167, []), some (.iload 4, 169, []), none, some (.iadd, 170, []), some (.iconst 1, 171, []), some (.bastore, 172, []), some (.aload_n 0, 173, []), some (.getfield 13, 176, []), none, none, some (.sipush 256, 179, []), none, none, some (.iload_n 1, 180, []), some (.imul, 181, []), some (.iload 4, 183, []), none, some (.iadd, 184, []), some (.iconst 0, 185, []), some (.iastore, 186, []), some (.iinc 3 1, 189, []), none, none, some (.iinc 4 1, 192, []), none, none, some (.goto (-65), 195, [127]), none, none, some (.iload_n 3, 196, []), some (.ireturn, 197, [])]
theorem kh_72 : mm_all prog_6_method_9_code kt_72 0 = true := by decide +kernel
def kp_72 : List (Nat × mm_K) := [(45, .inr (.inr (.inl (66, 1, none)))), (49, .inr (.inr (.inl (65, 1, none)))), (53, .inr (.inr (.inl (69, 2, some 4)))), (7, .inl (4, 0, none)), (13, .inl (4, 1, none))]
def kq_72 : mm_M := (kt_72, kp_72, 6, (some .int))
def kt_73 : List (Option mm_I) := [some (.iload_n 1, 1, []), some (.invokestatic 45, 4, []), none, none, some (.ifCond .ne 5, 7, [9]), none, none, some (.iconst 0, 8, []), some (.ireturn, 9, []), some (.iconst 0, 10, []), some (.istore_n 2, 11, []), some (.iload_n 2, 12, []), some (.sipush 256, 15, []), none, none, some (.if_icmp .ge 35, 18, [50]), none, none, some (.aload_n 0, 19, []), some (.getfield 7, 22, []), none, none, some (.sipush 256, 25, []), none, none, some (.iload_n 1, 26, []), some (.imul, 27, []), some (.iload_n 2, 28, []), some (.iadd, 29, []), some (.iconst 0, 30, []), some (.bastore, 31, []), some (.aload_n 0, 32, []), some (.getfield 13, 35, []), none, none, some (.sipush 256, 38, []), none, none, some (.iload_n 1, 39, []), some (.imul, 40, []), some (.iload_n 2, 41, []), some (.iadd, 42, []), some (.iconst 0, 43, []), some (.iastore, 44, []), some (.iinc 2 1, 47, []), none, none, some (.goto (-36), 50, [11]), none, none, some (.iconst 1, 51, []), some (.ireturn, 52, [])]
theorem kh_73 : mm_all prog_6_method_10_code kt_73 0 = true := by decide +kernel
def kp_73 : List (Nat × mm_K) := [(45, .inr (.inr (.inl (66, 1, none)))), (7, .inl (4, 0, none)), (13, .inl (4, 1, none))]
def kq_73 : mm_M := (kt_73, kp_73, 3, (some .boolean))
def kt_74 : List (Option mm_I) := [some (.iload_n 1, 1, []), some (.invokestatic 45, 4, []), none, none, some (.ifCond .eq 19, 7, [23]), none, none, some (.iload_n 2, 8, []), some (.invokestatic 57, 11, []), none, none, some (.ifCond .eq 12, 14, [23]), none, none, some (.aload_n 0, 15, []), some (.iload_n 1, 16, []), some (.iload_n 2, 17, []), some (.invokevirtual 53, 20, []), none, none, some (.goto 4, 23, [24]), none, none, some (.iconst (-1), 24, []), some (.ireturn, 25, [])]
theorem kh_74 : mm_all prog_6_method_11_code kt_74 0 = true := by decide +kernel
def kp_74 : List (Nat × mm_K) := [(45, .inr (.inr (.inl (66, 1, none)))), (57, .inr (.inr (.inl (67, 1, none)))), (53, .inr (.inr (.inl (69, 2, some 4))))]
def kq_74 : mm_M := (kt_74, kp_74, 3, (some .int))
def kt_75 : List (Option mm_I) := [some (.iload_n 1, 1, []), some (.invokestatic 45, 4, []), none, none, some (.ifCond .eq 24, 7, [28]), none, none, some (.iload_n 2, 8, []), some (.invokestatic 57, 11, []), none, none, some (.ifCond .eq 17, 14, [28]), none, none, some (.iload_n 3, 15, []), some (.ifCond .lt 13, 18, [28]), none, none, some (.aload_n 0, 19, []), some (.iload_n 1, 20, []), some (.iload_n 2, 21, []), some (.iload_n 3, 22, []), some (.invokevirtual 60, 25, []), none, none, some (.goto 4, 28, [29]), none, none, some (.iconst 0, 29, []), some (.istore 4, 31, []), none, some (.iload 4, 33, []), none, some (.ifCond .ne 7, 36, [40]), none, none, some (.iconst (-1), 37, []), some (.goto 5, 40, [42]), none, none, some (.iload 4, 42, []), none, some (.ireturn, 43, [])]
theorem kh_75 : mm_all prog_6_method_12_code kt_75 0 = true := by decide +kernel
def kp_75 : List (Nat × mm_K) := [(45, .inr (.inr (.inl (66, 1, none)))), (57, .inr (.inr (.inl (67, 1, none)))), (60, .inr (.inr (.inl (70, 3, some 4))))]
def kq_75 : mm_M := (kt_75, kp_75, 5, (some .int))
def kt_76 : List (Option mm_I) := [some (.iload_n 1, 1, []), some (.invokestatic 45, 4, []), none, none, some (.ifCond .eq 22, 7, [26]), none, none, some (.iload_n 2, 8, []), some (.iconst 1, 9, []), some (.if_icmp .lt 17, 12, [26]), none, none, some (.iload_n 2, 13, []), some (.iconst 3, 14, []), some (.if_icmp .gt 12, 17, [26]), none, none, some (.iload_n 3, 18, []), some (.ifCond .lt 8, 21, [26]), none, none, some (.iload 4, 23, []), none, some (.ifCond .ge 5, 26, [28]), none, none, some (.iconst 0, 27, []), some (.ireturn, 28, []), some (.aload_n 0, 29, []), some (.iload_n 1, 30, []), some (.iload_n 2, 31, []), some (.iload 4, 33, []), none, some (.invokevirtual 60, 36, []), none, none, some (.aload_n 0, 37, []), some (.iload_n 1, 38, []), some (.iload_n 2, 39, []), some (.iconst 1, 40, []), some (.isub, 41, []), some (.iload_n 3, 42, []), some (.invokevirtual 60, 45, []), none, none, some (.invokestatic 64, 48, []), none, none, some (.ireturn, 49, [])]
theorem kh_76 : mm_all prog_6_method_13_code kt_76 0 = true := by decide +kernel
def kp_76 : List (Nat × mm_K) := [(45, .inr (.inr (.inl (66, 1, none)))), (60, .inr (.inr (.inl (70, 3, some 4)))), (64, .inr (.inr (.inl (71, 2, none))))]
def kq_76 : mm_M := (kt_76, kp_76, 5, (some .int))
def kt_77 : List (Option mm_I) := [some (.iload_n 1, 1, []), some (.invokestatic 45, 4, []), none, none, some (.ifCond .eq 33, 7, [37]), none, none, some (.aload_n 0, 8, []), some (.iload_n 1, 9, []), some (.iconst 0, 10, []), some (.invokevirtual 53, 13, []), none, none, some (.aload_n 0, 14, []), some (.iload_n 1, 15, []), some (.iconst 1, 16, []), some (.invokevirtual 53, 19, []), none, none, some (.isub, 20, []), some (.aload_n 0, 21, []), some (.iload_n 1, 22, []), some (.iconst 2, 23, []), some (.invokevirtual 53, 26, []), none, none, some (.iadd, 27, []), some (.aload_n 0, 28, []), some (.iload_n 1, 29, []), some (.iconst 3, 30, []), some (.invokevirtual 53, 33, []), none, none, some (.isub, 34, []), some (.goto 4, 37, [38]), none, none, some (.iconst 0, 38, []), some (.ireturn, 39, [])]
theorem kh_77 : mm_all prog_6_method_14_code kt_77 0 = true := by decide +kernel
def kp_77 : List (Nat × mm_K) := [(45, .inr (.inr (.inl (66, 1, none)))), (53, .inr (.inr (.inl (69, 2, some 4))))]
def kq_77 : mm_M := (kt_77, kp_77, 2, (some .int))
def kt_78 : List (Option mm_I) := [some (.aload_n 0, 1, []), some (.iload_n 1, 2, []), some (.putfield 67, 5, []), none, none, some (.aload_n 0, 6, []), some (.iload_n 2, 7, []), some (.putfield 71, 10, []), none, none, some (.iconst 0, 11, []), some (.istore_n 3, 12, []), some (.iload_n 3, 13, []), some (.sipush 2304, 16, []), none, none, some (.if_icmp .ge 16, 19, [32]), none, none, some (.aload_n 0, 20, []), some (.getfield 20, 23, []), none, none, some (.iload_n 3, 24, []), some (.lconst 0, 25, []), some (.lastore, 26, []), some (.iinc 3 1, 29, []), none, none, some (.goto (-17), 32, [12]), none, none, some (.return_, 33, [])]
theorem kh_78 : mm_all prog_6_method_15_code kt_78 0 = true := by decide +kernel
def kp_78 : List (Nat × mm_K) := [(67, .inl (4, 3, some .int)), (71, .inl (4, 4, some .int)), (20, .inl (4, 5, none))]
def kq_78 : mm_M := (kt_78, kp_78, 4, none)
def kt_79 : List (Option mm_I) := [some (.iload_n 3, 1, []), some (.istore 5, 3, []), none, some (.iconst 1, 4, []), some (.istore 6, 6, []), none, some (.iload 6, 8, []), none, some (.sipush 256, 11, []), none, none, some (.if_icmp .ge 109, 14, [120]), none, none, some (.aload_n 0, 15, []), some (.getfield 7, 18, []), none, none, some (.sipush 256, 21, []), none, none, some (.iload_n 1, 22, []), some (.imul, 23, []), some (.iload 6, 25, []), none, some (.iadd, 26, []), some (.baload, 27, []), some (.ifCond .eq 87, 30, [114]), none, none, some (.iload 6, 32, []), none, some (.invokestatic 49, 35, []), none, none, some (.iload_n 2, 36, []), some (.if_icmp .ne 78, 39, [114]), none, none, some (.iload 4, 41, []), none, some (.istore 7, 43, []), none, some (.iconst 1, 44, []), some (.istore 8, 46, []), none, some (.iload 8, 48, []), none, some (.sipush 256, 51, []), none, none, some (.if_icmp .ge 60, 54, [111]), none, none, some (.aload_n 0, 55, []), some (.getfield 7, 58, []), none, none, some (.sipush 256, 61, []), none, none, some (.iload_n 1, 62, []), some (.imul, 63, []), some (.iload 8, 65, []), none, some (.iadd, 66, []), some (.baload, 67, []), some (.ifCond .eq 38, 70, [105]), none, none, some (.iload 8, 72, []), none, some (.invokestatic 49, 75, []), none, none, some (.iload_n 2, 76, []), some (.iconst 1, 77, []), some (.iadd, 78, []), some (.if_icmp .ne 27, 81, [105]), none, none, some (.aload_n 0, 82, []), some (.getfield 20, 85, []), none, none, some (.bipush 48, 87, []), none, some (.iload 5, 89, []), none, some (.imul, 90, []), some (.iload 7, 92, []), none, some (.iadd, 93, []), some (.iload 8, 95, []), none, some (.iload 6, 97, []), none, some (.invokestatic 64, 100, []), none, none, some (.i2l, 101, []), some (.lastore, 102, []), some (.iinc 7 1, 105, []), none, none, some (.iinc 8 1, 108, []), none, none, some (.goto (-62), 111, [46]), none, none, some (.iinc 5 1, 114, []), none, none, some (.iinc 6 1, 117, []), none, none, some (.goto (-111), 120, [6]), none, none, some (.return_, 121, [])]
theorem kh_79 : mm_all prog_6_method_16_code kt_79 0 = true := by decide +kernel
def kp_79 : List (Nat × mm_K) := [(7, .inl (4, 0, none)), (49, .inr (.inr (.inl (65, 1, none)))), (20, .inl (4, 5, none)), (64, .inr (.inr (.inl (71, 2, none))))]
def kq_79 : mm_M := (kt_79, kp_79, 9, none)
def kt_80 : List (Option mm_I) := [some (.aload_n 0, 1, []), some (.aload_n 0, 2, []), some (.iload_n 1, 3, []), some (.iload_n 2, 4, []), some (.iconst 1, 5, []), some (.isub, 6, []), some (.invokevirtual 53, 9, []), none, none, some (.aload_n 0, 10, []), some (.iload_n 1, 11, []), some (.iload_n 2, 12, []), some (.invokevirtual 53, 15, []), none, none, some (.invokevirtual 74, 18, []), none, none, some (.aload_n 0, 19, []), some (.iload_n 1, 20, []), some (.iload_n 2, 21, []), some (.iconst 0, 22, []), some (.iconst 0, 23, []), some (.invokevirtual 78, 26, []), none, none, some (.return_, 27, [])]
theorem kh_80 : mm_all prog_6_method_17_code kt_80 0 = true := by decide +kernel
def kp_80 : List (Nat × mm_K) := [(53, .inr (.inr (.inl (69, 2, some 4)))), (74, .inr (.inr (.inl (78, 2, some 4)))), (78, .inr (.inr (.inl (79, 4, some 4))))]
def kq_80 : mm_M := (kt_80, kp_80, 3, none)
def kt_81 : List (Option mm_I) := [some (.lload_n 0, 1, []), some (.lstore 4, 3, []), none, some (.lconst 1, 4, []), some (.lstore 6, 6, []), none, some (.lload_n 2, 7, []), some (.ldc2_w 82, 10, []), none, none, some (.lsub, 11, []), some (.lstore 8, 13, []), none, some (.lload 8, 15, []), none, some (.lconst 0, 16, []), some (.lcmp, 17, []), some (.ifCond .le 48, 20, [65]), none, none, some (.lload 8, 22, []), none, some (.ldc2_w 82, 25, []), none, none, some (.lrem, 26, []), some (.lconst 1, 27, []), some (.lcmp, 28, []), some (.ifCond .ne 13, 31, [41]), none, none, some (.lload 6, 33, []), none, some (.lload 4, 35, []), none, some (.lmul, 36, []), some (.lload_n 2, 37, []), some (.lrem, 38, []), some (.goto 5, 41, [43]), none, none, some (.lload 6, 43, []), none, some (.lstore 6, 45, []), none, some (.lload 4, 47, []), none, some (.lload 4, 49, []), none, some (.lmul, 50, []), some (.lload_n 2, 51, []), some (.lrem, 52, []), some (.lstore 4, 54, []), none, some (.lload 8, 56, []), none, some (.ldc2_w 82, 59, []), none, none, some (.ldiv, 60, []), some (.lstore 8, 62, []), none, some (.goto (-49), 65, [13]), none, none, some (.lload 6, 67, []), none, some (.lreturn, 68, [])]
theorem kh_81 : mm_all prog_6_method_18_code kt_81 0 = true := by decide +kernel
def kp_81 : List (Nat × mm_K) := [(82, .inr (.inl (.long 2)))]
def kq_81 : mm_M := (kt_81, kp_81, 10, (some .long))
def kt_82 : List (Option mm_I) := [some (.iconst 0, 1, []), some (.istore_n 3, 2, []), some (.iload_n 3, 3, []), some (.bipush 48, 5, []), none, some (.if_icmp .ge 57, 8, [62]), none, none, some (.aload_n 0, 9, []), some (.getfield 24, 12, []), none, none, some (.bipush 48, 14, []), none, some (.iload_n 1, 15, []), some (.imul, 16, []), some (.iload_n 3, 17, []), some (.iadd, 18, []), some (.laload, 19, []), some (.lstore 4, 21, []), none, some (.aload_n 0, 22, []), some (.getfield 24, 25, []), none, none, some (.bipush 48, 27, []), none, some (.iload_n 1, 28, []), some (.imul, 29, []), some (.iload_n 3, 30, []), some (.iadd, 31, []), some (.aload_n 0, 32, []), some (.getfield 24, 35, []), none, none, some (.bipush 48, 37, []), none, some (.iload_n 2, 38, []), some (.imul, 39, []), some (.iload_n 3, 40, []), some (.iadd, 41, []), some (.laload, 42, []), some (.lastore, 43, []), some (.aload_n 0, 44, []), some (.getfield 24, 47, []), none, none, some (.bipush 48, 49, []), none, some (.iload_n 2, 50, []), some (.imul, 51, []), some (.iload_n 3, 52, []), some (.iadd, 53, []), some (.lload 4, 55, []), none, some (.lastore, 56, []), some (.iinc 3 1, 59, []), none, none, some (.goto (-57), 62, [2]), none, none, some (.return_, 63, [])]
theorem kh_82 : mm_all prog_6_method_19_code kt_82 0 = true := by decide +kernel
def kp_82 : List (Nat × mm_K) := [(24, .inl (4, 6, none))]
def kq_82 : mm_M := (kt_82, kp_82, 6, none)
end
section
def kt_83 : List (Option mm_I) := [some (.iconst 0, 1, []), some (.istore_n 3, 2, []), some (.iload_n 3, 3, []), some (.sipush 2304, 6, []), none, none, some (.if_icmp .ge 41, 9, [47]), none, none, some (.aload_n 0, 10, []), some (.getfield 20, 13, []), none, none, some (.iload_n 3, 14, []), some (.laload, 15, []), some (.lload_n 1, 16, []), some (.lrem, 17, []), some (.lstore 4, 19, []), none, some (.aload_n 0, 20, []), some (.getfield 24, 23, []), none, none, some (.iload_n 3, 24, []), some (.lload 4, 26, []), none, some (.lconst 0, 27, []), some (.lcmp, 28, []), some (.ifCond .ge 10, 31, [38]), none, none, some (.lload 4, 33, []), none, some (.lload_n 1, 34, []), some (.ladd, 35, []), some (.goto 5, 38, [40]), none, none, some (.lload 4, 40, []), none, some (.lastore, 41, []), some (.iinc 3 1, 44, []), none, none, some (.goto (-42), 47, [2]), none, none, some (.iconst 0, 48, []), some (.istore_n 3, 49, []), some (.iconst 0, 50, []), some (.istore 4, 52, []), none, some (.iload 4, 54, []), none, some (.aload_n 0, 55, []), some (.getfield 71, 58, []), none, none, some (.if_icmp .ge 80, 61, [138]), none, none, some (.iload_n 3, 62, []), some (.aload_n 0, 63, []), some (.getfield 67, 66, []), none, none, some (.if_icmp .ge 72, 69, [138]), none, none, some (.iload_n 3, 70, []), some (.istore 5, 72, []), none, some (.iload 5, 74, []), none, some (.aload_n 0, 75, []), some (.getfield 67, 78, []), none, none, some (.if_icmp .ge 27, 81, [105]), none, none, some (.aload_n 0, 82, []), some (.getfield 24, 85, []), none, none, some (.bipush 48, 87, []), none, some (.iload 5, 89, []), none, some (.imul, 90, []), some (.iload 4, 92, []), none, some (.iadd, 93, []), some (.laload, 94, []), some (.lconst 0, 95, []), some (.lcmp, 96, []), some (.ifCond .ne 9, 99, [105]), none, none, some (.iinc 5 1, 102, []), none, none, some (.goto (-30), 105, [72]), none, none, some (.iload 5, 107, []), none, some (.aload_n 0, 108, []), some (.getfield 67, 111, []), none, none, some (.if_icmp .ge 21, 114, [132]), none, none, some (.aload_n 0, 115, []), some (.iload 5, 117, []), none, some (.iload_n 3, 118, []), some (.invokevirtual 84, 121, []), none, none, some (.aload_n 0, 122, []), some (.iload_n 3, 123, []), some (.iload 4, 125, []), none, some (.lload_n 1, 126, []), some (.invokevirtual 87, 129, []), none, none, some (.iinc 3 1, 132, []), none, none, some (.iinc 4 1, 135, []), none, none, some (.goto (-83), 138, [52]), none, none, some (.iload_n 3, 139, []), some (.ireturn, 140, [])]
theorem kh_83 : mm_all prog_6_method_20_code kt_83 0 = true := by decide +kernel
def kp_83 : List (Nat × mm_K) := [(20, .inl (4, 5, none)), (24, .inl (4, 6, none)), (71, .inl (4, 4, some .int)), (67, .inl (4, 3, some .int)), (84, .inr (.inr (.inl (82, 2, some 4)))), (87, .inr (.inr (.inl (84, 3, some 4))))]
def kq_83 : mm_M := (kt_83, kp_83, 6, (some .int))
def kt_84 : List (Option mm_I) := [some (.aload_n 0, 1, []), some (.getfield 24, 4, []), none, none, some (.bipush 48, 6, []), none, some (.iload_n 1, 7, []), some (.imul, 8, []), some (.iload_n 2, 9, []), some (.iadd, 10, []), some (.laload, 11, []), some (.lload_n 3, 12, []), some (.invokestatic 91, 15, []), none, none, some (.lstore 5, 17, []), none, some (.iload_n 1, 18, []), some (.iconst 1, 19, []), some (.iadd, 20, []), some (.istore 7, 22, []), none, some (.iload 7, 24, []), none, some (.aload_n 0, 25, []), some (.getfield 67, 28, []), none, none, some (.if_icmp .ge 110, 31, [138]), none, none, some (.aload_n 0, 32, []), some (.getfield 24, 35, []), none, none, some (.bipush 48, 37, []), none, some (.iload 7, 39, []), none, some (.imul, 40, []), some (.iload_n 2, 41, []), some (.iadd, 42, []), some (.laload, 43, []), some (.lload 5, 45, []), none, some (.lmul, 46, []), some (.lload_n 3, 47, []), some (.lrem, 48, []), some (.lstore 8, 50, []), none, some (.iload_n 2, 51, []), some (.istore 10, 53, []), none, some (.iload 10, 55, []), none, some (.aload_n 0, 56, []), some (.getfield 71, 59, []), none, none, some (.if_icmp .ge 73, 62, [132]), none, none, some (.aload_n 0, 63, []), some (.getfield 24, 66, []), none, none, some (.bipush 48, 68, []), none, some (.iload 7, 70, []), none, some (.imul, 71, []), some (.iload 10, 73, []), none, some (.iadd, 74, []), some (.laload, 75, []), some (.lload 8, 77, []), none, some (.aload_n 0, 78, []), some (.getfield 24, 81, []), none, none, some (.bipush 48, 83, []), none, some (.iload_n 1, 84, []), some (.imul, 85, []), some (.iload 10, 87, []), none, some (.iadd, 88, []), some (.laload, 89, []), some (.lmul, 90, []), some (.lload_n 3, 91, []), some (.lrem, 92, []), some (.lsub, 93, []), some (.lload_n 3, 94, []), some (.lrem, 95, []), some (.lstore 11, 97, []), none, some (.aload_n 0, 98, []), some (.getfield 24, 101, []), none, none, some (.bipush 48, 103, []), none, some (.iload 7, 105, []), none, some (.imul, 106, []), some (.iload 10, 108, []), none, some (.iadd, 109, []), some (.lload 11, 111, []), none, some (.lconst 0, 112, []), some (.lcmp, 113, []), some (.ifCond .ge 10, 116, [123]), none, none, some (.lload 11, 118, []), none, some (.lload_n 3, 119, []), some (.ladd, 120, []), some (.goto 5, 123, [125]), none, none, some (.lload 11, 125, []), none, some (.lastore, 126, []), some (.iinc 10 1, 129, []), none, none, some (.goto (-76), 132, [53]), none, none, some (.iinc 7 1, 135, []), none, none, some (.goto (-113), 138, [22]), none, none, some (.return_, 139, [])]
theorem kh_84 : mm_all prog_6_method_21_code kt_84 0 = true := by decide +kernel
def kp_84 : List (Nat × mm_K) := [(24, .inl (4, 6, none)), (91, .inr (.inr (.inl (81, 2, none)))), (67, .inl (4, 3, some .int)), (71, .inl (4, 4, some .int))]
def kq_84 : mm_M := (kt_84, kp_84, 13, none)
def kt_85 : List (Option mm_I) := [some (.aload_n 0, 1, []), some (.ldc2_w 95, 4, []), none, none, some (.invokevirtual 97, 7, []), none, none, some (.istore_n 1, 8, []), some (.aload_n 0, 9, []), some (.ldc2_w 101, 12, []), none, none, some (.invokevirtual 97, 15, []), none, none, some (.istore_n 2, 16, []), some (.iload_n 1, 17, []), some (.iload_n 2, 18, []), some (.if_icmp .le 7, 21, [25]), none, none, some (.iload_n 1, 22, []), some (.goto 4, 25, [26]), none, none, some (.iload_n 2, 26, []), some (.ireturn, 27, [])]
theorem kh_85 : mm_all prog_6_method_22_code kt_85 0 = true := by decide +kernel
def kp_85 : List (Nat × mm_K) := [(95, .inr (.inl (.long 2147483647))), (97, .inr (.inr (.inl (83, 1, some 4)))), (101, .inr (.inl (.long 2147483629)))]
def kq_85 : mm_M := (kt_85, kp_85, 3, (some .int))
def kt_86 : List (Option mm_I) := [some (.aload_n 0, 1, []), some (.iload_n 1, 2, []), some (.iload_n 2, 3, []), some (.invokevirtual 103, 6, []), none, none, some (.aload_n 0, 7, []), some (.invokevirtual 106, 10, []), none, none, some (.ireturn, 11, [])]
theorem kh_86 : mm_all prog_6_method_23_code kt_86 0 = true := by decide +kernel
def kp_86 : List (Nat × mm_K) := [(103, .inr (.inr (.inl (80, 2, some 4)))), (106, .inr (.inr (.inl (85, 0, some 4))))]
def kq_86 : mm_M := (kt_86, kp_86, 3, (some .int))
def kt_87 : List (Option mm_I) := [some (.iload_n 1, 1, []), some (.invokestatic 45, 4, []), none, none, some (.ifCond .eq 35, 7, [39]), none, none, some (.iload_n 2, 8, []), some (.invokestatic 57, 11, []), none, none, some (.ifCond .eq 28, 14, [39]), none, none, some (.aload_n 0, 15, []), some (.iload_n 1, 16, []), some (.iload_n 2, 17, []), some (.invokevirtual 53, 20, []), none, none, some (.aload_n 0, 21, []), some (.iload_n 1, 22, []), some (.iload_n 2, 23, []), some (.invokevirtual 110, 26, []), none, none, some (.isub, 27, []), some (.aload_n 0, 28, []), some (.iload_n 1, 29, []), some (.iload_n 2, 30, []), some (.iconst 1, 31, []), some (.iadd, 32, []), some (.invokevirtual 110, 35, []), none, none, some (.isub, 36, []), some (.goto 4, 39, [40]), none, none, some (.iconst (-1), 40, []), some (.ireturn, 41, [])]
theorem kh_87 : mm_all prog_6_method_24_code kt_87 0 = true := by decide +kernel
def kp_87 : List (Nat × mm_K) := [(45, .inr (.inr (.inl (66, 1, none)))), (57, .inr (.inr (.inl (67, 1, none)))), (53, .inr (.inr (.inl (69, 2, some 4)))), (110, .inr (.inr (.inl (86, 2, some 4))))]
def kq_87 : mm_M := (kt_87, kp_87, 3, (some .int))
def kt_88 : List (Option mm_I) := [some (.iload_n 3, 1, []), some (.iconst 2, 2, []), some (.if_icmp .eq 31, 5, [33]), none, none, some (.iload_n 3, 6, []), some (.iconst 3, 7, []), some (.if_icmp .eq 26, 10, [33]), none, none, some (.iload_n 3, 11, []), some (.iconst 5, 12, []), some (.if_icmp .eq 21, 15, [33]), none, none, some (.iload_n 3, 16, []), some (.bipush 7, 18, []), none, some (.if_icmp .eq 15, 21, [33]), none, none, some (.iload_n 3, 22, []), some (.bipush 11, 24, []), none, some (.if_icmp .eq 9, 27, [33]), none, none, some (.iload_n 3, 28, []), some (.bipush 13, 30, []), none, some (.if_icmp .ne 7, 33, [37]), none, none, some (.iconst 1, 34, []), some (.goto 4, 37, [38]), none, none, some (.iconst 0, 38, []), some (.istore 4, 40, []), none, some (.iload_n 1, 41, []), some (.invokestatic 45, 44, []), none, none, some (.ifCond .eq 15, 47, [59]), none, none, some (.iload_n 2, 48, []), some (.invokestatic 57, 51, []), none, none, some (.ifCond .eq 8, 54, [59]), none, none, some (.iload 4, 56, []), none, some (.ifCond .ne 5, 59, [61]), none, none, some (.iconst (-1), 60, []), some (.ireturn, 61, []), some (.aload_n 0, 62, []), some (.iload_n 1, 63, []), some (.iload_n 2, 64, []), some (.invokevirtual 103, 67, []), none, none, some (.aload_n 0, 68, []), some (.iload_n 3, 69, []), some (.i2l, 70, []), some (.invokevirtual 97, 73, []), none, none, some (.istore 5, 75, []), none, some (.aload_n 0, 76, []), some (.iload_n 1, 77, []), some (.iload_n 2, 78, []), some (.iconst 1, 79, []), some (.iadd, 80, []), some (.invokevirtual 103, 83, []), none, none, some (.aload_n 0, 84, []), some (.iload_n 1, 85, []), some (.iload_n 2, 86, []), some (.invokevirtual 53, 89, []), none, none, some (.iload 5, 91, []), none, some (.isub, 92, []), some (.aload_n 0, 93, []), some (.iload_n 3, 94, []), some (.i2l, 95, []), some (.invokevirtual 97, 98, []), none, none, some (.isub, 99, []), some (.ireturn, 100, [])]
theorem kh_88 : mm_all prog_6_method_25_code kt_88 0 = true := by decide +kernel
def kp_88 : List (Nat × mm_K) := [(45, .inr (.inr (.inl (66, 1, none)))), (57, .inr (.inr (.inl (67, 1, none)))), (103, .inr (.inr (.inl (80, 2, some 4)))), (97, .inr (.inr (.inl (83, 1, some 4)))), (53, .inr (.inr (.inl (69, 2, some 4))))]
def kq_88 : mm_M := (kt_88, kp_88, 6, (some .int))
def kt_89 : List (Option mm_I) := [some (.iload_n 1, 1, []), some (.istore_n 2, 2, []), some (.iload_n 2, 3, []), some (.aload_n 0, 4, []), some (.getfield 71, 7, []), none, none, some (.if_icmp .ge 119, 10, [126]), none, none, some (.iload_n 1, 11, []), some (.istore_n 3, 12, []), some (.iload_n 3, 13, []), some (.aload_n 0, 14, []), some (.getfield 67, 17, []), none, none, some (.if_icmp .ge 103, 20, [120]), none, none, some (.aload_n 0, 21, []), some (.getfield 24, 24, []), none, none, some (.bipush 48, 26, []), none, some (.iload_n 3, 27, []), some (.imul, 28, []), some (.iload_n 2, 29, []), some (.iadd, 30, []), some (.laload, 31, []), some (.lconst 0, 32, []), some (.lcmp, 33, []), some (.ifCond .eq 81, 36, [114]), none, none, some (.aload_n 0, 37, []), some (.iload_n 3, 38, []), some (.iload_n 1, 39, []), some (.invokevirtual 84, 42, []), none, none, some (.iconst 0, 43, []), some (.istore 4, 45, []), none, some (.iload 4, 47, []), none, some (.aload_n 0, 48, []), some (.getfield 67, 51, []), none, none, some (.if_icmp .ge 61, 54, [112]), none, none, some (.aload_n 0, 55, []), some (.getfield 24, 58, []), none, none, some (.bipush 48, 60, []), none, some (.iload 4, 62, []), none, some (.imul, 63, []), some (.iload_n 2, 64, []), some (.iadd, 65, []), some (.laload, 66, []), some (.lstore 5, 68, []), none, some (.aload_n 0, 69, []), some (.getfield 24, 72, []), none, none, some (.bipush 48, 74, []), none, some (.iload 4, 76, []), none, some (.imul, 77, []), some (.iload_n 2, 78, []), some (.iadd, 79, []), some (.aload_n 0, 80, []), some (.getfield 24, 83, []), none, none, some (.bipush 48, 85, []), none, some (.iload 4, 87, []), none, some (.imul, 88, []), some (.iload_n 1, 89, []), some (.iadd, 90, []), some (.laload, 91, []), some (.lastore, 92, []), some (.aload_n 0, 93, []), some (.getfield 24, 96, []), none, none, some (.bipush 48, 98, []), none, some (.iload 4, 100, []), none, some (.imul, 101, []), some (.iload_n 1, 102, []), some (.iadd, 103, []), some (.lload 5, 105, []), none, some (.lastore, 106, []), some (.iinc 4 1, 109, []), none, none, some (.goto (-64), 112, [45]), none, none, some (.iconst 1, 113, []), some (.ireturn, 114, []), some (.iinc 3 1, 117, []), none, none, some (.goto (-105), 120, [12]), none, none, some (.iinc 2 1, 123, []), none, none, some (.goto (-121), 126, [2]), none, none, some (.iconst 0, 127, []), some (.ireturn, 128, [])]
theorem kh_89 : mm_all prog_6_method_26_code kt_89 0 = true := by decide +kernel
def kp_89 : List (Nat × mm_K) := [(71, .inl (4, 4, some .int)), (67, .inl (4, 3, some .int)), (24, .inl (4, 6, none)), (84, .inr (.inr (.inl (82, 2, some 4))))]
def kq_89 : mm_M := (kt_89, kp_89, 7, (some .boolean))
def kt_90 : List (Option mm_I) := [some (.iload_n 1, 1, []), some (.iconst 1, 2, []), some (.iadd, 3, []), some (.istore_n 2, 4, []), some (.iload_n 2, 5, []), some (.aload_n 0, 6, []), some (.getfield 67, 9, []), none, none, some (.if_icmp .ge 131, 12, [140]), none, none, some (.aload_n 0, 13, []), some (.getfield 24, 16, []), none, none, some (.bipush 48, 18, []), none, some (.iload_n 2, 19, []), some (.imul, 20, []), some (.iload_n 1, 21, []), some (.iadd, 22, []), some (.laload, 23, []), some (.lconst 0, 24, []), some (.lcmp, 25, []), some (.ifCond .eq 109, 28, [134]), none, none, some (.aload_n 0, 29, []), some (.getfield 24, 32, []), none, none, some (.bipush 48, 34, []), none, some (.iload_n 2, 35, []), some (.imul, 36, []), some (.iload_n 1, 37, []), some (.iadd, 38, []), some (.laload, 39, []), some (.aload_n 0, 40, []), some (.getfield 24, 43, []), none, none, some (.bipush 48, 45, []), none, some (.iload_n 1, 46, []), some (.imul, 47, []), some (.iload_n 1, 48, []), some (.iadd, 49, []), some (.laload, 50, []), some (.ldiv, 51, []), some (.lstore_n 3, 52, []), some (.iload_n 1, 53, []), some (.istore 5, 55, []), none, some (.iload 5, 57, []), none, some (.aload_n 0, 58, []), some (.getfield 71, 61, []), none, none, some (.if_icmp .ge 48, 64, [109]), none, none, some (.aload_n 0, 65, []), some (.getfield 24, 68, []), none, none, some (.bipush 48, 70, []), none, some (.iload_n 2, 71, []), some (.imul, 72, []), some (.iload 5, 74, []), none, some (.iadd, 75, []), some (.aload_n 0, 76, []), some (.getfield 24, 79, []), none, none, some (.bipush 48, 81, []), none, some (.iload_n 2, 82, []), some (.imul, 83, []), some (.iload 5, 85, []), none, some (.iadd, 86, []), some (.laload, 87, []), some (.lload_n 3, 88, []), some (.aload_n 0, 89, []), some (.getfield 24, 92, []), none, none, some (.bipush 48, 94, []), none, some (.iload_n 1, 95, []), some (.imul, 96, []), some (.iload 5, 98, []), none, some (.iadd, 99, []), some (.laload, 100, []), some (.lmul, 101, []), some (.lsub, 102, []), some (.lastore, 103, []), some (.iinc 5 1, 106, []), none, none, some (.goto (-51), 109, [55]), none, none, some (.aload_n 0, 110, []), some (.getfield 24, 113, []), none, none, some (.bipush 48, 115, []), none, some (.iload_n 2, 116, []), some (.imul, 117, []), some (.iload_n 1, 118, []), some (.iadd, 119, []), some (.laload, 120, []), some (.lconst 0, 121, []), some (.lcmp, 122, []), some (.ifCond .eq 9, 125, [131]), none, none, some (.aload_n 0, 126, []), some (.iload_n 2, 127, []), some (.iload_n 1, 128, []), some (.invokevirtual 84, 131, []), none, none, some (.goto (-119), 134, [12]), none, none, some (.iinc 2 1, 137, []), none, none, some (.goto (-133), 140, [4]), none, none, some (.return_, 141, [])]
theorem kh_90 : mm_all prog_6_method_27_code kt_90 0 = true := by decide +kernel
def kp_90 : List (Nat × mm_K) := [(67, .inl (4, 3, some .int)), (24, .inl (4, 6, none)), (71, .inl (4, 4, some .int)), (84, .inr (.inr (.inl (82, 2, some 4))))]
def kq_90 : mm_M := (kt_90, kp_90, 6, none)
def kt_91_0 : List (Option mm_I) := [some (.iload_n 1, 1, []), some (.iconst 1, 2, []), some (.iadd, 3, []), some (.istore_n 2, 4, []), some (.iload_n 2, 5, []), some (.aload_n 0, 6, []), some (.getfield 71, 9, []), none, none, some (.if_icmp .ge 202, 12, [211]), none, none, some (.aload_n 0, 13, []), some (.getfield 24, 16, []), none, none, some (.bipush 48, 18, []), none, some (.iload_n 1, 19, []), some (.imul, 20, []), some (.iload_n 2, 21, []), some (.iadd, 22, []), some (.laload, 23, []), some (.lconst 0, 24, []), some (.lcmp, 25, []), some (.ifCond .eq 180, 28, [205]), none, none, some (.aload_n 0, 29, []), some (.getfield 24, 32, []), none, none, some (.bipush 48, 34, []), none, some (.iload_n 1, 35, []), some (.imul, 36, []), some (.iload_n 2, 37, []), some (.iadd, 38, []), some (.laload, 39, []), some (.aload_n 0, 40, []), some (.getfield 24, 43, []), none, none, some (.bipush 48, 45, []), none, some (.iload_n 1, 46, []), some (.imul, 47, []), some (.iload_n 1, 48, []), some (.iadd, 49, []), some (.laload, 50, []), some (.ldiv, 51, []), some (.lstore_n 3, 52, []), some (.aload_n 0, 53, []), some (.getfield 24, 56, []), none, none, some (.bipush 48, 58, []), none, some (.iload_n 1, 59, []), some (.imul, 60, []), some (.iload_n 2, 61, []), some (.iadd, 62, []), some (.laload, 63, []), some (.aload_n 0, 64, []), some (.getfield 24, 67, []), none, none, some (.bipush 48, 69, []), none, some (.iload_n 1, 70, []), some (.imul, 71, []), some (.iload_n 1, 72, []), some (.iadd, 73, []), some (.laload, 74, []), some (.lrem, 75, []), some (.lconst 0, 76, []), some (.lcmp, 77, []), some (.ifCond .eq 7, 80, [84]), none, none, some (.iconst 1, 81, []), some (.goto 4, 84, [85]), none, none, some (.iconst 0, 85, []), some (.istore 5, 87, []), none, some (.iload_n 1, 88, []), some (.istore 6, 90, []), none, some (.iload 6, 92, []), none, some (.aload_n 0, 93, []), some (.getfield 67, 96, []), none, none, some (.if_icmp .ge 106, 99, [202]), none, none, some (.aload_n 0, 100, [])]
theorem kh_91_0 : mm_all prog_6_method_28_code kt_91_0 0 = true := by decide +kernel
def kt_91_1 : List (Option mm_I) := [some (.getfield 24, 103, []), none, none, some (.bipush 48, 105, []), none, some (.iload 6, 107, []), none, some (.imul, 108, []), some (.iload_n 2, 109, []), some (.iadd, 110, []), some (.laload, 111, []), some (.lload_n 3, 112, []), some (.aload_n 0, 113, []), some (.getfield 24, 116, []), none, none, some (.bipush 48, 118, []), none, some (.iload 6, 120, []), none, some (.imul, 121, []), some (.iload_n 1, 122, []), some (.iadd, 123, []), some (.laload, 124, []), some (.lmul, 125, []), some (.lsub, 126, []), some (.lstore 7, 128, []), none, some (.aload_n 0, 129, []), some (.getfield 24, 132, []), none, none, some (.bipush 48, 134, []), none, some (.iload 6, 136, []), none, some (.imul, 137, []), some (.iload_n 2, 138, []), some (.iadd, 139, []), some (.iload 5, 141, []), none, some (.ifCond .eq 18, 144, [159]), none, none, some (.aload_n 0, 145, []), some (.getfield 24, 148, []), none, none, some (.bipush 48, 150, []), none, some (.iload 6, 152, []), none, some (.imul, 153, []), some (.iload_n 1, 154, []), some (.iadd, 155, []), some (.laload, 156, []), some (.goto 5, 159, [161]), none, none, some (.lload 7, 161, []), none, some (.lastore, 162, []), some (.aload_n 0, 163, []), some (.getfield 24, 166, []), none, none, some (.bipush 48, 168, []), none, some (.iload 6, 170, []), none, some (.imul, 171, []), some (.iload_n 1, 172, []), some (.iadd, 173, []), some (.iload 5, 175, []), none, some (.ifCond .eq 8, 178, [183]), none, none, some (.lload 7, 180, []), none, some (.goto 15, 183, [195]), none, none, some (.aload_n 0, 184, []), some (.getfield 24, 187, []), none, none, some (.bipush 48, 189, []), none, some (.iload 6, 191, []), none, some (.imul, 192, []), some (.iload_n 1, 193, []), some (.iadd, 194, []), some (.laload, 195, []), some (.lastore, 196, []), some (.iinc 6 1, 199, []), none, none, some (.goto (-109), 202, [90])]
theorem kh_91_1 : mm_all prog_6_method_28_code kt_91_1 100 = true := by decide +kernel
def kt_91_2 : List (Option mm_I) := [none, none, some (.goto (-190), 205, [12]), none, none, some (.iinc 2 1, 208, []), none, none, some (.goto (-204), 211, [4]), none, none, some (.return_, 212, [])]
theorem kh_91_2 : mm_all prog_6_method_28_code kt_91_2 200 = true := by decide +kernel
def kt_91 : List (Option mm_I) := kt_91_0 ++ (kt_91_1 ++ (kt_91_2))
theorem kh_91 : mm_all prog_6_method_28_code kt_91 0 = true := (mm_all_app _ _ _ kh_91_0 (mm_all_app _ _ _ kh_91_1 kh_91_2))
def kp_91 : List (Nat × mm_K) := [(71, .inl (4, 4, some .int)), (24, .inl (4, 6, none)), (67, .inl (4, 3, some .int))]
def kq_91 : mm_M := (kt_91, kp_91, 9, none)
def kt_92 : List (Option mm_I) := [some (.iconst 1, 1, []), some (.istore_n 2, 2, []), some (.iload_n 1, 3, []), some (.iconst 1, 4, []), some (.iadd, 5, []), some (.istore_n 3, 6, []), some (.iload_n 3, 7, []), some (.aload_n 0, 8, []), some (.getfield 67, 11, []), none, none, some (.if_icmp .ge 35, 14, [46]), none, none, some (.iload_n 2, 15, []), some (.ifCond .eq 23, 18, [38]), none, none, some (.aload_n 0, 19, []), some (.getfield 24, 22, []), none, none, some (.bipush 48, 24, []), none, some (.iload_n 3, 25, []), some (.imul, 26, []), some (.iload_n 1, 27, []), some (.iadd, 28, []), some (.laload, 29, []), some (.lconst 0, 30, []), some (.lcmp, 31, []), some (.ifCond .ne 7, 34, [38]), none, none, some (.iconst 1, 35, []), some (.goto 4, 38, [39]), none, none, some (.iconst 0, 39, []), some (.istore_n 2, 40, []), some (.iinc 3 1, 43, []), none, none, some (.goto (-37), 46, [6]), none, none, some (.iload_n 1, 47, []), some (.iconst 1, 48, []), some (.iadd, 49, []), some (.istore_n 3, 50, []), some (.iload_n 3, 51, []), some (.aload_n 0, 52, []), some (.getfield 71, 55, []), none, none, some (.if_icmp .ge 35, 58, [90]), none, none, some (.iload_n 2, 59, []), some (.ifCond .eq 23, 62, [82]), none, none, some (.aload_n 0, 63, []), some (.getfield 24, 66, []), none, none, some (.bipush 48, 68, []), none, some (.iload_n 1, 69, []), some (.imul, 70, []), some (.iload_n 3, 71, []), some (.iadd, 72, []), some (.laload, 73, []), some (.lconst 0, 74, []), some (.lcmp, 75, []), some (.ifCond .ne 7, 78, [82]), none, none, some (.iconst 1, 79, []), some (.goto 4, 82, [83]), none, none, some (.iconst 0, 83, []), some (.istore_n 2, 84, []), some (.iinc 3 1, 87, []), none, none, some (.goto (-37), 90, [50]), none, none, some (.iload_n 2, 91, []), some (.ireturn, 92, [])]
theorem kh_92 : mm_all prog_6_method_29_code kt_92 0 = true := by decide +kernel
def kp_92 : List (Nat × mm_K) := [(67, .inl (4, 3, some .int)), (24, .inl (4, 6, none)), (71, .inl (4, 4, some .int))]
def kq_92 : mm_M := (kt_92, kp_92, 4, (some .boolean))
def kt_93 : List (Option mm_I) := [some (.lload_n 0, 1, []), some (.lstore 4, 3, []), none, some (.lload_n 2, 4, []), some (.lstore 6, 6, []), none, some (.lload 6, 8, []), none, some (.lconst 0, 9, []), some (.lcmp, 10, []), some (.ifCond .eq 21, 13, [31]), none, none, some (.lload 4, 15, []), none, some (.lload 6, 17, []), none, some (.lrem, 18, []), some (.lstore 8, 20, []), none, some (.lload 6, 22, []), none, some (.lstore 4, 24, []), none, some (.lload 8, 26, []), none, some (.lstore 6, 28, []), none, some (.goto (-22), 31, [6]), none, none, some (.lload 4, 33, []), none, some (.lreturn, 34, [])]
theorem kh_93 : mm_all prog_6_method_30_code kt_93 0 = true := by decide +kernel
def kp_93 : List (Nat × mm_K) := []
def kq_93 : mm_M := (kt_93, kp_93, 10, (some .long))
def kt_94_0 : List (Option mm_I) := [some (.iconst 0, 1, []), some (.istore_n 1, 2, []), some (.iload_n 1, 3, []), some (.sipush 2304, 6, []), none, none, some (.if_icmp .ge 21, 9, [27]), none, none, some (.aload_n 0, 10, []), some (.getfield 24, 13, []), none, none, some (.iload_n 1, 14, []), some (.aload_n 0, 15, []), some (.getfield 20, 18, []), none, none, some (.iload_n 1, 19, []), some (.laload, 20, []), some (.lastore, 21, []), some (.iinc 1 1, 24, []), none, none, some (.goto (-22), 27, [2]), none, none, some (.aload_n 0, 28, []), some (.iconst 0, 29, []), some (.putfield 113, 32, []), none, none, some (.aload_n 0, 33, []), some (.getfield 113, 36, []), none, none, some (.aload_n 0, 37, []), some (.getfield 67, 40, []), none, none, some (.if_icmp .ge 91, 43, [131]), none, none, some (.aload_n 0, 44, []), some (.getfield 113, 47, []), none, none, some (.aload_n 0, 48, []), some (.getfield 71, 51, []), none, none, some (.if_icmp .ge 80, 54, [131]), none, none, some (.aload_n 0, 55, []), some (.aload_n 0, 56, []), some (.getfield 113, 59, []), none, none, some (.invokevirtual 116, 62, []), none, none, some (.ifCond .eq 69, 65, [131]), none, none, some (.aload_n 0, 66, []), some (.getfield 113, 69, []), none, none, some (.istore_n 1, 70, []), some (.aload_n 0, 71, []), some (.iload_n 1, 72, []), some (.invokevirtual 119, 75, []), none, none, some (.aload_n 0, 76, []), some (.iload_n 1, 77, []), some (.invokevirtual 123, 80, []), none, none, some (.aload_n 0, 81, []), some (.iload_n 1, 82, []), some (.invokevirtual 126, 85, []), none, none, some (.ifCond .eq (-15), 88, [70]), none, none, some (.aload_n 0, 89, []), some (.getfield 24, 92, []), none, none, some (.bipush 48, 94, []), none, some (.iload_n 1, 95, []), some (.imul, 96, []), some (.iload_n 1, 97, []), some (.iadd, 98, []), some (.laload, 99, []), some (.lstore_n 2, 100, [])]
theorem kh_94_0 : mm_all prog_6_method_31_code kt_94_0 0 = true := by decide +kernel
def kt_94_1 : List (Option mm_I) := [some (.aload_n 0, 101, []), some (.getfield 27, 104, []), none, none, some (.iload_n 1, 105, []), some (.lload_n 2, 106, []), some (.lconst 0, 107, []), some (.lcmp, 108, []), some (.ifCond .ge 8, 111, [116]), none, none, some (.lload_n 2, 112, []), some (.lneg, 113, []), some (.goto 4, 116, [117]), none, none, some (.lload_n 2, 117, []), some (.lastore, 118, []), some (.aload_n 0, 119, []), some (.dup, 120, []), some (.getfield 113, 123, []), none, none, some (.iconst 1, 124, []), some (.iadd, 125, []), some (.putfield 113, 128, []), none, none, some (.goto (-96), 131, [32]), none, none, some (.iconst 0, 132, []), some (.istore_n 1, 133, []), some (.iload_n 1, 134, []), some (.aload_n 0, 135, []), some (.getfield 113, 138, []), none, none, some (.if_icmp .ge 71, 141, [209]), none, none, some (.iload_n 1, 142, []), some (.iconst 1, 143, []), some (.iadd, 144, []), some (.istore_n 2, 145, []), some (.iload_n 2, 146, []), some (.aload_n 0, 147, []), some (.getfield 113, 150, []), none, none, some (.if_icmp .ge 53, 153, [203]), none, none, some (.aload_n 0, 154, []), some (.getfield 27, 157, []), none, none, some (.iload_n 1, 158, []), some (.laload, 159, []), some (.aload_n 0, 160, []), some (.getfield 27, 163, []), none, none, some (.iload_n 2, 164, []), some (.laload, 165, []), some (.invokestatic 129, 168, []), none, none, some (.lstore_n 3, 169, []), some (.aload_n 0, 170, []), some (.getfield 27, 173, []), none, none, some (.iload_n 2, 174, []), some (.aload_n 0, 175, []), some (.getfield 27, 178, []), none, none, some (.iload_n 1, 179, []), some (.laload, 180, []), some (.lload_n 3, 181, []), some (.ldiv, 182, []), some (.aload_n 0, 183, []), some (.getfield 27, 186, []), none, none, some (.iload_n 2, 187, []), some (.laload, 188, []), some (.lmul, 189, []), some (.lastore, 190, []), some (.aload_n 0, 191, []), some (.getfield 27, 194, []), none, none, some (.iload_n 1, 195, []), some (.lload_n 3, 196, []), some (.lastore, 197, []), some (.iinc 2 1, 200, []), none, none]
theorem kh_94_1 : mm_all prog_6_method_31_code kt_94_1 100 = true := by decide +kernel
def kt_94_2 : List (Option mm_I) := [some (.goto (-55), 203, [145]), none, none, some (.iinc 1 1, 206, []), none, none, some (.goto (-73), 209, [133]), none, none, some (.return_, 210, [])]
theorem kh_94_2 : mm_all prog_6_method_31_code kt_94_2 200 = true := by decide +kernel
def kt_94 : List (Option mm_I) := kt_94_0 ++ (kt_94_1 ++ (kt_94_2))
theorem kh_94 : mm_all prog_6_method_31_code kt_94 0 = true := (mm_all_app _ _ _ kh_94_0 (mm_all_app _ _ _ kh_94_1 kh_94_2))
def kp_94 : List (Nat × mm_K) := [(24, .inl (4, 6, none)), (20, .inl (4, 5, none)), (113, .inl (4, 7, some .int)), (67, .inl (4, 3, some .int)), (71, .inl (4, 4, some .int)), (116, .inr (.inr (.inl (89, 1, some 4)))), (119, .inr (.inr (.inl (90, 1, some 4)))), (123, .inr (.inr (.inl (91, 1, some 4)))), (126, .inr (.inr (.inl (92, 1, some 4)))), (27, .inl (4, 8, none)), (129, .inr (.inr (.inl (93, 2, none))))]
def kq_94 : mm_M := (kt_94, kp_94, 5, none)
def kt_95 : List (Option mm_I) := [some (.iload_n 1, 1, []), some (.invokestatic 45, 4, []), none, none, some (.ifCond .eq 14, 7, [18]), none, none, some (.iload_n 2, 8, []), some (.invokestatic 57, 11, []), none, none, some (.ifCond .eq 7, 14, [18]), none, none, some (.iload_n 3, 15, []), some (.ifCond .ge 5, 18, [20]), none, none, some (.iconst (-1), 19, []), some (.ireturn, 20, []), some (.aload_n 0, 21, []), some (.iload_n 1, 22, []), some (.iload_n 2, 23, []), some (.iconst 1, 24, []), some (.iadd, 25, []), some (.invokevirtual 103, 28, []), none, none, some (.aload_n 0, 29, []), some (.invokevirtual 132, 32, []), none, none, some (.iload_n 3, 33, []), some (.istore 4, 35, []), none, some (.iconst 0, 36, []), some (.istore 5, 38, []), none, some (.iload 5, 40, []), none, some (.aload_n 0, 41, []), some (.getfield 113, 44, []), none, none, some (.if_icmp .ge 38, 47, [82]), none, none, some (.aload_n 0, 48, []), some (.getfield 27, 51, []), none, none, some (.iload 5, 53, []), none, some (.laload, 54, []), some (.lconst 1, 55, []), some (.lcmp, 56, []), some (.ifCond .le 20, 59, [76]), none, none, some (.iload 4, 61, []), none, some (.ifCond .ne 12, 64, [73]), none, none, some (.aload_n 0, 65, []), some (.getfield 27, 68, []), none, none, some (.iload 5, 70, []), none, some (.laload, 71, []), some (.l2i, 72, []), some (.ireturn, 73, []), some (.iinc 4 (-1), 76, []), none, none, some (.iinc 5 1, 79, []), none, none, some (.goto (-41), 82, [38]), none, none, some (.iconst 0, 83, []), some (.ireturn, 84, [])]
theorem kh_95 : mm_all prog_6_method_32_code kt_95 0 = true := by decide +kernel
def kp_95 : List (Nat × mm_K) := [(45, .inr (.inr (.inl (66, 1, none)))), (57, .inr (.inr (.inl (67, 1, none)))), (103, .inr (.inr (.inl (80, 2, some 4)))), (132, .inr (.inr (.inl (94, 0, some 4)))), (113, .inl (4, 7, some .int)), (27, .inl (4, 8, none))]
def kq_95 : mm_M := (kt_95, kp_95, 6, (some .int))
def kt_96 : List (Option mm_I) := [some (.aload_n 0, 1, []), some (.iload_n 1, 2, []), some (.iload_n 2, 3, []), some (.invokevirtual 135, 6, []), none, none, some (.ifCond .eq 15, 9, [21]), none, none, some (.iload_n 3, 10, []), some (.bipush (-9), 12, []), none, some (.if_icmp .lt 9, 15, [21]), none, none, some (.iload_n 3, 16, []), some (.bipush 9, 18, []), none, some (.if_icmp .le 5, 21, [23]), none, none, some (.iconst 0, 22, []), some (.ireturn, 23, []), some (.aload_n 0, 24, []), some (.getfield 13, 27, []), none, none, some (.sipush 256, 30, []), none, none, some (.iload_n 1, 31, []), some (.imul, 32, []), some (.iload_n 2, 33, []), some (.iadd, 34, []), some (.iload_n 3, 35, []), some (.iastore, 36, []), some (.iconst 1, 37, []), some (.ireturn, 38, [])]
theorem kh_96 : mm_all prog_6_method_33_code kt_96 0 = true := by decide +kernel
def kp_96 : List (Nat × mm_K) := [(135, .inr (.inr (.inl (68, 2, some 4)))), (13, .inl (4, 1, none))]
def kq_96 : mm_M := (kt_96, kp_96, 4, (some .boolean))
def kt_97 : List (Option mm_I) := [some (.aload_n 0, 1, []), some (.iload_n 1, 2, []), some (.iload_n 2, 3, []), some (.invokevirtual 135, 6, []), none, none, some (.ifCond .eq 18, 9, [24]), none, none, some (.aload_n 0, 10, []), some (.getfield 13, 13, []), none, none, some (.sipush 256, 16, []), none, none, some (.iload_n 1, 17, []), some (.imul, 18, []), some (.iload_n 2, 19, []), some (.iadd, 20, []), some (.iaload, 21, []), some (.goto 4, 24, [25]), none, none, some (.iconst 0, 25, []), some (.ireturn, 26, [])]
theorem kh_97 : mm_all prog_6_method_34_code kt_97 0 = true := by decide +kernel
def kp_97 : List (Nat × mm_K) := [(135, .inr (.inr (.inl (68, 2, some 4)))), (13, .inl (4, 1, none))]
def kq_97 : mm_M := (kt_97, kp_97, 3, (some .int))
def kt_98 : List (Option mm_I) := [some (.iconst 0, 1, []), some (.istore_n 3, 2, []), some (.aload_n 0, 3, []), some (.iload_n 1, 4, []), some (.iload_n 2, 5, []), some (.invokevirtual 135, 8, []), none, none, some (.ifCond .eq 63, 11, [71]), none, none, some (.iconst 1, 12, []), some (.istore 4, 14, []), none, some (.iload 4, 16, []), none, some (.sipush 256, 19, []), none, none, some (.if_icmp .ge 52, 22, [71]), none, none, some (.aload_n 0, 23, []), some (.getfield 7, 26, []), none, none, some (.sipush 256, 29, []), none, none, some (.iload_n 1, 30, []), some (.imul, 31, []), some (.iload 4, 33, []), none, some (.iadd, 34, []), some (.baload, 35, []), some (.ifCond .eq 28, 38, [63]), none, none, some (.iload_n 3, 39, []), some (.iload 4, 41, []), none, some (.iload_n 2, 42, []), some (.invokestatic 64, 45, []), none, none, some (.aload_n 0, 46, []), some (.getfield 13, 49, []), none, none, some (.sipush 256, 52, []), none, none, some (.iload_n 1, 53, []), some (.imul, 54, []), some (.iload 4, 56, []), none, some (.iadd, 57, []), some (.iaload, 58, []), some (.imul, 59, []), some (.iadd, 60, []), some (.goto 4, 63, [64]), none, none, some (.iload_n 3, 64, []), some (.istore_n 3, 65, []), some (.iinc 4 1, 68, []), none, none, some (.goto (-54), 71, [14]), none, none, some (.iload_n 3, 72, []), some (.ireturn, 73, [])]
theorem kh_98 : mm_all prog_6_method_35_code kt_98 0 = true := by decide +kernel
def kp_98 : List (Nat × mm_K) := [(135, .inr (.inr (.inl (68, 2, some 4)))), (7, .inl (4, 0, none)), (64, .inr (.inr (.inl (71, 2, none)))), (13, .inl (4, 1, none))]
def kq_98 : mm_M := (kt_98, kp_98, 5, (some .int))
def kt_99 : List (Option mm_I) := [some (.iconst 1, 1, []), some (.istore_n 3, 2, []), some (.iload_n 3, 3, []), some (.sipush 256, 6, []), none, none, some (.if_icmp .ge 43, 9, [49]), none, none, some (.aload_n 0, 10, []), some (.getfield 7, 13, []), none, none, some (.sipush 256, 16, []), none, none, some (.iload_n 1, 17, []), some (.imul, 18, []), some (.iload_n 3, 19, []), some (.iadd, 20, []), some (.baload, 21, []), some (.ifCond .eq 22, 24, [43]), none, none, some (.iload_n 3, 25, []), some (.invokestatic 49, 28, []), none, none, some (.iload_n 2, 29, []), some (.if_icmp .ne 14, 32, [43]), none, none, some (.aload_n 0, 33, []), some (.iload_n 1, 34, []), some (.iload_n 3, 35, []), some (.invokevirtual 139, 38, []), none, none, some (.ifCond .eq 5, 41, [43]), none, none, some (.iconst 0, 42, []), some (.ireturn, 43, []), some (.iinc 3 1, 46, []), none, none, some (.goto (-44), 49, [2]), none, none, some (.iconst 1, 50, []), some (.ireturn, 51, [])]
theorem kh_99 : mm_all prog_6_method_36_code kt_99 0 = true := by decide +kernel
def kp_99 : List (Nat × mm_K) := [(7, .inl (4, 0, none)), (49, .inr (.inr (.inl (65, 1, none)))), (139, .inr (.inr (.inl (98, 2, some 4))))]
def kq_99 : mm_M := (kt_99, kp_99, 4, (some .boolean))
def kt_100 : List (Option mm_I) := [some (.aload_n 0, 1, []), some (.invokevirtual 132, 4, []), none, none, some (.lconst 1, 5, []), some (.lstore_n 1, 6, []), some (.iconst 0, 7, []), some (.istore_n 3, 8, []), some (.iload_n 3, 9, []), some (.aload_n 0, 10, []), some (.getfield 113, 13, []), none, none, some (.if_icmp .ge 18, 16, [31]), none, none, some (.lload_n 1, 17, []), some (.aload_n 0, 18, []), some (.getfield 27, 21, []), none, none, some (.iload_n 3, 22, []), some (.laload, 23, []), some (.lmul, 24, []), some (.lstore_n 1, 25, []), some (.iinc 3 1, 28, []), none, none, some (.goto (-20), 31, [8]), none, none, some (.lload_n 1, 32, []), some (.lreturn, 33, [])]
theorem kh_100 : mm_all prog_6_method_37_code kt_100 0 = true := by decide +kernel
def kp_100 : List (Nat × mm_K) := [(132, .inr (.inr (.inl (94, 0, some 4)))), (113, .inl (4, 7, some .int)), (27, .inl (4, 8, none))]
def kq_100 : mm_M := (kt_100, kp_100, 4, (some .long))
def kt_101 : List (Option mm_I) := [some (.iload_n 1, 1, []), some (.invokestatic 45, 4, []), none, none, some (.ifCond .eq 10, 7, [14]), none, none, some (.iload_n 2, 8, []), some (.invokestatic 57, 11, []), none, none, some (.ifCond .ne 5, 14, [16]), none, none, some (.iconst (-1), 15, []), some (.ireturn, 16, []), some (.aload_n 0, 17, []), some (.iload_n 1, 18, []), some (.iload_n 2, 19, []), some (.invokevirtual 142, 22, []), none, none, some (.ifCond .ne 6, 25, [28]), none, none, some (.bipush (-3), 27, []), none, some (.ireturn, 28, []), some (.aload_n 0, 29, []), some (.iload_n 1, 30, []), some (.iload_n 2, 31, []), some (.iconst 1, 32, []), some (.iadd, 33, []), some (.invokevirtual 103, 36, []), none, none, some (.aload_n 0, 37, []), some (.invokevirtual 145, 40, []), none, none, some (.lstore_n 3, 41, []), some (.aload_n 0, 42, []), some (.getfield 113, 45, []), none, none, some (.istore 5, 47, []), none, some (.iconst 0, 48, []), some (.istore 6, 50, []), none, some (.iconst 1, 51, []), some (.istore 7, 53, []), none, some (.iload 7, 55, []), none, some (.sipush 256, 58, []), none, none, some (.if_icmp .ge 68, 61, [126]), none, none, some (.aload_n 0, 62, []), some (.getfield 7, 65, []), none, none, some (.sipush 256, 68, []), none, none, some (.iload_n 1, 69, []), some (.imul, 70, []), some (.iload 7, 72, []), none, some (.iadd, 73, []), some (.baload, 74, []), some (.ifCond .eq 46, 77, [120]), none, none, some (.iload 7, 79, []), none, some (.invokestatic 49, 82, []), none, none, some (.iload_n 2, 83, []), some (.iconst 1, 84, []), some (.iadd, 85, []), some (.if_icmp .ne 35, 88, [120]), none, none, some (.aload_n 0, 89, []), some (.getfield 20, 92, []), none, none, some (.bipush 48, 94, []), none, some (.iload 6, 96, []), none, some (.imul, 97, []), some (.aload_n 0, 98, []), some (.getfield 71, 101, []), none, none, some (.iadd, 102, []), some (.aload_n 0, 103, []), some (.getfield 13, 106, []), none, none, some (.sipush 256, 109, []), none, none, some (.iload_n 1, 110, []), some (.imul, 111, []), some (.iload 7, 113, []), none, some (.iadd, 114, []), some (.iaload, 115, []), some (.i2l, 116, []), some (.lastore, 117, []), some (.iinc 6 1, 120, []), none, none, some (.iinc 7 1, 123, []), none, none, some (.goto (-70), 126, [53]), none, none, some (.aload_n 0, 127, []), some (.dup, 128, []), some (.getfield 71, 131, []), none, none, some (.iconst 1, 132, []), some (.iadd, 133, []), some (.putfield 71, 136, []), none, none, some (.aload_n 0, 137, []), some (.invokevirtual 145, 140, []), none, none, some (.lstore 7, 142, []), none, some (.aload_n 0, 143, []), some (.getfield 113, 146, []), none, none, some (.iload 5, 148, []), none, some (.if_icmp .le 7, 151, [155]), none, none, some (.iconst 0, 152, []), some (.goto 8, 155, [160]), none, none, some (.lload_n 3, 156, []), some (.lload 7, 158, []), none, some (.ldiv, 159, []), some (.l2i, 160, []), some (.ireturn, 161, [])]
theorem kh_101 : mm_all prog_6_method_38_code kt_101 0 = true := by decide +kernel
def kp_101 : List (Nat × mm_K) := [(45, .inr (.inr (.inl (66, 1, none)))), (57, .inr (.inr (.inl (67, 1, none)))), (142, .inr (.inr (.inl (99, 2, some 4)))), (103, .inr (.inr (.inl (80, 2, some 4)))), (145, .inr (.inr (.inl (100, 0, some 4)))), (113, .inl (4, 7, some .int)), (7, .inl (4, 0, none)), (49, .inr (.inr (.inl (65, 1, none)))), (20, .inl (4, 5, none)), (71, .inl (4, 4, some .int)), (13, .inl (4, 1, none))]
def kq_101 : mm_M := (kt_101, kp_101, 9, (some .int))
def kt_102 : List (Option mm_I) := [some (.iload_n 1, 1, []), some (.ifCond .lt 19, 4, [20]), none, none, some (.iload_n 1, 5, []), some (.bipush 7, 7, []), none, some (.if_icmp .gt 13, 10, [20]), none, none, some (.iload_n 2, 11, []), some (.ifCond .lt 9, 14, [20]), none, none, some (.iload_n 2, 15, []), some (.bipush 7, 17, []), none, some (.if_icmp .le 5, 20, [22]), none, none, some (.iconst 0, 21, []), some (.ireturn, 22, []), some (.aload_n 0, 23, []), some (.getfield 17, 26, []), none, none, some (.iload_n 1, 27, []), some (.iload_n 2, 28, []), some (.iastore, 29, []), some (.iconst 1, 30, []), some (.ireturn, 31, [])]
theorem kh_102 : mm_all prog_6_method_39_code kt_102 0 = true := by decide +kernel
def kp_102 : List (Nat × mm_K) := [(17, .inl (4, 2, none))]
def kq_102 : mm_M := (kt_102, kp_102, 3, (some .boolean))
def kt_103 : List (Option mm_I) := [some (.iconst 0, 1, []), some (.istore_n 2, 2, []), some (.iconst 0, 3, []), some (.istore_n 3, 4, []), some (.iload_n 3, 5, []), some (.bipush 8, 7, []), none, some (.if_icmp .ge 33, 10, [40]), none, none, some (.iload_n 1, 11, []), some (.iload_n 3, 12, []), some (.ishr, 13, []), some (.iconst 1, 14, []), some (.iand, 15, []), some (.iconst 1, 16, []), some (.if_icmp .ne 16, 19, [32]), none, none, some (.iload_n 2, 20, []), some (.iconst 1, 21, []), some (.aload_n 0, 22, []), some (.getfield 17, 25, []), none, none, some (.iload_n 3, 26, []), some (.iaload, 27, []), some (.ishl, 28, []), some (.ior, 29, []), some (.goto 4, 32, [33]), none, none, some (.iload_n 2, 33, []), some (.istore_n 2, 34, []), some (.iinc 3 1, 37, []), none, none, some (.goto (-33), 40, [4]), none, none, some (.iload_n 2, 41, []), some (.ireturn, 42, [])]
theorem kh_103 : mm_all prog_6_method_40_code kt_103 0 = true := by decide +kernel
def kp_103 : List (Nat × mm_K) := [(17, .inl (4, 2, none))]
def kq_103 : mm_M := (kt_103, kp_103, 4, (some .int))
def kt_104 : List (Option mm_I) := [some (.iconst 1, 1, []), some (.istore_n 1, 2, []), some (.iload_n 1, 3, []), some (.sipush 256, 6, []), none, none, some (.if_icmp .ge 37, 9, [43]), none, none, some (.aload_n 0, 10, []), some (.getfield 7, 13, []), none, none, some (.iload_n 1, 14, []), some (.baload, 15, []), some (.ifCond .eq 22, 18, [37]), none, none, some (.aload_n 0, 19, []), some (.getfield 7, 22, []), none, none, some (.sipush 256, 25, []), none, none, some (.aload_n 0, 26, []), some (.iload_n 1, 27, []), some (.invokevirtual 149, 30, []), none, none, some (.iadd, 31, []), some (.baload, 32, []), some (.ifCond .ne 5, 35, [37]), none, none, some (.iconst 0, 36, []), some (.ireturn, 37, []), some (.iinc 1 1, 40, []), none, none, some (.goto (-38), 43, [2]), none, none, some (.iconst 1, 44, []), some (.ireturn, 45, [])]
theorem kh_104 : mm_all prog_6_method_41_code kt_104 0 = true := by decide +kernel
def kp_104 : List (Nat × mm_K) := [(7, .inl (4, 0, none)), (149, .inr (.inr (.inl (103, 1, some 4))))]
def kq_104 : mm_M := (kt_104, kp_104, 2, (some .boolean))
def kt_105 : List (Option mm_I) := [some (.iload_n 1, 1, []), some (.invokestatic 49, 4, []), none, none, some (.iload_n 2, 5, []), some (.invokestatic 49, 8, []), none, none, some (.if_icmp .ne 12, 11, [20]), none, none, some (.aload_n 0, 12, []), some (.iload_n 1, 13, []), some (.invokevirtual 149, 16, []), none, none, some (.iload_n 2, 17, []), some (.if_icmp .eq 5, 20, [22]), none, none, some (.iconst 0, 21, []), some (.ireturn, 22, []), some (.iconst 1, 23, []), some (.istore_n 3, 24, []), some (.iconst 0, 25, []), some (.istore 4, 27, []), none, some (.iload 4, 29, []), none, some (.bipush 8, 31, []), none, some (.if_icmp .ge 84, 34, [115]), none, none, some (.iload 4, 36, []), none, some (.iconst 1, 37, []), some (.iadd, 38, []), some (.istore 5, 40, []), none, some (.iload 5, 42, []), none, some (.bipush 8, 44, []), none, some (.if_icmp .ge 65, 47, [109]), none, none, some (.iload_n 1, 48, []), some (.iload 4, 50, []), none, some (.ishr, 51, []), some (.iconst 1, 52, []), some (.iand, 53, []), some (.iconst 1, 54, []), some (.if_icmp .ne 17, 57, [71]), none, none, some (.iload_n 1, 58, []), some (.iload 5, 60, []), none, some (.ishr, 61, []), some (.iconst 1, 62, []), some (.iand, 63, []), some (.iconst 1, 64, []), some (.if_icmp .ne 7, 67, [71]), none, none, some (.iconst 1, 68, []), some (.goto 4, 71, [72]), none, none, some (.iconst 0, 72, []), some (.istore 6, 74, []), none, some (.iload 6, 76, []), none, some (.ifCond .eq 25, 79, [101]), none, none, some (.aload_n 0, 80, []), some (.getfield 17, 83, []), none, none, some (.iload 4, 85, []), none, some (.iaload, 86, []), some (.aload_n 0, 87, []), some (.getfield 17, 90, []), none, none, some (.iload 5, 92, []), none, some (.iaload, 93, []), some (.if_icmp .le 8, 96, [101]), none, none, some (.iload_n 3, 97, []), some (.ineg, 98, []), some (.goto 4, 101, [102]), none, none, some (.iload_n 3, 102, []), some (.istore_n 3, 103, []), some (.iinc 5 1, 106, []), none, none, some (.goto (-66), 109, [40]), none, none, some (.iinc 4 1, 112, []), none, none, some (.goto (-85), 115, [27]), none, none, some (.iload_n 3, 116, []), some (.ireturn, 117, [])]
theorem kh_105 : mm_all prog_6_method_42_code kt_105 0 = true := by decide +kernel
def kp_105 : List (Nat × mm_K) := [(49, .inr (.inr (.inl (65, 1, none)))), (149, .inr (.inr (.inl (103, 1, some 4)))), (17, .inl (4, 2, none))]
def kq_105 : mm_M := (kt_105, kp_105, 7, (some .int))
def kt_106 : List (Option mm_I) := [some (.aload_n 0, 1, []), some (.iconst 1, 2, []), some (.iload_n 1, 3, []), some (.invokevirtual 135, 6, []), none, none, some (.ifCond .eq 10, 9, [16]), none, none, some (.aload_n 0, 10, []), some (.invokevirtual 152, 13, []), none, none, some (.ifCond .ne 5, 16, [18]), none, none, some (.iconst 0, 17, []), some (.ireturn, 18, []), some (.iconst 0, 19, []), some (.istore_n 2, 20, []), some (.iconst 1, 21, []), some (.istore_n 3, 22, []), some (.iload_n 3, 23, []), some (.sipush 256, 26, []), none, none, some (.if_icmp .ge 38, 29, [64]), none, none, some (.aload_n 0, 30, []), some (.getfield 7, 33, []), none, none, some (.iload_n 3, 34, []), some (.baload, 35, []), some (.ifCond .eq 21, 38, [56]), none, none, some (.iload_n 2, 39, []), some (.aload_n 0, 40, []), some (.iload_n 3, 41, []), some (.iload_n 1, 42, []), some (.invokevirtual 156, 45, []), none, none, some (.aload_n 0, 46, []), some (.getfield 13, 49, []), none, none, some (.iload_n 3, 50, []), some (.iaload, 51, []), some (.imul, 52, []), some (.iadd, 53, []), some (.goto 4, 56, [57]), none, none, some (.iload_n 2, 57, []), some (.istore_n 2, 58, []), some (.iinc 3 1, 61, []), none, none, some (.goto (-39), 64, [22]), none, none, some (.iload_n 2, 65, []), some (.ireturn, 66, [])]
theorem kh_106 : mm_all prog_6_method_43_code kt_106 0 = true := by decide +kernel
def kp_106 : List (Nat × mm_K) := [(135, .inr (.inr (.inl (68, 2, some 4)))), (152, .inr (.inr (.inl (104, 0, some 4)))), (7, .inl (4, 0, none)), (156, .inr (.inr (.inl (105, 2, some 4)))), (13, .inl (4, 1, none))]
def kq_106 : mm_M := (kt_106, kp_106, 4, (some .int))
def kt_107 : List (Option mm_I) := [some (.iload_n 2, 1, []), some (.istore_n 3, 2, []), some (.iconst 1, 3, []), some (.istore 4, 5, []), none, some (.iload 4, 7, []), none, some (.sipush 256, 10, []), none, none, some (.if_icmp .ge 102, 13, [112]), none, none, some (.aload_n 0, 14, []), some (.getfield 7, 17, []), none, none, some (.sipush 256, 20, []), none, none, some (.iload 4, 22, []), none, some (.iadd, 23, []), some (.baload, 24, []), some (.ifCond .eq 82, 27, [106]), none, none, some (.iload 4, 29, []), none, some (.invokestatic 49, 32, []), none, none, some (.iload_n 1, 33, []), some (.iconst 1, 34, []), some (.iadd, 35, []), some (.if_icmp .ne 71, 38, [106]), none, none, some (.iconst 0, 39, []), some (.istore 5, 41, []), none, some (.iconst 1, 42, []), some (.istore 6, 44, []), none, some (.iload 6, 46, []), none, some (.sipush 256, 49, []), none, none, some (.if_icmp .ge 54, 52, [103]), none, none, some (.aload_n 0, 53, []), some (.getfield 7, 56, []), none, none, some (.iload 6, 58, []), none, some (.baload, 59, []), some (.ifCond .eq 38, 62, [97]), none, none, some (.iload 6, 64, []), none, some (.invokestatic 49, 67, []), none, none, some (.iload_n 1, 68, []), some (.iconst 1, 69, []), some (.iadd, 70, []), some (.if_icmp .ne 27, 73, [97]), none, none, some (.aload_n 0, 74, []), some (.getfield 20, 77, []), none, none, some (.bipush 48, 79, []), none, some (.iload_n 3, 80, []), some (.imul, 81, []), some (.iload 5, 83, []), none, some (.iadd, 84, []), some (.aload_n 0, 85, []), some (.iload 6, 87, []), none, some (.iload 4, 89, []), none, some (.invokevirtual 156, 92, []), none, none, some (.i2l, 93, []), some (.lastore, 94, []), some (.iinc 5 1, 97, []), none, none, some (.iinc 6 1, 100, []), none, none, some (.goto (-56), 103, [44]), none, none, some (.iinc 3 1, 106, []), none, none, some (.iinc 4 1, 109, []), none, none, some (.goto (-104), 112, [5]), none, none, some (.return_, 113, [])]
theorem kh_107 : mm_all prog_6_method_44_code kt_107 0 = true := by decide +kernel
def kp_107 : List (Nat × mm_K) := [(7, .inl (4, 0, none)), (49, .inr (.inr (.inl (65, 1, none)))), (20, .inl (4, 5, none)), (156, .inr (.inr (.inl (105, 2, some 4))))]
def kq_107 : mm_M := (kt_107, kp_107, 7, none)
def kt_108 : List (Option mm_I) := [some (.iload_n 1, 1, []), some (.invokestatic 57, 4, []), none, none, some (.ifCond .ne 5, 7, [9]), none, none, some (.iconst (-1), 8, []), some (.ireturn, 9, []), some (.aload_n 0, 10, []), some (.invokevirtual 152, 13, []), none, none, some (.ifCond .ne 6, 16, [19]), none, none, some (.bipush (-4), 18, []), none, some (.ireturn, 19, []), some (.aload_n 0, 20, []), some (.iconst 0, 21, []), some (.iload_n 1, 22, []), some (.iconst 1, 23, []), some (.isub, 24, []), some (.invokevirtual 53, 27, []), none, none, some (.istore_n 2, 28, []), some (.aload_n 0, 29, []), some (.iconst 0, 30, []), some (.iload_n 1, 31, []), some (.invokevirtual 53, 34, []), none, none, some (.istore_n 3, 35, []), some (.aload_n 0, 36, []), some (.iconst 0, 37, []), some (.iload_n 1, 38, []), some (.invokevirtual 110, 41, []), none, none, some (.aload_n 0, 42, []), some (.iconst 1, 43, []), some (.iload_n 1, 44, []), some (.iconst 1, 45, []), some (.iadd, 46, []), some (.invokevirtual 110, 49, []), none, none, some (.iadd, 50, []), some (.istore 4, 52, []), none, some (.aload_n 0, 53, []), some (.iload_n 2, 54, []), some (.aload_n 0, 55, []), some (.iconst 1, 56, []), some (.iload_n 1, 57, []), some (.invokevirtual 53, 60, []), none, none, some (.iadd, 61, []), some (.iload_n 3, 62, []), some (.aload_n 0, 63, []), some (.iconst 1, 64, []), some (.iload_n 1, 65, []), some (.iconst 1, 66, []), some (.iadd, 67, []), some (.invokevirtual 53, 70, []), none, none, some (.iadd, 71, []), some (.invokevirtual 74, 74, []), none, none, some (.aload_n 0, 75, []), some (.iconst 0, 76, []), some (.iload_n 1, 77, []), some (.iconst 0, 78, []), some (.iconst 0, 79, []), some (.invokevirtual 78, 82, []), none, none, some (.aload_n 0, 83, []), some (.iload_n 1, 84, []), some (.iload_n 2, 85, []), some (.invokevirtual 159, 88, []), none, none, some (.aload_n 0, 89, []), some (.iconst 1, 90, []), some (.iload_n 1, 91, []), some (.iconst 1, 92, []), some (.iadd, 93, []), some (.iload_n 2, 94, []), some (.iload_n 3, 95, []), some (.invokevirtual 78, 98, []), none, none, some (.aload_n 0, 99, []), some (.invokevirtual 106, 102, []), none, none, some (.iload 4, 104, []), none, some (.isub, 105, []), some (.ireturn, 106, [])]
theorem kh_108 : mm_all prog_6_method_45_code kt_108 0 = true := by decide +kernel
def kp_108 : List (Nat × mm_K) := [(57, .inr (.inr (.inl (67, 1, none)))), (152, .inr (.inr (.inl (104, 0, some 4)))), (53, .inr (.inr (.inl (69, 2, some 4)))), (110, .inr (.inr (.inl (86, 2, some 4)))), (74, .inr (.inr (.inl (78, 2, some 4)))), (78, .inr (.inr (.inl (79, 4, some 4)))), (159, .inr (.inr (.inl (107, 2, some 4)))), (106, .inr (.inr (.inl (85, 0, some 4))))]
def kq_108 : mm_M := (kt_108, kp_108, 5, (some .int))
end
section
def kt_109 : List (Option mm_I) := [some (.iconst 0, 1, []), some (.istore_n 3, 2, []), some (.iconst 1, 3, []), some (.istore 4, 5, []), none, some (.iload 4, 7, []), none, some (.iload_n 2, 8, []), some (.if_icmp .ge 45, 11, [53]), none, none, some (.aload_n 0, 12, []), some (.getfield 7, 15, []), none, none, some (.sipush 256, 18, []), none, none, some (.iload_n 1, 19, []), some (.imul, 20, []), some (.iload 4, 22, []), none, some (.iadd, 23, []), some (.baload, 24, []), some (.ifCond .eq 21, 27, [45]), none, none, some (.iload 4, 29, []), none, some (.invokestatic 49, 32, []), none, none, some (.iload_n 2, 33, []), some (.invokestatic 49, 36, []), none, none, some (.if_icmp .ne 9, 39, [45]), none, none, some (.iload_n 3, 40, []), some (.iconst 1, 41, []), some (.iadd, 42, []), some (.goto 4, 45, [46]), none, none, some (.iload_n 3, 46, []), some (.istore_n 3, 47, []), some (.iinc 4 1, 50, []), none, none, some (.goto (-45), 53, [5]), none, none, some (.iload_n 3, 54, []), some (.ireturn, 55, [])]
theorem kh_109 : mm_all prog_6_method_46_code kt_109 0 = true := by decide +kernel
def kp_109 : List (Nat × mm_K) := [(7, .inl (4, 0, none)), (49, .inr (.inr (.inl (65, 1, none))))]
def kq_109 : mm_M := (kt_109, kp_109, 5, (some .int))
def kt_110 : List (Option mm_I) := [some (.iload_n 2, 1, []), some (.istore_n 3, 2, []), some (.bipush 23, 4, []), none, some (.istore 4, 6, []), none, some (.iload 4, 8, []), none, some (.ifCond .lt 51, 11, [59]), none, none, some (.iload_n 3, 12, []), some (.iload 4, 14, []), none, some (.ishr, 15, []), some (.iconst 1, 16, []), some (.iand, 17, []), some (.iconst 1, 18, []), some (.if_icmp .ne 35, 21, [53]), none, none, some (.aload_n 0, 22, []), some (.getfield 33, 25, []), none, none, some (.iload 4, 27, []), none, some (.iaload, 28, []), some (.ifCond .ne 15, 31, [43]), none, none, some (.aload_n 0, 32, []), some (.getfield 33, 35, []), none, none, some (.iload 4, 37, []), none, some (.iload_n 3, 38, []), some (.iastore, 39, []), some (.iload_n 1, 40, []), some (.iconst 1, 41, []), some (.iadd, 42, []), some (.ireturn, 43, []), some (.iload_n 3, 44, []), some (.aload_n 0, 45, []), some (.getfield 33, 48, []), none, none, some (.iload 4, 50, []), none, some (.iaload, 51, []), some (.ixor, 52, []), some (.istore_n 3, 53, []), some (.iinc 4 (-1), 56, []), none, none, some (.goto (-50), 59, [6]), none, none, some (.iload_n 1, 60, []), some (.ireturn, 61, [])]
theorem kh_110 : mm_all prog_6_method_47_code kt_110 0 = true := by decide +kernel
def kp_110 : List (Nat × mm_K) := [(33, .inl (4, 10, none))]
def kq_110 : mm_M := (kt_110, kp_110, 5, (some .int))
def kt_111 : List (Option mm_I) := [some (.aload_n 0, 1, []), some (.iconst 0, 2, []), some (.putfield 162, 5, []), none, none, some (.iconst 1, 6, []), some (.istore_n 2, 7, []), some (.iload_n 2, 8, []), some (.sipush 256, 11, []), none, none, some (.if_icmp .ge 131, 14, [142]), none, none, some (.aload_n 0, 15, []), some (.getfield 7, 18, []), none, none, some (.sipush 256, 21, []), none, none, some (.iload_n 1, 22, []), some (.imul, 23, []), some (.iload_n 2, 24, []), some (.iadd, 25, []), some (.baload, 26, []), some (.ifCond .eq 110, 29, [136]), none, none, some (.iload_n 2, 30, []), some (.invokestatic 49, 33, []), none, none, some (.iconst 3, 34, []), some (.if_icmp .ne 102, 37, [136]), none, none, some (.iconst 1, 38, []), some (.istore_n 3, 39, []), some (.iload_n 2, 40, []), some (.iload_n 3, 41, []), some (.iand, 42, []), some (.ifCond .ne 10, 45, [52]), none, none, some (.iconst 2, 46, []), some (.iload_n 3, 47, []), some (.imul, 48, []), some (.istore_n 3, 49, []), some (.goto (-10), 52, [39]), none, none, some (.sipush 128, 55, []), none, none, some (.istore 4, 57, []), none, some (.iload_n 2, 58, []), some (.iload 4, 60, []), none, some (.iand, 61, []), some (.ifCond .ne 12, 64, [73]), none, none, some (.iload 4, 66, []), none, some (.iconst 2, 67, []), some (.idiv, 68, []), some (.istore 4, 70, []), none, some (.goto (-13), 73, [57]), none, none, some (.aload_n 0, 74, []), some (.getfield 36, 77, []), none, none, some (.aload_n 0, 78, []), some (.getfield 162, 81, []), none, none, some (.aload_n 0, 82, []), some (.iload_n 1, 83, []), some (.iload_n 2, 84, []), some (.iload 4, 86, []), none, some (.isub, 87, []), some (.invokevirtual 165, 90, []), none, none, some (.iastore, 91, []), some (.aload_n 0, 92, []), some (.getfield 39, 95, []), none, none, some (.aload_n 0, 96, []), some (.getfield 162, 99, []), none, none, some (.aload_n 0, 100, []), some (.iload_n 1, 101, []), some (.iload_n 2, 102, []), some (.iload_n 3, 103, []), some (.isub, 104, []), some (.invokevirtual 165, 107, []), none, none, some (.iastore, 108, []), some (.aload_n 0, 109, []), some (.getfield 42, 112, []), none, none, some (.aload_n 0, 113, []), some (.getfield 162, 116, []), none, none, some (.aload_n 0, 117, []), some (.iload_n 1, 118, []), some (.iload_n 3, 119, []), some (.iload 4, 121, []), none, some (.iadd, 122, []), some (.invokevirtual 165, 125, []), none, none, some (.iastore, 126, []), some (.aload_n 0, 127, []), some (.dup, 128, []), some (.getfield 162, 131, []), none, none, some (.iconst 1, 132, []), some (.iadd, 133, []), some (.putfield 162, 136, []), none, none, some (.iinc 2 1, 139, []), none, none, some (.goto (-132), 142, [7]), none, none, some (.return_, 143, [])]
theorem kh_111 : mm_all prog_6_method_48_code kt_111 0 = true := by decide +kernel
def kp_111 : List (Nat × mm_K) := [(162, .inl (4, 11, some .int)), (7, .inl (4, 0, none)), (49, .inr (.inr (.inl (65, 1, none)))), (36, .inl (4, 12, none)), (165, .inr (.inr (.inl (109, 2, some 4)))), (39, .inl (4, 13, none)), (42, .inl (4, 14, none))]
def kq_111 : mm_M := (kt_111, kp_111, 5, none)
def kt_112 : List (Option mm_I) := [some (.iconst 0, 1, []), some (.istore_n 2, 2, []), some (.iconst 0, 3, []), some (.istore_n 3, 4, []), some (.iload_n 3, 5, []), some (.aload_n 0, 6, []), some (.getfield 162, 9, []), none, none, some (.if_icmp .ge 46, 12, [55]), none, none, some (.iload_n 1, 13, []), some (.aload_n 0, 14, []), some (.getfield 36, 17, []), none, none, some (.iload_n 3, 18, []), some (.iaload, 19, []), some (.ishr, 20, []), some (.iload_n 1, 21, []), some (.aload_n 0, 22, []), some (.getfield 39, 25, []), none, none, some (.iload_n 3, 26, []), some (.iaload, 27, []), some (.ishr, 28, []), some (.iadd, 29, []), some (.iload_n 1, 30, []), some (.aload_n 0, 31, []), some (.getfield 42, 34, []), none, none, some (.iload_n 3, 35, []), some (.iaload, 36, []), some (.ishr, 37, []), some (.iadd, 38, []), some (.iconst 1, 39, []), some (.iand, 40, []), some (.istore 4, 42, []), none, some (.iload_n 2, 43, []), some (.iload 4, 45, []), none, some (.iload_n 3, 46, []), some (.ishl, 47, []), some (.ior, 48, []), some (.istore_n 2, 49, []), some (.iinc 3 1, 52, []), none, none, some (.goto (-48), 55, [4]), none, none, some (.iload_n 2, 56, []), some (.ireturn, 57, [])]
theorem kh_112 : mm_all prog_6_method_49_code kt_112 0 = true := by decide +kernel
def kp_112 : List (Nat × mm_K) := [(162, .inl (4, 11, some .int)), (36, .inl (4, 12, none)), (39, .inl (4, 13, none)), (42, .inl (4, 14, none))]
def kq_112 : mm_M := (kt_112, kp_112, 5, (some .int))
def kt_113 : List (Option mm_I) := [some (.iconst 0, 1, []), some (.istore_n 2, 2, []), some (.iload_n 2, 3, []), some (.iload_n 1, 4, []), some (.if_icmp .ge 18, 7, [22]), none, none, some (.aload_n 0, 8, []), some (.getfield 30, 11, []), none, none, some (.iload_n 2, 12, []), some (.iconst 1, 13, []), some (.iload_n 2, 14, []), some (.ishl, 15, []), some (.iastore, 16, []), some (.iinc 2 1, 19, []), none, none, some (.goto (-17), 22, [2]), none, none, some (.iload_n 1, 23, []), some (.istore_n 2, 24, []), some (.iconst 0, 25, []), some (.istore_n 3, 26, []), some (.iload_n 3, 27, []), some (.aload_n 0, 28, []), some (.getfield 162, 31, []), none, none, some (.if_icmp .ge 125, 34, [156]), none, none, some (.iconst (-1), 35, []), some (.istore 4, 37, []), none, some (.iconst 0, 38, []), some (.istore 5, 40, []), none, some (.iload 5, 42, []), none, some (.iload_n 2, 43, []), some (.if_icmp .ge 86, 46, [129]), none, none, some (.aload_n 0, 47, []), some (.aload_n 0, 48, []), some (.getfield 30, 51, []), none, none, some (.iload 5, 53, []), none, some (.iaload, 54, []), some (.invokevirtual 168, 57, []), none, none, some (.iload_n 3, 58, []), some (.ishr, 59, []), some (.iconst 1, 60, []), some (.iand, 61, []), some (.iconst 1, 62, []), some (.if_icmp .ne 7, 65, [69]), none, none, some (.iconst 1, 66, []), some (.goto 4, 69, [70]), none, none, some (.iconst 0, 70, []), some (.istore 6, 72, []), none, some (.iload 6, 74, []), none, some (.ifCond .eq 30, 77, [104]), none, none, some (.iload 4, 79, []), none, some (.ifCond .lt 25, 82, [104]), none, none, some (.aload_n 0, 83, []), some (.getfield 30, 86, []), none, none, some (.iload 5, 88, []), none, some (.aload_n 0, 89, []), some (.getfield 30, 92, []), none, none, some (.iload 5, 94, []), none, some (.iaload, 95, []), some (.aload_n 0, 96, []), some (.getfield 30, 99, []), none, none, some (.iload 4, 101, []), none, some (.iaload, 102, []), some (.ixor, 103, []), some (.iastore, 104, []), some (.iload 6, 106, []), none, some (.ifCond .eq 13, 109, [119]), none, none, some (.iload 4, 111, []), none, some (.ifCond .ge 8, 114, [119]), none, none, some (.iload 5, 116, []), none, some (.goto 5, 119, [121]), none, none, some (.iload 4, 121, []), none, some (.istore 4, 123, []), none, some (.iinc 5 1, 126, []), none, none, some (.goto (-86), 129, [40]), none, none, some (.iload 4, 131, []), none, some (.ifCond .lt 19, 134, [150]), none, none, some (.iinc 2 (-1), 137, []), none, none, some (.aload_n 0, 138, []), some (.getfield 30, 141, []), none, none, some (.iload 4, 143, []), none, some (.aload_n 0, 144, []), some (.getfield 30, 147, []), none, none, some (.iload_n 2, 148, []), some (.iaload, 149, []), some (.iastore, 150, []), some (.iinc 3 1, 153, []), none, none, some (.goto (-127), 156, [26]), none, none, some (.iload_n 2, 157, []), some (.ireturn, 158, [])]
theorem kh_113 : mm_all prog_6_method_50_code kt_113 0 = true := by decide +kernel
def kp_113 : List (Nat × mm_K) := [(30, .inl (4, 9, none)), (162, .inl (4, 11, some .int)), (168, .inr (.inr (.inl (112, 1, some 4))))]
def kq_113 : mm_M := (kt_113, kp_113, 7, (some .int))
def kt_114 : List (Option mm_I) := [some (.iconst 0, 1, []), some (.istore_n 3, 2, []), some (.iconst 0, 3, []), some (.istore 4, 5, []), none, some (.iload 4, 7, []), none, some (.aload_n 0, 8, []), some (.getfield 162, 11, []), none, none, some (.if_icmp .ge 36, 14, [47]), none, none, some (.iload_n 3, 15, []), some (.iload_n 1, 16, []), some (.aload_n 0, 17, []), some (.getfield 36, 20, []), none, none, some (.iload 4, 22, []), none, some (.iaload, 23, []), some (.ishr, 24, []), some (.iload_n 2, 25, []), some (.aload_n 0, 26, []), some (.getfield 39, 29, []), none, none, some (.iload 4, 31, []), none, some (.iaload, 32, []), some (.ishr, 33, []), some (.iand, 34, []), some (.iconst 1, 35, []), some (.iand, 36, []), some (.iload 4, 38, []), none, some (.ishl, 39, []), some (.ior, 40, []), some (.istore_n 3, 41, []), some (.iinc 4 1, 44, []), none, none, some (.goto (-39), 47, [5]), none, none, some (.iload_n 3, 48, []), some (.ireturn, 49, [])]
theorem kh_114 : mm_all prog_6_method_51_code kt_114 0 = true := by decide +kernel
def kp_114 : List (Nat × mm_K) := [(162, .inl (4, 11, some .int)), (36, .inl (4, 12, none)), (39, .inl (4, 13, none))]
def kq_114 : mm_M := (kt_114, kp_114, 5, (some .int))
def kt_115 : List (Option mm_I) := [some (.iload_n 1, 1, []), some (.invokestatic 45, 4, []), none, none, some (.ifCond .ne 5, 7, [9]), none, none, some (.iconst (-1), 8, []), some (.ireturn, 9, []), some (.iconst 0, 10, []), some (.istore_n 2, 11, []), some (.iload_n 2, 12, []), some (.bipush 24, 14, []), none, some (.if_icmp .ge 16, 17, [30]), none, none, some (.aload_n 0, 18, []), some (.getfield 33, 21, []), none, none, some (.iload_n 2, 22, []), some (.iconst 0, 23, []), some (.iastore, 24, []), some (.iinc 2 1, 27, []), none, none, some (.goto (-16), 30, [11]), none, none, some (.aload_n 0, 31, []), some (.iload_n 1, 32, []), some (.invokevirtual 171, 35, []), none, none, some (.iconst 0, 36, []), some (.istore_n 2, 37, []), some (.aload_n 0, 38, []), some (.iload_n 1, 39, []), some (.iconst 1, 40, []), some (.invokevirtual 53, 43, []), none, none, some (.istore_n 3, 44, []), some (.iconst 0, 45, []), some (.istore 4, 47, []), none, some (.iload 4, 49, []), none, some (.iload_n 3, 50, []), some (.if_icmp .ge 23, 53, [73]), none, none, some (.aload_n 0, 54, []), some (.iload_n 2, 55, []), some (.aload_n 0, 56, []), some (.iconst 1, 57, []), some (.iload 4, 59, []), none, some (.ishl, 60, []), some (.invokevirtual 168, 63, []), none, none, some (.invokevirtual 174, 66, []), none, none, some (.istore_n 2, 67, []), some (.iinc 4 1, 70, []), none, none, some (.goto (-23), 73, [47]), none, none, some (.iload_n 2, 74, []), some (.istore 4, 76, []), none, some (.aload_n 0, 77, []), some (.iload_n 3, 78, []), some (.invokevirtual 177, 81, []), none, none, some (.istore 5, 83, []), none, some (.iconst 0, 84, []), some (.istore 6, 86, []), none, some (.iload 6, 88, []), none, some (.iload 5, 90, []), none, some (.if_icmp .ge 49, 93, [139]), none, none, some (.iconst 0, 94, []), some (.istore 7, 96, []), none, some (.iload 7, 98, []), none, some (.iload 5, 100, []), none, some (.if_icmp .ge 33, 103, [133]), none, none, some (.aload_n 0, 104, []), some (.iload_n 2, 105, []), some (.aload_n 0, 106, []), some (.aload_n 0, 107, []), some (.getfield 30, 110, []), none, none, some (.iload 6, 112, []), none, some (.iaload, 113, []), some (.aload_n 0, 114, []), some (.getfield 30, 117, []), none, none, some (.iload 7, 119, []), none, some (.iaload, 120, []), some (.invokevirtual 180, 123, []), none, none, some (.invokevirtual 174, 126, []), none, none, some (.istore_n 2, 127, []), some (.iinc 7 1, 130, []), none, none, some (.goto (-34), 133, [96]), none, none, some (.iinc 6 1, 136, []), none, none, some (.goto (-50), 139, [86]), none, none, some (.iload_n 2, 140, []), some (.iload 4, 142, []), none, some (.isub, 143, []), some (.ireturn, 144, [])]
theorem kh_115 : mm_all prog_6_method_52_code kt_115 0 = true := by decide +kernel
def kp_115 : List (Nat × mm_K) := [(45, .inr (.inr (.inl (66, 1, none)))), (33, .inl (4, 10, none)), (171, .inr (.inr (.inl (111, 1, some 4)))), (53, .inr (.inr (.inl (69, 2, some 4)))), (168, .inr (.inr (.inl (112, 1, some 4)))), (174, .inr (.inr (.inl (110, 2, some 4)))), (177, .inr (.inr (.inl (113, 1, some 4)))), (30, .inl (4, 9, none)), (180, .inr (.inr (.inl (114, 2, some 4))))]
def kq_115 : mm_M := (kt_115, kp_115, 8, (some .int))
def kt_116_0 : List (Option mm_I) := [some (.new 7, 3, []), none, none, some (.dup, 4, []), some (.invokespecial 9, 7, []), none, none, some (.astore_n 1, 8, []), some (.new 10, 11, []), none, none, some (.dup, 12, []), some (.invokespecial 12, 15, []), none, none, some (.astore_n 2, 16, []), some (.iconst 0, 17, []), some (.istore_n 3, 18, []), some (.iload_n 3, 19, []), some (.aload_n 0, 20, []), some (.arraylength, 21, []), some (.iconst 5, 22, []), some (.isub, 23, []), some (.if_icmp .gt 687, 26, [710]), none, none, some (.aload_n 0, 27, []), some (.iload_n 3, 28, []), some (.iaload, 29, []), some (.bipush 31, 31, []), none, some (.iand, 32, []), some (.tableswitch 672 0 17 #[88, 121, 144, 177, 220, 273, 296, 329, 372, 415, 458, 491, 524, 557, 590, 603, 626, 649], 120, [704, 120, 153, 176, 209, 252, 305, 328, 361, 404, 447, 490, 523, 556, 589, 622, 635, 658, 681]), none, none, none, none, none, none, none, none, none, none, none, none, none, none, none, none, none, none, none, none, none, none, none, none, none, none, none, none, none, none, none, none, none, none, none, none, none, none, none, none, none, none, none, none, none, none, none, none, none, none, none, none, none, none, none, none, none, none, none, none, none, none, none, none, none, none, none]
theorem kh_116_0 : mm_all code kt_116_0 0 = true := by decide +kernel
def kt_116_1 : List (Option mm_I) := [none, none, none, none, none, none, none, none, none, none, none, none, none, none, none, none, none, none, none, none, some (.aload_n 1, 121, []), some (.aload_n 0, 122, []), some (.iload_n 3, 123, []), some (.iconst 1, 124, []), some (.iadd, 125, []), some (.iaload, 126, []), some (.aload_n 0, 127, []), some (.iload_n 3, 128, []), some (.iconst 2, 129, []), some (.iadd, 130, []), some (.iaload, 131, []), some (.invokevirtual 13, 134, []), none, none, some (.aload_n 2, 135, []), some (.aload_n 0, 136, []), some (.iload_n 3, 137, []), some (.iconst 1, 138, []), some (.iadd, 139, []), some (.iaload, 140, []), some (.aload_n 0, 141, []), some (.iload_n 3, 142, []), some (.iconst 2, 143, []), some (.iadd, 144, []), some (.iaload, 145, []), some (.invokevirtual 17, 148, []), none, none, some (.if_icmp .eq 556, 151, [704]), none, none, some (.iconst 0, 152, []), some (.ireturn, 153, []), some (.aload_n 1, 154, []), some (.aload_n 0, 155, []), some (.iload_n 3, 156, []), some (.iconst 1, 157, []), some (.iadd, 158, []), some (.iaload, 159, []), some (.invokevirtual 18, 162, []), none, none, some (.aload_n 2, 163, []), some (.aload_n 0, 164, []), some (.iload_n 3, 165, []), some (.iconst 1, 166, []), some (.iadd, 167, []), some (.iaload, 168, []), some (.invokevirtual 22, 171, []), none, none, some (.if_icmp .eq 533, 174, [704]), none, none, some (.iconst 0, 175, []), some (.ireturn, 176, []), some (.aload_n 1, 177, []), some (.aload_n 0, 178, []), some (.iload_n 3, 179, []), some (.iconst 1, 180, []), some (.iadd, 181, []), some (.iaload, 182, []), some (.aload_n 0, 183, []), some (.iload_n 3, 184, []), some (.iconst 2, 185, []), some (.iadd, 186, []), some (.iaload, 187, []), some (.invokevirtual 23, 190, []), none, none, some (.aload_n 2, 191, []), some (.aload_n 0, 192, []), some (.iload_n 3, 193, []), some (.iconst 1, 194, []), some (.iadd, 195, []), some (.iaload, 196, []), some (.aload_n 0, 197, []), some (.iload_n 3, 198, []), some (.iconst 2, 199, []), some (.iadd, 200, [])]
theorem kh_116_1 : mm_all code kt_116_1 100 = true := by decide +kernel
def kt_116_2 : List (Option mm_I) := [some (.iaload, 201, []), some (.invokevirtual 26, 204, []), none, none, some (.if_icmp .eq 500, 207, [704]), none, none, some (.iconst 0, 208, []), some (.ireturn, 209, []), some (.aload_n 1, 210, []), some (.aload_n 0, 211, []), some (.iload_n 3, 212, []), some (.iconst 1, 213, []), some (.iadd, 214, []), some (.iaload, 215, []), some (.aload_n 0, 216, []), some (.iload_n 3, 217, []), some (.iconst 2, 218, []), some (.iadd, 219, []), some (.iaload, 220, []), some (.aload_n 0, 221, []), some (.iload_n 3, 222, []), some (.iconst 3, 223, []), some (.iadd, 224, []), some (.iaload, 225, []), some (.invokevirtual 27, 228, []), none, none, some (.aload_n 2, 229, []), some (.aload_n 0, 230, []), some (.iload_n 3, 231, []), some (.iconst 1, 232, []), some (.iadd, 233, []), some (.iaload, 234, []), some (.aload_n 0, 235, []), some (.iload_n 3, 236, []), some (.iconst 2, 237, []), some (.iadd, 238, []), some (.iaload, 239, []), some (.aload_n 0, 240, []), some (.iload_n 3, 241, []), some (.iconst 3, 242, []), some (.iadd, 243, []), some (.iaload, 244, []), some (.invokevirtual 31, 247, []), none, none, some (.if_icmp .eq 457, 250, [704]), none, none, some (.iconst 0, 251, []), some (.ireturn, 252, []), some (.aload_n 1, 253, []), some (.aload_n 0, 254, []), some (.iload_n 3, 255, []), some (.iconst 1, 256, []), some (.iadd, 257, []), some (.iaload, 258, []), some (.aload_n 0, 259, []), some (.iload_n 3, 260, []), some (.iconst 2, 261, []), some (.iadd, 262, []), some (.iaload, 263, []), some (.aload_n 0, 264, []), some (.iload_n 3, 265, []), some (.iconst 3, 266, []), some (.iadd, 267, []), some (.iaload, 268, []), some (.aload_n 0, 269, []), some (.iload_n 3, 270, []), some (.iconst 4, 271, []), some (.iadd, 272, []), some (.iaload, 273, []), some (.invokevirtual 32, 276, []), none, none, some (.aload_n 2, 277, []), some (.aload_n 0, 278, []), some (.iload_n 3, 279, []), some (.iconst 1, 280, []), some (.iadd, 281, []), some (.iaload, 282, []), some (.aload_n 0, 283, []), some (.iload_n 3, 284, []), some (.iconst 2, 285, []), some (.iadd, 286, []), some (.iaload, 287, []), some (.aload_n 0, 288, []), some (.iload_n 3, 289, []), some (.iconst 3, 290, []), some (.iadd, 291, []), some (.iaload, 292, []), some (.aload_n 0, 293, []), some (.iload_n 3, 294, []), some (.iconst 4, 295, []), some (.iadd, 296, []), some (.iaload, 297, []), some (.invokevirtual 36, 300, []), none, none]
theorem kh_116_2 : mm_all code kt_116_2 200 = true := by decide +kernel
def kt_116_3 : List (Option mm_I) := [some (.if_icmp .eq 404, 303, [704]), none, none, some (.iconst 0, 304, []), some (.ireturn, 305, []), some (.aload_n 1, 306, []), some (.aload_n 0, 307, []), some (.iload_n 3, 308, []), some (.iconst 1, 309, []), some (.iadd, 310, []), some (.iaload, 311, []), some (.invokevirtual 37, 314, []), none, none, some (.aload_n 2, 315, []), some (.aload_n 0, 316, []), some (.iload_n 3, 317, []), some (.iconst 1, 318, []), some (.iadd, 319, []), some (.iaload, 320, []), some (.invokevirtual 41, 323, []), none, none, some (.if_icmp .eq 381, 326, [704]), none, none, some (.iconst 0, 327, []), some (.ireturn, 328, []), some (.aload_n 1, 329, []), some (.aload_n 0, 330, []), some (.iload_n 3, 331, []), some (.iconst 1, 332, []), some (.iadd, 333, []), some (.iaload, 334, []), some (.aload_n 0, 335, []), some (.iload_n 3, 336, []), some (.iconst 2, 337, []), some (.iadd, 338, []), some (.iaload, 339, []), some (.invokevirtual 42, 342, []), none, none, some (.aload_n 2, 343, []), some (.aload_n 0, 344, []), some (.iload_n 3, 345, []), some (.iconst 1, 346, []), some (.iadd, 347, []), some (.iaload, 348, []), some (.aload_n 0, 349, []), some (.iload_n 3, 350, []), some (.iconst 2, 351, []), some (.iadd, 352, []), some (.iaload, 353, []), some (.invokevirtual 45, 356, []), none, none, some (.if_icmp .eq 348, 359, [704]), none, none, some (.iconst 0, 360, []), some (.ireturn, 361, []), some (.aload_n 1, 362, []), some (.aload_n 0, 363, []), some (.iload_n 3, 364, []), some (.iconst 1, 365, []), some (.iadd, 366, []), some (.iaload, 367, []), some (.aload_n 0, 368, []), some (.iload_n 3, 369, []), some (.iconst 2, 370, []), some (.iadd, 371, []), some (.iaload, 372, []), some (.aload_n 0, 373, []), some (.iload_n 3, 374, []), some (.iconst 3, 375, []), some (.iadd, 376, []), some (.iaload, 377, []), some (.invokevirtual 46, 380, []), none, none, some (.aload_n 2, 381, []), some (.aload_n 0, 382, []), some (.iload_n 3, 383, []), some (.iconst 1, 384, []), some (.iadd, 385, []), some (.iaload, 386, []), some (.aload_n 0, 387, []), some (.iload_n 3, 388, []), some (.iconst 2, 389, []), some (.iadd, 390, []), some (.iaload, 391, []), some (.aload_n 0, 392, []), some (.iload_n 3, 393, []), some (.iconst 3, 394, []), some (.iadd, 395, []), some (.iaload, 396, []), some (.invokevirtual 49, 399, []), none, none, some (.if_icmp .eq 305, 402, [704])]
theorem kh_116_3 : mm_all code kt_116_3 300 = true := by decide +kernel
def kt_116_4 : List (Option mm_I) := [none, none, some (.iconst 0, 403, []), some (.ireturn, 404, []), some (.aload_n 1, 405, []), some (.aload_n 0, 406, []), some (.iload_n 3, 407, []), some (.iconst 1, 408, []), some (.iadd, 409, []), some (.iaload, 410, []), some (.aload_n 0, 411, []), some (.iload_n 3, 412, []), some (.iconst 2, 413, []), some (.iadd, 414, []), some (.iaload, 415, []), some (.aload_n 0, 416, []), some (.iload_n 3, 417, []), some (.iconst 3, 418, []), some (.iadd, 419, []), some (.iaload, 420, []), some (.invokevirtual 50, 423, []), none, none, some (.aload_n 2, 424, []), some (.aload_n 0, 425, []), some (.iload_n 3, 426, []), some (.iconst 1, 427, []), some (.iadd, 428, []), some (.iaload, 429, []), some (.aload_n 0, 430, []), some (.iload_n 3, 431, []), some (.iconst 2, 432, []), some (.iadd, 433, []), some (.iaload, 434, []), some (.aload_n 0, 435, []), some (.iload_n 3, 436, []), some (.iconst 3, 437, []), some (.iadd, 438, []), some (.iaload, 439, []), some (.invokevirtual 53, 442, []), none, none, some (.if_icmp .eq 262, 445, [704]), none, none, some (.iconst 0, 446, []), some (.ireturn, 447, []), some (.aload_n 1, 448, []), some (.aload_n 0, 449, []), some (.iload_n 3, 450, []), some (.iconst 1, 451, []), some (.iadd, 452, []), some (.iaload, 453, []), some (.aload_n 0, 454, []), some (.iload_n 3, 455, []), some (.iconst 2, 456, []), some (.iadd, 457, []), some (.iaload, 458, []), some (.aload_n 0, 459, []), some (.iload_n 3, 460, []), some (.iconst 3, 461, []), some (.iadd, 462, []), some (.iaload, 463, []), some (.invokevirtual 54, 466, []), none, none, some (.aload_n 2, 467, []), some (.aload_n 0, 468, []), some (.iload_n 3, 469, []), some (.iconst 1, 470, []), some (.iadd, 471, []), some (.iaload, 472, []), some (.aload_n 0, 473, []), some (.iload_n 3, 474, []), some (.iconst 2, 475, []), some (.iadd, 476, []), some (.iaload, 477, []), some (.aload_n 0, 478, []), some (.iload_n 3, 479, []), some (.iconst 3, 480, []), some (.iadd, 481, []), some (.iaload, 482, []), some (.invokevirtual 58, 485, []), none, none, some (.if_icmp .eq 219, 488, [704]), none, none, some (.iconst 0, 489, []), some (.ireturn, 490, []), some (.aload_n 1, 491, []), some (.aload_n 0, 492, []), some (.iload_n 3, 493, []), some (.iconst 1, 494, []), some (.iadd, 495, []), some (.iaload, 496, []), some (.aload_n 0, 497, []), some (.iload_n 3, 498, []), some (.iconst 2, 499, []), some (.iadd, 500, [])]
theorem kh_116_4 : mm_all code kt_116_4 400 = true := by decide +kernel
def kt_116_5 : List (Option mm_I) := [some (.iaload, 501, []), some (.invokevirtual 59, 504, []), none, none, some (.aload_n 2, 505, []), some (.aload_n 0, 506, []), some (.iload_n 3, 507, []), some (.iconst 1, 508, []), some (.iadd, 509, []), some (.iaload, 510, []), some (.aload_n 0, 511, []), some (.iload_n 3, 512, []), some (.iconst 2, 513, []), some (.iadd, 514, []), some (.iaload, 515, []), some (.invokevirtual 62, 518, []), none, none, some (.if_icmp .eq 186, 521, [704]), none, none, some (.iconst 0, 522, []), some (.ireturn, 523, []), some (.aload_n 1, 524, []), some (.aload_n 0, 525, []), some (.iload_n 3, 526, []), some (.iconst 1, 527, []), some (.iadd, 528, []), some (.iaload, 529, []), some (.aload_n 0, 530, []), some (.iload_n 3, 531, []), some (.iconst 2, 532, []), some (.iadd, 533, []), some (.iaload, 534, []), some (.invokevirtual 63, 537, []), none, none, some (.aload_n 2, 538, []), some (.aload_n 0, 539, []), some (.iload_n 3, 540, []), some (.iconst 1, 541, []), some (.iadd, 542, []), some (.iaload, 543, []), some (.aload_n 0, 544, []), some (.iload_n 3, 545, []), some (.iconst 2, 546, []), some (.iadd, 547, []), some (.iaload, 548, []), some (.invokevirtual 66, 551, []), none, none, some (.if_icmp .eq 153, 554, [704]), none, none, some (.iconst 0, 555, []), some (.ireturn, 556, []), some (.aload_n 1, 557, []), some (.aload_n 0, 558, []), some (.iload_n 3, 559, []), some (.iconst 1, 560, []), some (.iadd, 561, []), some (.iaload, 562, []), some (.aload_n 0, 563, []), some (.iload_n 3, 564, []), some (.iconst 2, 565, []), some (.iadd, 566, []), some (.iaload, 567, []), some (.invokevirtual 67, 570, []), none, none, some (.aload_n 2, 571, []), some (.aload_n 0, 572, []), some (.iload_n 3, 573, []), some (.iconst 1, 574, []), some (.iadd, 575, []), some (.iaload, 576, []), some (.aload_n 0, 577, []), some (.iload_n 3, 578, []), some (.iconst 2, 579, []), some (.iadd, 580, []), some (.iaload, 581, []), some (.invokevirtual 70, 584, []), none, none, some (.if_icmp .eq 120, 587, [704]), none, none, some (.iconst 0, 588, []), some (.ireturn, 589, []), some (.aload_n 1, 590, []), some (.aload_n 0, 591, []), some (.iload_n 3, 592, []), some (.iconst 1, 593, []), some (.iadd, 594, []), some (.iaload, 595, []), some (.aload_n 0, 596, []), some (.iload_n 3, 597, []), some (.iconst 2, 598, []), some (.iadd, 599, []), some (.iaload, 600, [])]
theorem kh_116_5 : mm_all code kt_116_5 500 = true := by decide +kernel
def kt_116_6 : List (Option mm_I) := [some (.invokevirtual 71, 603, []), none, none, some (.aload_n 2, 604, []), some (.aload_n 0, 605, []), some (.iload_n 3, 606, []), some (.iconst 1, 607, []), some (.iadd, 608, []), some (.iaload, 609, []), some (.aload_n 0, 610, []), some (.iload_n 3, 611, []), some (.iconst 2, 612, []), some (.iadd, 613, []), some (.iaload, 614, []), some (.invokevirtual 75, 617, []), none, none, some (.if_icmp .eq 87, 620, [704]), none, none, some (.iconst 0, 621, []), some (.ireturn, 622, []), some (.aload_n 1, 623, []), some (.invokevirtual 76, 626, []), none, none, some (.aload_n 2, 627, []), some (.invokevirtual 80, 630, []), none, none, some (.if_icmp .eq 74, 633, [704]), none, none, some (.iconst 0, 634, []), some (.ireturn, 635, []), some (.aload_n 1, 636, []), some (.aload_n 0, 637, []), some (.iload_n 3, 638, []), some (.iconst 1, 639, []), some (.iadd, 640, []), some (.iaload, 641, []), some (.invokevirtual 81, 644, []), none, none, some (.aload_n 2, 645, []), some (.aload_n 0, 646, []), some (.iload_n 3, 647, []), some (.iconst 1, 648, []), some (.iadd, 649, []), some (.iaload, 650, []), some (.invokevirtual 84, 653, []), none, none, some (.if_icmp .eq 51, 656, [704]), none, none, some (.iconst 0, 657, []), some (.ireturn, 658, []), some (.aload_n 1, 659, []), some (.aload_n 0, 660, []), some (.iload_n 3, 661, []), some (.iconst 1, 662, []), some (.iadd, 663, []), some (.iaload, 664, []), some (.invokevirtual 85, 667, []), none, none, some (.aload_n 2, 668, []), some (.aload_n 0, 669, []), some (.iload_n 3, 670, []), some (.iconst 1, 671, []), some (.iadd, 672, []), some (.iaload, 673, []), some (.invokevirtual 88, 676, []), none, none, some (.if_icmp .eq 28, 679, [704]), none, none, some (.iconst 0, 680, []), some (.ireturn, 681, []), some (.aload_n 1, 682, []), some (.aload_n 0, 683, []), some (.iload_n 3, 684, []), some (.iconst 1, 685, []), some (.iadd, 686, []), some (.iaload, 687, []), some (.invokevirtual 89, 690, []), none, none, some (.aload_n 2, 691, []), some (.aload_n 0, 692, []), some (.iload_n 3, 693, []), some (.iconst 1, 694, []), some (.iadd, 695, []), some (.iaload, 696, []), some (.invokevirtual 92, 699, []), none, none, some (.if_icmp .eq 5, 702, [704])]
theorem kh_116_6 : mm_all code kt_116_6 600 = true := by decide +kernel
def kt_116_7 : List (Option mm_I) := [none, none, some (.iconst 0, 703, []), some (.ireturn, 704, []), some (.iinc 3 5, 707, []), none, none, some (.goto (-689), 710, [18]), none, none, some (.iconst 1, 711, []), some (.ireturn, 712, [])]
theorem kh_116_7 : mm_all code kt_116_7 700 = true := by decide +kernel
def kt_116 : List (Option mm_I) := kt_116_0 ++ (kt_116_1 ++ (kt_116_2 ++ (kt_116_3 ++ (kt_116_4 ++ (kt_116_5 ++ (kt_116_6 ++ (kt_116_7)))))))
theorem kh_116 : mm_all code kt_116 0 = true := (mm_all_app _ _ _ kh_116_0 (mm_all_app _ _ _ kh_116_1 (mm_all_app _ _ _ kh_116_2 (mm_all_app _ _ _ kh_116_3 (mm_all_app _ _ _ kh_116_4 (mm_all_app _ _ _ kh_116_5 (mm_all_app _ _ _ kh_116_6 kh_116_7)))))))
def kp_116 : List (Nat × mm_K) := [(13, .inr (.inr (.inl (34, 2, some 3)))), (17, .inr (.inr (.inl (72, 2, some 4)))), (18, .inr (.inr (.inl (35, 1, some 3)))), (22, .inr (.inr (.inl (73, 1, some 4)))), (23, .inr (.inr (.inl (36, 2, some 3)))), (26, .inr (.inr (.inl (74, 2, some 4)))), (27, .inr (.inr (.inl (37, 3, some 3)))), (31, .inr (.inr (.inl (75, 3, some 4)))), (32, .inr (.inr (.inl (38, 4, some 3)))), (36, .inr (.inr (.inl (76, 4, some 4)))), (37, .inr (.inr (.inl (39, 1, some 3)))), (41, .inr (.inr (.inl (77, 1, some 4)))), (42, .inr (.inr (.inl (40, 2, some 3)))), (45, .inr (.inr (.inl (87, 2, some 4)))), (46, .inr (.inr (.inl (41, 3, some 3)))), (49, .inr (.inr (.inl (95, 3, some 4)))), (50, .inr (.inr (.inl (42, 3, some 3)))), (53, .inr (.inr (.inl (88, 3, some 4)))), (54, .inr (.inr (.inl (43, 3, some 3)))), (58, .inr (.inr (.inl (96, 3, some 4)))), (59, .inr (.inr (.inl (44, 2, some 3)))), (62, .inr (.inr (.inl (97, 2, some 4)))), (63, .inr (.inr (.inl (45, 2, some 3)))), (66, .inr (.inr (.inl (98, 2, some 4)))), (67, .inr (.inr (.inl (46, 2, some 3)))), (70, .inr (.inr (.inl (101, 2, some 4)))), (71, .inr (.inr (.inl (47, 2, some 3)))), (75, .inr (.inr (.inl (102, 2, some 4)))), (76, .inr (.inr (.inl (48, 0, some 3)))), (80, .inr (.inr (.inl (104, 0, some 4)))), (81, .inr (.inr (.inl (49, 1, some 3)))), (84, .inr (.inr (.inl (106, 1, some 4)))), (85, .inr (.inr (.inl (50, 1, some 3)))), (88, .inr (.inr (.inl (108, 1, some 4)))), (89, .inr (.inr (.inl (51, 1, some 3)))), (92, .inr (.inr (.inl (115, 1, some 4))))]
def kq_116 : mm_M := (kt_116, kp_116, 4, (some .boolean))
end
section
def kM : List mm_M := [kq_0, kq_1, kq_2, kq_3, kq_4, kq_5, kq_6, kq_7, kq_8, kq_9, kq_10, kq_11, kq_12, kq_13, kq_14, kq_15, kq_16, kq_17, kq_18, kq_19, kq_20, kq_21, kq_22, kq_23, kq_24, kq_25, kq_26, kq_27, kq_28, kq_29, kq_30, kq_31, kq_32, kq_33, kq_34, kq_35, kq_36, kq_37, kq_38, kq_39, kq_40, kq_41, kq_42, kq_43, kq_44, kq_45, kq_46, kq_47, kq_48, kq_49, kq_50, kq_51, kq_52, kq_53, kq_54, kq_55, kq_56, kq_57, kq_58, kq_59, kq_60, kq_61, kq_62, kq_63, kq_64, kq_65, kq_66, kq_67, kq_68, kq_69, kq_70, kq_71, kq_72, kq_73, kq_74, kq_75, kq_76, kq_77, kq_78, kq_79, kq_80, kq_81, kq_82, kq_83, kq_84, kq_85, kq_86, kq_87, kq_88, kq_89, kq_90, kq_91, kq_92, kq_93, kq_94, kq_95, kq_96, kq_97, kq_98, kq_99, kq_100, kq_101, kq_102, kq_103, kq_104, kq_105, kq_106, kq_107, kq_108, kq_109, kq_110, kq_111, kq_112, kq_113, kq_114, kq_115, kq_116]
def kYs : List MethodName := [ky0, ky1, ky2, ky3, ky4, ky5, ky6, ky7, ky8, ky9, ky10, ky11, ky12, ky13, ky14, ky15, ky16, ky17, ky18, ky19, ky20, ky21, ky22, ky23, ky24, ky25, ky26, ky27, ky28, ky29, ky30, ky31, ky32, ky33, ky34, ky35, ky36, ky37, ky38, ky39, ky40, ky41, ky42, ky43, ky44, ky45, ky46, ky47, ky48, ky49, ky50, ky51, ky52, ky53, ky54, ky55, ky56, ky57, ky58, ky59, ky60, ky61, ky62, ky63, ky64, ky65, ky66, ky67, ky68, ky69, ky70, ky71, ky72, ky73, ky74, ky75, ky76, ky77, ky78, ky79, ky80, ky81, ky82, ky83, ky84, ky85, ky86, ky87, ky88, ky89, ky90, ky91, ky92, ky93, ky94, ky95, ky96, ky97, ky98, ky99, ky100, ky101, ky102, ky103, ky104, ky105, ky106, ky107, ky108, ky109, ky110, ky111, ky112, ky113, ky114, ky115]
def kBs : List ByteArray := [prog_7_method_49_code, prog_9_method_101_code, prog_9_method_103_code, prog_2_method_2_code, prog_2_method_3_code, prog_2_method_4_code, prog_2_method_5_code, prog_2_method_6_code, prog_2_method_7_code, prog_2_method_8_code, prog_2_method_9_code, prog_2_method_10_code, prog_2_method_11_code, prog_2_method_12_code, prog_2_method_13_code, prog_2_method_14_code, prog_3_method_2_code, prog_3_method_3_code, prog_3_method_4_code, prog_3_method_5_code, prog_3_method_6_code, prog_3_method_7_code, prog_3_method_8_code, prog_3_method_9_code, prog_3_method_10_code, prog_3_method_11_code, prog_3_method_12_code, prog_3_method_13_code, prog_3_method_14_code, prog_3_method_15_code, prog_3_method_16_code, prog_4_method_2_code, prog_4_method_3_code, prog_4_method_4_code, prog_1_method_2_code, prog_1_method_3_code, prog_1_method_4_code, prog_1_method_5_code, prog_1_method_6_code, prog_1_method_7_code, prog_1_method_8_code, prog_1_method_9_code, prog_1_method_10_code, prog_1_method_11_code, prog_1_method_12_code, prog_1_method_13_code, prog_1_method_14_code, prog_1_method_15_code, prog_1_method_16_code, prog_1_method_17_code, prog_1_method_18_code, prog_1_method_19_code, prog_1_method_20_code, prog_1_method_21_code, prog_1_method_22_code, prog_1_method_23_code, prog_1_method_24_code, prog_1_method_25_code, prog_1_method_26_code, prog_1_method_27_code, prog_1_method_28_code, prog_1_method_29_code, prog_1_method_30_code, prog_1_method_31_code, prog_1_method_32_code, prog_6_method_2_code, prog_6_method_3_code, prog_6_method_4_code, prog_6_method_5_code, prog_6_method_6_code, prog_6_method_7_code, prog_6_method_8_code, prog_6_method_9_code, prog_6_method_10_code, prog_6_method_11_code, prog_6_method_12_code, prog_6_method_13_code, prog_6_method_14_code, prog_6_method_15_code, prog_6_method_16_code, prog_6_method_17_code, prog_6_method_18_code, prog_6_method_19_code, prog_6_method_20_code, prog_6_method_21_code, prog_6_method_22_code, prog_6_method_23_code, prog_6_method_24_code, prog_6_method_25_code, prog_6_method_26_code, prog_6_method_27_code, prog_6_method_28_code, prog_6_method_29_code, prog_6_method_30_code, prog_6_method_31_code, prog_6_method_32_code, prog_6_method_33_code, prog_6_method_34_code, prog_6_method_35_code, prog_6_method_36_code, prog_6_method_37_code, prog_6_method_38_code, prog_6_method_39_code, prog_6_method_40_code, prog_6_method_41_code, prog_6_method_42_code, prog_6_method_43_code, prog_6_method_44_code, prog_6_method_45_code, prog_6_method_46_code, prog_6_method_47_code, prog_6_method_48_code, prog_6_method_49_code, prog_6_method_50_code, prog_6_method_51_code, prog_6_method_52_code]
def kRs : List (Nat × Nat) := [(0, 0), (0, 0), (0, 0), (1, 23), (1, 20), (0, 0), (0, 0), (0, 0), (0, 0), (0, 0), (3, 62), (2, 40), (2, 42), (3, 67), (2, 41), (2, 41), (0, 0), (0, 0), (0, 0), (2, 63), (0, 0), (0, 0), (0, 0), (1, 36), (0, 0), (0, 0), (3, 91), (0, 0), (4, 115), (4, 116), (3, 91), (1, 24), (0, 0), (1, 25), (4, 85), (2, 43), (2, 41), (2, 41), (2, 42), (2, 41), (6, 139), (5, 140), (6, 139), (1, 22), (1, 21), (3, 67), (5, 143), (0, 0), (2, 41), (3, 63), (5, 115), (4, 95), (0, 0), (0, 0), (1, 20), (1, 20), (0, 0), (5, 115), (4, 92), (3, 70), (2, 42), (3, 70), (0, 0), (1, 20), (3, 69), (0, 0), (0, 0), (0, 0), (1, 20), (1, 22), (1, 22), (1, 22), (2, 46), (1, 20), (2, 46), (2, 47), (2, 47), (2, 46), (0, 0), (2, 46), (3, 74), (0, 0), (0, 0), (2, 61), (1, 29), (3, 86), (4, 108), (5, 130), (4, 96), (1, 25), (1, 25), (0, 0), (0, 0), (0, 0), (2, 51), (4, 96), (2, 42), (2, 42), (2, 46), (3, 70), (3, 75), (4, 98), (0, 0), (0, 0), (1, 23), (1, 23), (2, 49), (2, 49), (5, 130), (1, 22), (0, 0), (2, 46), (0, 0), (1, 24), (0, 0), (3, 70)]
def kY (k : Nat) : MethodName := (mm_nth kYs k).getD ky0
def kB (k : Nat) : ByteArray := (mm_nth kBs k).getD code
def kR (k : Nat) : Room := { frames := ((mm_nth kRs k).getD (0, 0)).1, cells := 0, slots := 0, locals := ((mm_nth kRs k).getD (0, 0)).2 }
def kWS (k : Nat) : List Cond := Cond.code (kY k) (kB k) ((mm_nth kM k).getD kq_0).2.2.1 ((mm_nth kM k).getD kq_0).2.2.2 :: kG
abbrev kWord : String → List Cond → Room → Nat → mm_K → Prop := mm_word kM kY kWS kR kl 116 kNW
abbrev kOk : Nat → mm_M → Prop := mm_ok kM kY kWS kR kB kl 116 kNW
theorem kd_HoleCounter_Complex_9 {Ts : List Cond} (hT : ∀ w ∈ kG, w ∈ Ts) (R : Room) : kWord "HoleCounter$Complex" Ts R 9 (.inl (0, 0, none)) := ⟨kc0, kf0, 5, kt0, rfl, (by decide : 0 < 5), fun w h => hT w (kiG0 w h), hT _ kl_HoleCounter_Complex_9, kto0, kn0, fun ty h => by cases h⟩
theorem kd_HoleCounter_Complex_21 {Ts : List Cond} (hT : ∀ w ∈ kG, w ∈ Ts) (R : Room) : kWord "HoleCounter$Complex" Ts R 21 (.inl (0, 1, none)) := ⟨kc0, kf0, 5, kt0, rfl, (by decide : 1 < 5), fun w h => hT w (kiG0 w h), hT _ kl_HoleCounter_Complex_21, kto0, kn0, fun ty h => by cases h⟩
theorem kd_HoleCounter_Complex_24 {Ts : List Cond} (hT : ∀ w ∈ kG, w ∈ Ts) (R : Room) : kWord "HoleCounter$Complex" Ts R 24 (.inl (0, 2, none)) := ⟨kc0, kf0, 5, kt0, rfl, (by decide : 2 < 5), fun w h => hT w (kiG0 w h), hT _ kl_HoleCounter_Complex_24, kto0, kn0, fun ty h => by cases h⟩
theorem kd_HoleCounter_Complex_27 {Ts : List Cond} (hT : ∀ w ∈ kG, w ∈ Ts) (R : Room) : kWord "HoleCounter$Complex" Ts R 27 (.inl (0, 3, none)) := ⟨kc0, kf0, 5, kt0, rfl, (by decide : 3 < 5), fun w h => hT w (kiG0 w h), hT _ kl_HoleCounter_Complex_27, kto0, kn0, fun ty h => by cases h⟩
theorem kd_HoleCounter_Complex_30 {Ts : List Cond} (hT : ∀ w ∈ kG, w ∈ Ts) (R : Room) : kWord "HoleCounter$Complex" Ts R 30 (.inl (0, 4, none)) := ⟨kc0, kf0, 5, kt0, rfl, (by decide : 4 < 5), fun w h => hT w (kiG0 w h), hT _ kl_HoleCounter_Complex_30, kto0, kn0, fun ty h => by cases h⟩
theorem kd_HoleCounter_Grid_11 {Ts : List Cond} (hT : ∀ w ∈ kG, w ∈ Ts) (R : Room) : kWord "HoleCounter$Grid" Ts R 11 (.inl (1, 0, none)) := ⟨kc1, kf1, 11, kt1, rfl, (by decide : 0 < 11), fun w h => hT w (kiG1 w h), hT _ kl_HoleCounter_Grid_11, kto1, kn1, fun ty h => by cases h⟩
theorem kd_HoleCounter_Grid_15 {Ts : List Cond} (hT : ∀ w ∈ kG, w ∈ Ts) (R : Room) : kWord "HoleCounter$Grid" Ts R 15 (.inl (1, 1, none)) := ⟨kc1, kf1, 11, kt1, rfl, (by decide : 1 < 11), fun w h => hT w (kiG1 w h), hT _ kl_HoleCounter_Grid_15, kto1, kn1, fun ty h => by cases h⟩
theorem kd_HoleCounter_Grid_18 {Ts : List Cond} (hT : ∀ w ∈ kG, w ∈ Ts) (R : Room) : kWord "HoleCounter$Grid" Ts R 18 (.inl (1, 2, none)) := ⟨kc1, kf1, 11, kt1, rfl, (by decide : 2 < 11), fun w h => hT w (kiG1 w h), hT _ kl_HoleCounter_Grid_18, kto1, kn1, fun ty h => by cases h⟩
theorem kd_HoleCounter_Grid_21 {Ts : List Cond} (hT : ∀ w ∈ kG, w ∈ Ts) (R : Room) : kWord "HoleCounter$Grid" Ts R 21 (.inl (1, 3, none)) := ⟨kc1, kf1, 11, kt1, rfl, (by decide : 3 < 11), fun w h => hT w (kiG1 w h), hT _ kl_HoleCounter_Grid_21, kto1, kn1, fun ty h => by cases h⟩
theorem kd_HoleCounter_Grid_24 {Ts : List Cond} (hT : ∀ w ∈ kG, w ∈ Ts) (R : Room) : kWord "HoleCounter$Grid" Ts R 24 (.inl (1, 4, none)) := ⟨kc1, kf1, 11, kt1, rfl, (by decide : 4 < 11), fun w h => hT w (kiG1 w h), hT _ kl_HoleCounter_Grid_24, kto1, kn1, fun ty h => by cases h⟩
theorem kd_HoleCounter_Grid_27 {Ts : List Cond} (hT : ∀ w ∈ kG, w ∈ Ts) (R : Room) : kWord "HoleCounter$Grid" Ts R 27 (.inl (1, 5, none)) := ⟨kc1, kf1, 11, kt1, rfl, (by decide : 5 < 11), fun w h => hT w (kiG1 w h), hT _ kl_HoleCounter_Grid_27, kto1, kn1, fun ty h => by cases h⟩
theorem kd_HoleCounter_Grid_35 {Ts : List Cond} (hT : ∀ w ∈ kG, w ∈ Ts) (R : Room) : kWord "HoleCounter$Grid" Ts R 35 (.inl (1, 6, some .int)) := ⟨kc1, kf1, 11, kt1, rfl, (by decide : 6 < 11), fun w h => hT w (kiG1 w h), hT _ kl_HoleCounter_Grid_35, kto1, kn1, fun ty h => by cases h; exact ⟨rfl, by decide +kernel⟩⟩
theorem kd_HoleCounter_Grid_38 {Ts : List Cond} (hT : ∀ w ∈ kG, w ∈ Ts) (R : Room) : kWord "HoleCounter$Grid" Ts R 38 (.inl (1, 7, some .int)) := ⟨kc1, kf1, 11, kt1, rfl, (by decide : 7 < 11), fun w h => hT w (kiG1 w h), hT _ kl_HoleCounter_Grid_38, kto1, kn1, fun ty h => by cases h; exact ⟨rfl, by decide +kernel⟩⟩
theorem kd_HoleCounter_Grid_31 {Ts : List Cond} (hT : ∀ w ∈ kG, w ∈ Ts) (R : Room) : kWord "HoleCounter$Grid" Ts R 31 (.inl (1, 8, some .int)) := ⟨kc1, kf1, 11, kt1, rfl, (by decide : 8 < 11), fun w h => hT w (kiG1 w h), hT _ kl_HoleCounter_Grid_31, kto1, kn1, fun ty h => by cases h; exact ⟨rfl, by decide +kernel⟩⟩
theorem kd_HoleCounter_Grid_45 {Ts : List Cond} (hT : ∀ w ∈ kG, w ∈ Ts) (R : Room) : kWord "HoleCounter$Grid" Ts R 45 (.inl (1, 9, some .long)) := ⟨kc1, kf1, 11, kt1, rfl, (by decide : 9 < 11), fun w h => hT w (kiG1 w h), hT _ kl_HoleCounter_Grid_45, kto1, kn1, fun ty h => by cases h; exact ⟨rfl, by decide +kernel⟩⟩
theorem kd_HoleCounter_Grid_80 {Ts : List Cond} (hT : ∀ w ∈ kG, w ∈ Ts) (R : Room) : kWord "HoleCounter$Grid" Ts R 80 (.inl (1, 10, some .int)) := ⟨kc1, kf1, 11, kt1, rfl, (by decide : 10 < 11), fun w h => hT w (kiG1 w h), hT _ kl_HoleCounter_Grid_80, kto1, kn1, fun ty h => by cases h; exact ⟨rfl, by decide +kernel⟩⟩
theorem kd_HoleCounter_Span_9 {Ts : List Cond} (hT : ∀ w ∈ kG, w ∈ Ts) (R : Room) : kWord "HoleCounter$Span" Ts R 9 (.inl (2, 0, none)) := ⟨kc2, kf2, 1, kt2, rfl, (by decide : 0 < 1), fun w h => hT w (kiG2 w h), hT _ kl_HoleCounter_Span_9, kto2, kn2, fun ty h => by cases h⟩
theorem kd_HoleCounter_10 {Ts : List Cond} (hT : ∀ w ∈ kG, w ∈ Ts) (R : Room) : kWord "HoleCounter" Ts R 10 (.inl (3, 0, none)) := ⟨kc3, kf3, 7, kt3, rfl, (by decide : 0 < 7), fun w h => hT w (kiG3 w h), hT _ kl_HoleCounter_10, kto3, kn3, fun ty h => by cases h⟩
theorem kd_HoleCounter_16 {Ts : List Cond} (hT : ∀ w ∈ kG, w ∈ Ts) (R : Room) : kWord "HoleCounter" Ts R 16 (.inl (3, 1, none)) := ⟨kc3, kf3, 7, kt3, rfl, (by decide : 1 < 7), fun w h => hT w (kiG3 w h), hT _ kl_HoleCounter_16, kto3, kn3, fun ty h => by cases h⟩
theorem kd_HoleCounter_19 {Ts : List Cond} (hT : ∀ w ∈ kG, w ∈ Ts) (R : Room) : kWord "HoleCounter" Ts R 19 (.inl (3, 2, none)) := ⟨kc3, kf3, 7, kt3, rfl, (by decide : 2 < 7), fun w h => hT w (kiG3 w h), hT _ kl_HoleCounter_19, kto3, kn3, fun ty h => by cases h⟩
theorem kd_HoleCounter_26 {Ts : List Cond} (hT : ∀ w ∈ kG, w ∈ Ts) (R : Room) : kWord "HoleCounter" Ts R 26 (.inl (3, 3, none)) := ⟨kc3, kf3, 7, kt3, rfl, (by decide : 3 < 7), fun w h => hT w (kiG3 w h), hT _ kl_HoleCounter_26, kto3, kn3, fun ty h => by cases h⟩
theorem kd_HoleCounter_33 {Ts : List Cond} (hT : ∀ w ∈ kG, w ∈ Ts) (R : Room) : kWord "HoleCounter" Ts R 33 (.inl (3, 4, none)) := ⟨kc3, kf3, 7, kt3, rfl, (by decide : 4 < 7), fun w h => hT w (kiG3 w h), hT _ kl_HoleCounter_33, kto3, kn3, fun ty h => by cases h⟩
theorem kd_HoleCounter_37 {Ts : List Cond} (hT : ∀ w ∈ kG, w ∈ Ts) (R : Room) : kWord "HoleCounter" Ts R 37 (.inl (3, 5, none)) := ⟨kc3, kf3, 7, kt3, rfl, (by decide : 5 < 7), fun w h => hT w (kiG3 w h), hT _ kl_HoleCounter_37, kto3, kn3, fun ty h => by cases h⟩
theorem kd_HoleCounter_40 {Ts : List Cond} (hT : ∀ w ∈ kG, w ∈ Ts) (R : Room) : kWord "HoleCounter" Ts R 40 (.inl (3, 6, none)) := ⟨kc3, kf3, 7, kt3, rfl, (by decide : 6 < 7), fun w h => hT w (kiG3 w h), hT _ kl_HoleCounter_40, kto3, kn3, fun ty h => by cases h⟩
theorem kd_HoleCounterModel_7 {Ts : List Cond} (hT : ∀ w ∈ kG, w ∈ Ts) (R : Room) : kWord "HoleCounterModel" Ts R 7 (.inl (4, 0, none)) := ⟨kc4, kf4, 15, kt4, rfl, (by decide : 0 < 15), fun w h => hT w (kiG4 w h), hT _ kl_HoleCounterModel_7, kto4, kn4, fun ty h => by cases h⟩
theorem kd_HoleCounterModel_13 {Ts : List Cond} (hT : ∀ w ∈ kG, w ∈ Ts) (R : Room) : kWord "HoleCounterModel" Ts R 13 (.inl (4, 1, none)) := ⟨kc4, kf4, 15, kt4, rfl, (by decide : 1 < 15), fun w h => hT w (kiG4 w h), hT _ kl_HoleCounterModel_13, kto4, kn4, fun ty h => by cases h⟩
theorem kd_HoleCounterModel_17 {Ts : List Cond} (hT : ∀ w ∈ kG, w ∈ Ts) (R : Room) : kWord "HoleCounterModel" Ts R 17 (.inl (4, 2, none)) := ⟨kc4, kf4, 15, kt4, rfl, (by decide : 2 < 15), fun w h => hT w (kiG4 w h), hT _ kl_HoleCounterModel_17, kto4, kn4, fun ty h => by cases h⟩
theorem kd_HoleCounterModel_67 {Ts : List Cond} (hT : ∀ w ∈ kG, w ∈ Ts) (R : Room) : kWord "HoleCounterModel" Ts R 67 (.inl (4, 3, some .int)) := ⟨kc4, kf4, 15, kt4, rfl, (by decide : 3 < 15), fun w h => hT w (kiG4 w h), hT _ kl_HoleCounterModel_67, kto4, kn4, fun ty h => by cases h; exact ⟨rfl, by decide +kernel⟩⟩
theorem kd_HoleCounterModel_71 {Ts : List Cond} (hT : ∀ w ∈ kG, w ∈ Ts) (R : Room) : kWord "HoleCounterModel" Ts R 71 (.inl (4, 4, some .int)) := ⟨kc4, kf4, 15, kt4, rfl, (by decide : 4 < 15), fun w h => hT w (kiG4 w h), hT _ kl_HoleCounterModel_71, kto4, kn4, fun ty h => by cases h; exact ⟨rfl, by decide +kernel⟩⟩
theorem kd_HoleCounterModel_20 {Ts : List Cond} (hT : ∀ w ∈ kG, w ∈ Ts) (R : Room) : kWord "HoleCounterModel" Ts R 20 (.inl (4, 5, none)) := ⟨kc4, kf4, 15, kt4, rfl, (by decide : 5 < 15), fun w h => hT w (kiG4 w h), hT _ kl_HoleCounterModel_20, kto4, kn4, fun ty h => by cases h⟩
theorem kd_HoleCounterModel_24 {Ts : List Cond} (hT : ∀ w ∈ kG, w ∈ Ts) (R : Room) : kWord "HoleCounterModel" Ts R 24 (.inl (4, 6, none)) := ⟨kc4, kf4, 15, kt4, rfl, (by decide : 6 < 15), fun w h => hT w (kiG4 w h), hT _ kl_HoleCounterModel_24, kto4, kn4, fun ty h => by cases h⟩
theorem kd_HoleCounterModel_113 {Ts : List Cond} (hT : ∀ w ∈ kG, w ∈ Ts) (R : Room) : kWord "HoleCounterModel" Ts R 113 (.inl (4, 7, some .int)) := ⟨kc4, kf4, 15, kt4, rfl, (by decide : 7 < 15), fun w h => hT w (kiG4 w h), hT _ kl_HoleCounterModel_113, kto4, kn4, fun ty h => by cases h; exact ⟨rfl, by decide +kernel⟩⟩
theorem kd_HoleCounterModel_27 {Ts : List Cond} (hT : ∀ w ∈ kG, w ∈ Ts) (R : Room) : kWord "HoleCounterModel" Ts R 27 (.inl (4, 8, none)) := ⟨kc4, kf4, 15, kt4, rfl, (by decide : 8 < 15), fun w h => hT w (kiG4 w h), hT _ kl_HoleCounterModel_27, kto4, kn4, fun ty h => by cases h⟩
theorem kd_HoleCounterModel_30 {Ts : List Cond} (hT : ∀ w ∈ kG, w ∈ Ts) (R : Room) : kWord "HoleCounterModel" Ts R 30 (.inl (4, 9, none)) := ⟨kc4, kf4, 15, kt4, rfl, (by decide : 9 < 15), fun w h => hT w (kiG4 w h), hT _ kl_HoleCounterModel_30, kto4, kn4, fun ty h => by cases h⟩
theorem kd_HoleCounterModel_33 {Ts : List Cond} (hT : ∀ w ∈ kG, w ∈ Ts) (R : Room) : kWord "HoleCounterModel" Ts R 33 (.inl (4, 10, none)) := ⟨kc4, kf4, 15, kt4, rfl, (by decide : 10 < 15), fun w h => hT w (kiG4 w h), hT _ kl_HoleCounterModel_33, kto4, kn4, fun ty h => by cases h⟩
theorem kd_HoleCounterModel_162 {Ts : List Cond} (hT : ∀ w ∈ kG, w ∈ Ts) (R : Room) : kWord "HoleCounterModel" Ts R 162 (.inl (4, 11, some .int)) := ⟨kc4, kf4, 15, kt4, rfl, (by decide : 11 < 15), fun w h => hT w (kiG4 w h), hT _ kl_HoleCounterModel_162, kto4, kn4, fun ty h => by cases h; exact ⟨rfl, by decide +kernel⟩⟩
theorem kd_HoleCounterModel_36 {Ts : List Cond} (hT : ∀ w ∈ kG, w ∈ Ts) (R : Room) : kWord "HoleCounterModel" Ts R 36 (.inl (4, 12, none)) := ⟨kc4, kf4, 15, kt4, rfl, (by decide : 12 < 15), fun w h => hT w (kiG4 w h), hT _ kl_HoleCounterModel_36, kto4, kn4, fun ty h => by cases h⟩
theorem kd_HoleCounterModel_39 {Ts : List Cond} (hT : ∀ w ∈ kG, w ∈ Ts) (R : Room) : kWord "HoleCounterModel" Ts R 39 (.inl (4, 13, none)) := ⟨kc4, kf4, 15, kt4, rfl, (by decide : 13 < 15), fun w h => hT w (kiG4 w h), hT _ kl_HoleCounterModel_39, kto4, kn4, fun ty h => by cases h⟩
theorem kd_HoleCounterModel_42 {Ts : List Cond} (hT : ∀ w ∈ kG, w ∈ Ts) (R : Room) : kWord "HoleCounterModel" Ts R 42 (.inl (4, 14, none)) := ⟨kc4, kf4, 15, kt4, rfl, (by decide : 14 < 15), fun w h => hT w (kiG4 w h), hT _ kl_HoleCounterModel_42, kto4, kn4, fun ty h => by cases h⟩
theorem kd_HoleCounter_Complex_15 {Ts : List Cond} (hT : ∀ w ∈ kG, w ∈ Ts) {R : Room} (hR : (kR 2).frames + 1 ≤ R.frames ∧ 8 + (4 + 11) + (kR 2).locals ≤ R.locals) : kWord "HoleCounter$Complex" Ts R 15 (.inr (.inr (.inl (2, 2, none)))) := ⟨(by decide : 2 < 116), kq_2, rfl, hR.1, hR.2, ⟨(by decide +kernel : (kY 2).cls ≠ _), (by decide +kernel : (kY 2).cls ≠ _), (by decide +kernel : (parseMethodDescriptor (kY 2).desc).map (fun d => d.parameters.length) = some 2)⟩, Or.inl (kG_S hT kl_HoleCounter_Complex_15 ks2 kini_java_util_Arrays kw2)⟩
theorem kd_HoleCounterLaw_13 {Ts : List Cond} (hT : ∀ w ∈ kG, w ∈ Ts) {R : Room} (hR : (kR 34).frames + 1 ≤ R.frames ∧ 8 + (4 + 11) + (kR 34).locals ≤ R.locals) : kWord "HoleCounterLaw" Ts R 13 (.inr (.inr (.inl (34, 2, some 3)))) := ⟨(by decide : 34 < 116), kq_34, rfl, hR.1, hR.2, ⟨(by decide +kernel : (kY 34).cls ≠ _), (by decide +kernel : (kY 34).cls ≠ _), (by decide +kernel : (parseMethodDescriptor (kY 34).desc).map (fun d => d.parameters.length) = some 2)⟩, kc3, kf3, 7, rfl, rfl, kG_V hT kl_HoleCounterLaw_13 ks34 kx34 kini_HoleCounter kw34⟩
theorem kd_HoleCounter_43 {Ts : List Cond} (hT : ∀ w ∈ kG, w ∈ Ts) {R : Room} (hR : (kR 52).frames + 1 ≤ R.frames ∧ 8 + (2 + 11) + (kR 52).locals ≤ R.locals) : kWord "HoleCounter" Ts R 43 (.inr (.inr (.inl (52, 1, some 3)))) := ⟨(by decide : 52 < 116), kq_52, rfl, hR.1, hR.2, ⟨(by decide +kernel : (kY 52).cls ≠ _), (by decide +kernel : (kY 52).cls ≠ _), (by decide +kernel : (parseMethodDescriptor (kY 52).desc).map (fun d => d.parameters.length) = some 1)⟩, kc3, kf3, 7, rfl, rfl, kG_V hT kl_HoleCounter_43 ks52 kx52 kini_HoleCounter kw52⟩
theorem kd_HoleCounter_47 {Ts : List Cond} (hT : ∀ w ∈ kG, w ∈ Ts) {R : Room} (hR : (kR 0).frames + 1 ≤ R.frames ∧ 8 + (1 + 11) + (kR 0).locals ≤ R.locals) : kWord "HoleCounter" Ts R 47 (.inr (.inr (.inl (0, 1, none)))) := ⟨(by decide : 0 < 116), kq_0, rfl, hR.1, hR.2, ⟨(by decide +kernel : (kY 0).cls ≠ _), (by decide +kernel : (kY 0).cls ≠ _), (by decide +kernel : (parseMethodDescriptor (kY 0).desc).map (fun d => d.parameters.length) = some 1)⟩, Or.inl (kG_S hT kl_HoleCounter_47 ks0 kini_java_lang_Integer kw0)⟩
theorem kd_HoleCounter_53 {Ts : List Cond} (hT : ∀ w ∈ kG, w ∈ Ts) {R : Room} (hR : (kR 10).frames + 1 ≤ R.frames ∧ 8 + (4 + 11) + (kR 10).locals ≤ R.locals) : kWord "HoleCounter" Ts R 53 (.inr (.inr (.inl (10, 1, some 0)))) := ⟨(by decide : 10 < 116), kq_10, rfl, hR.1, hR.2, ⟨(by decide +kernel : (kY 10).cls ≠ _), (by decide +kernel : (kY 10).cls ≠ _), (by decide +kernel : (parseMethodDescriptor (kY 10).desc).map (fun d => d.parameters.length) = some 1)⟩, kc0, kf0, 5, rfl, rfl, kG_V hT kl_HoleCounter_53 ks10 kx10 kini_HoleCounter_Complex kw10⟩
theorem kd_HoleCounter_Complex_41 {Ts : List Cond} (hT : ∀ w ∈ kG, w ∈ Ts) {R : Room} (hR : (kR 11).frames + 1 ≤ R.frames ∧ 8 + (3 + 11) + (kR 11).locals ≤ R.locals) : kWord "HoleCounter$Complex" Ts R 41 (.inr (.inr (.inl (11, 0, some 0)))) := ⟨(by decide : 11 < 116), kq_11, rfl, hR.1, hR.2, ⟨(by decide +kernel : (kY 11).cls ≠ _), (by decide +kernel : (kY 11).cls ≠ _), (by decide +kernel : (parseMethodDescriptor (kY 11).desc).map (fun d => d.parameters.length) = some 0)⟩, kc0, kf0, 5, rfl, rfl, kG_V hT kl_HoleCounter_Complex_41 ks11 kx11 kini_HoleCounter_Complex kw11⟩
theorem kd_HoleCounterLaw_18 {Ts : List Cond} (hT : ∀ w ∈ kG, w ∈ Ts) {R : Room} (hR : (kR 35).frames + 1 ≤ R.frames ∧ 8 + (3 + 11) + (kR 35).locals ≤ R.locals) : kWord "HoleCounterLaw" Ts R 18 (.inr (.inr (.inl (35, 1, some 3)))) := ⟨(by decide : 35 < 116), kq_35, rfl, hR.1, hR.2, ⟨(by decide +kernel : (kY 35).cls ≠ _), (by decide +kernel : (kY 35).cls ≠ _), (by decide +kernel : (parseMethodDescriptor (kY 35).desc).map (fun d => d.parameters.length) = some 1)⟩, kc3, kf3, 7, rfl, rfl, kG_V hT kl_HoleCounterLaw_18 ks35 kx35 kini_HoleCounter kw35⟩
theorem kd_HoleCounter_56 {Ts : List Cond} (hT : ∀ w ∈ kG, w ∈ Ts) {R : Room} (hR : (kR 3).frames + 1 ≤ R.frames ∧ 8 + (1 + 11) + (kR 3).locals ≤ R.locals) : kWord "HoleCounter" Ts R 56 (.inr (.inr (.inl (3, 0, some 0)))) := ⟨(by decide : 3 < 116), kq_3, rfl, hR.1, hR.2, ⟨(by decide +kernel : (kY 3).cls ≠ _), (by decide +kernel : (kY 3).cls ≠ _), (by decide +kernel : (parseMethodDescriptor (kY 3).desc).map (fun d => d.parameters.length) = some 0)⟩, kc0, kf0, 5, rfl, rfl, kG_V hT kl_HoleCounter_56 ks3 kx3 kini_HoleCounter_Complex kw3⟩
theorem kd_HoleCounterLaw_23 {Ts : List Cond} (hT : ∀ w ∈ kG, w ∈ Ts) {R : Room} (hR : (kR 36).frames + 1 ≤ R.frames ∧ 8 + (4 + 11) + (kR 36).locals ≤ R.locals) : kWord "HoleCounterLaw" Ts R 23 (.inr (.inr (.inl (36, 2, some 3)))) := ⟨(by decide : 36 < 116), kq_36, rfl, hR.1, hR.2, ⟨(by decide +kernel : (kY 36).cls ≠ _), (by decide +kernel : (kY 36).cls ≠ _), (by decide +kernel : (parseMethodDescriptor (kY 36).desc).map (fun d => d.parameters.length) = some 2)⟩, kc3, kf3, 7, rfl, rfl, kG_V hT kl_HoleCounterLaw_23 ks36 kx36 kini_HoleCounter kw36⟩
theorem kd_HoleCounter_59 {Ts : List Cond} (hT : ∀ w ∈ kG, w ∈ Ts) {R : Room} (hR : (kR 53).frames + 1 ≤ R.frames ∧ 8 + (1 + 11) + (kR 53).locals ≤ R.locals) : kWord "HoleCounter" Ts R 59 (.inr (.inr (.inl (53, 1, none)))) := ⟨(by decide : 53 < 116), kq_53, rfl, hR.1, hR.2, ⟨(by decide +kernel : (kY 53).cls ≠ _), (by decide +kernel : (kY 53).cls ≠ _), (by decide +kernel : (parseMethodDescriptor (kY 53).desc).map (fun d => d.parameters.length) = some 1)⟩, Or.inl (kG_S hT kl_HoleCounter_59 ks53 kini_HoleCounter kw53)⟩
theorem kd_HoleCounter_63 {Ts : List Cond} (hT : ∀ w ∈ kG, w ∈ Ts) {R : Room} (hR : (kR 4).frames + 1 ≤ R.frames ∧ 8 + (2 + 11) + (kR 4).locals ≤ R.locals) : kWord "HoleCounter" Ts R 63 (.inr (.inr (.inl (4, 1, some 0)))) := ⟨(by decide : 4 < 116), kq_4, rfl, hR.1, hR.2, ⟨(by decide +kernel : (kY 4).cls ≠ _), (by decide +kernel : (kY 4).cls ≠ _), (by decide +kernel : (parseMethodDescriptor (kY 4).desc).map (fun d => d.parameters.length) = some 1)⟩, kc0, kf0, 5, rfl, rfl, kG_V hT kl_HoleCounter_63 ks4 kx4 kini_HoleCounter_Complex kw4⟩
theorem kd_HoleCounterLaw_27 {Ts : List Cond} (hT : ∀ w ∈ kG, w ∈ Ts) {R : Room} (hR : (kR 37).frames + 1 ≤ R.frames ∧ 8 + (5 + 11) + (kR 37).locals ≤ R.locals) : kWord "HoleCounterLaw" Ts R 27 (.inr (.inr (.inl (37, 3, some 3)))) := ⟨(by decide : 37 < 116), kq_37, rfl, hR.1, hR.2, ⟨(by decide +kernel : (kY 37).cls ≠ _), (by decide +kernel : (kY 37).cls ≠ _), (by decide +kernel : (parseMethodDescriptor (kY 37).desc).map (fun d => d.parameters.length) = some 3)⟩, kc3, kf3, 7, rfl, rfl, kG_V hT kl_HoleCounterLaw_27 ks37 kx37 kini_HoleCounter kw37⟩
theorem kd_HoleCounter_66 {Ts : List Cond} (hT : ∀ w ∈ kG, w ∈ Ts) {R : Room} (hR : (kR 5).frames + 1 ≤ R.frames ∧ 8 + (3 + 11) + (kR 5).locals ≤ R.locals) : kWord "HoleCounter" Ts R 66 (.inr (.inr (.inl (5, 2, some 0)))) := ⟨(by decide : 5 < 116), kq_5, rfl, hR.1, hR.2, ⟨(by decide +kernel : (kY 5).cls ≠ _), (by decide +kernel : (kY 5).cls ≠ _), (by decide +kernel : (parseMethodDescriptor (kY 5).desc).map (fun d => d.parameters.length) = some 2)⟩, kc0, kf0, 5, rfl, rfl, kG_V hT kl_HoleCounter_66 ks5 kx5 kini_HoleCounter_Complex kw5⟩
theorem kd_HoleCounterLaw_32 {Ts : List Cond} (hT : ∀ w ∈ kG, w ∈ Ts) {R : Room} (hR : (kR 38).frames + 1 ≤ R.frames ∧ 8 + (6 + 11) + (kR 38).locals ≤ R.locals) : kWord "HoleCounterLaw" Ts R 32 (.inr (.inr (.inl (38, 4, some 3)))) := ⟨(by decide : 38 < 116), kq_38, rfl, hR.1, hR.2, ⟨(by decide +kernel : (kY 38).cls ≠ _), (by decide +kernel : (kY 38).cls ≠ _), (by decide +kernel : (parseMethodDescriptor (kY 38).desc).map (fun d => d.parameters.length) = some 4)⟩, kc3, kf3, 7, rfl, rfl, kG_V hT kl_HoleCounterLaw_32 ks38 kx38 kini_HoleCounter kw38⟩
theorem kd_HoleCounter_70 {Ts : List Cond} (hT : ∀ w ∈ kG, w ∈ Ts) {R : Room} (hR : (kR 55).frames + 1 ≤ R.frames ∧ 8 + (3 + 11) + (kR 55).locals ≤ R.locals) : kWord "HoleCounter" Ts R 70 (.inr (.inr (.inl (55, 2, none)))) := ⟨(by decide : 55 < 116), kq_55, rfl, hR.1, hR.2, ⟨(by decide +kernel : (kY 55).cls ≠ _), (by decide +kernel : (kY 55).cls ≠ _), (by decide +kernel : (parseMethodDescriptor (kY 55).desc).map (fun d => d.parameters.length) = some 2)⟩, Or.inl (kG_S hT kl_HoleCounter_70 ks55 kini_HoleCounter kw55)⟩
theorem kd_HoleCounter_157 {Ts : List Cond} (hT : ∀ w ∈ kG, w ∈ Ts) {R : Room} (hR : (kR 56).frames + 1 ≤ R.frames ∧ 8 + (1 + 11) + (kR 56).locals ≤ R.locals) : kWord "HoleCounter" Ts R 157 (.inr (.inr (.inl (56, 1, none)))) := ⟨(by decide : 56 < 116), kq_56, rfl, hR.1, hR.2, ⟨(by decide +kernel : (kY 56).cls ≠ _), (by decide +kernel : (kY 56).cls ≠ _), (by decide +kernel : (parseMethodDescriptor (kY 56).desc).map (fun d => d.parameters.length) = some 1)⟩, Or.inl (kG_S hT kl_HoleCounter_157 ks56 kini_HoleCounter kw56)⟩
theorem kd_HoleCounterLaw_37 {Ts : List Cond} (hT : ∀ w ∈ kG, w ∈ Ts) {R : Room} (hR : (kR 39).frames + 1 ≤ R.frames ∧ 8 + (3 + 11) + (kR 39).locals ≤ R.locals) : kWord "HoleCounterLaw" Ts R 37 (.inr (.inr (.inl (39, 1, some 3)))) := ⟨(by decide : 39 < 116), kq_39, rfl, hR.1, hR.2, ⟨(by decide +kernel : (kY 39).cls ≠ _), (by decide +kernel : (kY 39).cls ≠ _), (by decide +kernel : (parseMethodDescriptor (kY 39).desc).map (fun d => d.parameters.length) = some 1)⟩, kc3, kf3, 7, rfl, rfl, kG_V hT kl_HoleCounterLaw_37 ks39 kx39 kini_HoleCounter kw39⟩
theorem kd_HoleCounterLaw_42 {Ts : List Cond} (hT : ∀ w ∈ kG, w ∈ Ts) {R : Room} (hR : (kR 40).frames + 1 ≤ R.frames ∧ 8 + (3 + 11) + (kR 40).locals ≤ R.locals) : kWord "HoleCounterLaw" Ts R 42 (.inr (.inr (.inl (40, 2, some 3)))) := ⟨(by decide : 40 < 116), kq_40, rfl, hR.1, hR.2, ⟨(by decide +kernel : (kY 40).cls ≠ _), (by decide +kernel : (kY 40).cls ≠ _), (by decide +kernel : (parseMethodDescriptor (kY 40).desc).map (fun d => d.parameters.length) = some 2)⟩, kc3, kf3, 7, rfl, rfl, kG_V hT kl_HoleCounterLaw_42 ks40 kx40 kini_HoleCounter kw40⟩
theorem kd_HoleCounter_74 {Ts : List Cond} (hT : ∀ w ∈ kG, w ∈ Ts) {R : Room} (hR : (kR 57).frames + 1 ≤ R.frames ∧ 8 + (5 + 11) + (kR 57).locals ≤ R.locals) : kWord "HoleCounter" Ts R 74 (.inr (.inr (.inl (57, 3, some 3)))) := ⟨(by decide : 57 < 116), kq_57, rfl, hR.1, hR.2, ⟨(by decide +kernel : (kY 57).cls ≠ _), (by decide +kernel : (kY 57).cls ≠ _), (by decide +kernel : (parseMethodDescriptor (kY 57).desc).map (fun d => d.parameters.length) = some 3)⟩, kc3, kf3, 7, rfl, rfl, kG_V hT kl_HoleCounter_74 ks57 kx57 kini_HoleCounter kw57⟩
theorem kd_HoleCounter_145 {Ts : List Cond} (hT : ∀ w ∈ kG, w ∈ Ts) {R : Room} (hR : (kR 58).frames + 1 ≤ R.frames ∧ 8 + (4 + 11) + (kR 58).locals ≤ R.locals) : kWord "HoleCounter" Ts R 145 (.inr (.inr (.inl (58, 3, some 3)))) := ⟨(by decide : 58 < 116), kq_58, rfl, hR.1, hR.2, ⟨(by decide +kernel : (kY 58).cls ≠ _), (by decide +kernel : (kY 58).cls ≠ _), (by decide +kernel : (parseMethodDescriptor (kY 58).desc).map (fun d => d.parameters.length) = some 3)⟩, kc3, kf3, 7, rfl, rfl, kG_V hT kl_HoleCounter_145 ks58 kx58 kini_HoleCounter kw58⟩
theorem kd_HoleCounter_78 {Ts : List Cond} (hT : ∀ w ∈ kG, w ∈ Ts) {R : Room} (hR : (kR 59).frames + 1 ≤ R.frames ∧ 8 + (3 + 11) + (kR 59).locals ≤ R.locals) : kWord "HoleCounter" Ts R 78 (.inr (.inr (.inl (59, 2, some 3)))) := ⟨(by decide : 59 < 116), kq_59, rfl, hR.1, hR.2, ⟨(by decide +kernel : (kY 59).cls ≠ _), (by decide +kernel : (kY 59).cls ≠ _), (by decide +kernel : (parseMethodDescriptor (kY 59).desc).map (fun d => d.parameters.length) = some 2)⟩, kc3, kf3, 7, rfl, rfl, kG_V hT kl_HoleCounter_78 ks59 kx59 kini_HoleCounter kw59⟩
theorem kd_HoleCounter_105 {Ts : List Cond} (hT : ∀ w ∈ kG, w ∈ Ts) {R : Room} (hR : (kR 16).frames + 1 ≤ R.frames ∧ 8 + (5 + 11) + (kR 16).locals ≤ R.locals) : kWord "HoleCounter" Ts R 105 (.inr (.inr (.inl (16, 2, some 1)))) := ⟨(by decide : 16 < 116), kq_16, rfl, hR.1, hR.2, ⟨(by decide +kernel : (kY 16).cls ≠ _), (by decide +kernel : (kY 16).cls ≠ _), (by decide +kernel : (parseMethodDescriptor (kY 16).desc).map (fun d => d.parameters.length) = some 2)⟩, kc1, kf1, 11, rfl, rfl, kG_V hT kl_HoleCounter_105 ks16 kx16 kini_HoleCounter_Grid kw16⟩
theorem kd_HoleCounter_108 {Ts : List Cond} (hT : ∀ w ∈ kG, w ∈ Ts) {R : Room} (hR : (kR 60).frames + 1 ≤ R.frames ∧ 8 + (9 + 11) + (kR 60).locals ≤ R.locals) : kWord "HoleCounter" Ts R 108 (.inr (.inr (.inl (60, 4, some 3)))) := ⟨(by decide : 60 < 116), kq_60, rfl, hR.1, hR.2, ⟨(by decide +kernel : (kY 60).cls ≠ _), (by decide +kernel : (kY 60).cls ≠ _), (by decide +kernel : (parseMethodDescriptor (kY 60).desc).map (fun d => d.parameters.length) = some 4)⟩, kc3, kf3, 7, rfl, rfl, kG_V hT kl_HoleCounter_108 ks60 kx60 kini_HoleCounter kw60⟩
theorem kd_HoleCounter_160 {Ts : List Cond} (hT : ∀ w ∈ kG, w ∈ Ts) {R : Room} (hR : (kR 7).frames + 1 ≤ R.frames ∧ 8 + (2 + 11) + (kR 7).locals ≤ R.locals) : kWord "HoleCounter" Ts R 160 (.inr (.inr (.inl (7, 1, some 0)))) := ⟨(by decide : 7 < 116), kq_7, rfl, hR.1, hR.2, ⟨(by decide +kernel : (kY 7).cls ≠ _), (by decide +kernel : (kY 7).cls ≠ _), (by decide +kernel : (parseMethodDescriptor (kY 7).desc).map (fun d => d.parameters.length) = some 1)⟩, kc0, kf0, 5, rfl, rfl, kG_V hT kl_HoleCounter_160 ks7 kx7 kini_HoleCounter_Complex kw7⟩
theorem kd_HoleCounter_112 {Ts : List Cond} (hT : ∀ w ∈ kG, w ∈ Ts) {R : Room} (hR : (kR 17).frames + 1 ≤ R.frames ∧ 8 + (4 + 11) + (kR 17).locals ≤ R.locals) : kWord "HoleCounter" Ts R 112 (.inr (.inr (.inl (17, 3, some 1)))) := ⟨(by decide : 17 < 116), kq_17, rfl, hR.1, hR.2, ⟨(by decide +kernel : (kY 17).cls ≠ _), (by decide +kernel : (kY 17).cls ≠ _), (by decide +kernel : (parseMethodDescriptor (kY 17).desc).map (fun d => d.parameters.length) = some 3)⟩, kc1, kf1, 11, rfl, rfl, kG_V hT kl_HoleCounter_112 ks17 kx17 kini_HoleCounter_Grid kw17⟩
theorem kd_HoleCounter_136 {Ts : List Cond} (hT : ∀ w ∈ kG, w ∈ Ts) {R : Room} (hR : (kR 19).frames + 1 ≤ R.frames ∧ 8 + (9 + 11) + (kR 19).locals ≤ R.locals) : kWord "HoleCounter" Ts R 136 (.inr (.inr (.inl (19, 2, some 1)))) := ⟨(by decide : 19 < 116), kq_19, rfl, hR.1, hR.2, ⟨(by decide +kernel : (kY 19).cls ≠ _), (by decide +kernel : (kY 19).cls ≠ _), (by decide +kernel : (parseMethodDescriptor (kY 19).desc).map (fun d => d.parameters.length) = some 2)⟩, kc1, kf1, 11, rfl, rfl, kG_V hT kl_HoleCounter_136 ks19 kx19 kini_HoleCounter_Grid kw19⟩
theorem kd_HoleCounter_Grid_41 {Ts : List Cond} (hT : ∀ w ∈ kG, w ∈ Ts) {R : Room} (hR : (kR 20).frames + 1 ≤ R.frames ∧ 8 + (7 + 11) + (kR 20).locals ≤ R.locals) : kWord "HoleCounter$Grid" Ts R 41 (.inr (.inr (.inl (20, 2, some 1)))) := ⟨(by decide : 20 < 116), kq_20, rfl, hR.1, hR.2, ⟨(by decide +kernel : (kY 20).cls ≠ _), (by decide +kernel : (kY 20).cls ≠ _), (by decide +kernel : (parseMethodDescriptor (kY 20).desc).map (fun d => d.parameters.length) = some 2)⟩, kc1, kf1, 11, rfl, rfl, kG_V hT kl_HoleCounter_Grid_41 ks20 kx20 kini_HoleCounter_Grid kw20⟩
theorem kd_HoleCounter_Grid_49 {Ts : List Cond} (hT : ∀ w ∈ kG, w ∈ Ts) {R : Room} (hR : (kR 21).frames + 1 ≤ R.frames ∧ 8 + (5 + 11) + (kR 21).locals ≤ R.locals) : kWord "HoleCounter$Grid" Ts R 49 (.inr (.inr (.inl (21, 3, some 1)))) := ⟨(by decide : 21 < 116), kq_21, rfl, hR.1, hR.2, ⟨(by decide +kernel : (kY 21).cls ≠ _), (by decide +kernel : (kY 21).cls ≠ _), (by decide +kernel : (parseMethodDescriptor (kY 21).desc).map (fun d => d.parameters.length) = some 3)⟩, kc1, kf1, 11, rfl, rfl, kG_V hT kl_HoleCounter_Grid_49 ks21 kx21 kini_HoleCounter_Grid kw21⟩
theorem kd_HoleCounter_Grid_53 {Ts : List Cond} (hT : ∀ w ∈ kG, w ∈ Ts) {R : Room} (hR : (kR 22).frames + 1 ≤ R.frames ∧ 8 + (5 + 11) + (kR 22).locals ≤ R.locals) : kWord "HoleCounter$Grid" Ts R 53 (.inr (.inr (.inl (22, 2, some 1)))) := ⟨(by decide : 22 < 116), kq_22, rfl, hR.1, hR.2, ⟨(by decide +kernel : (kY 22).cls ≠ _), (by decide +kernel : (kY 22).cls ≠ _), (by decide +kernel : (parseMethodDescriptor (kY 22).desc).map (fun d => d.parameters.length) = some 2)⟩, kc1, kf1, 11, rfl, rfl, kG_V hT kl_HoleCounter_Grid_53 ks22 kx22 kini_HoleCounter_Grid kw22⟩
theorem kd_HoleCounter_Grid_56 {Ts : List Cond} (hT : ∀ w ∈ kG, w ∈ Ts) {R : Room} (hR : (kR 23).frames + 1 ≤ R.frames ∧ 8 + (8 + 11) + (kR 23).locals ≤ R.locals) : kWord "HoleCounter$Grid" Ts R 56 (.inr (.inr (.inl (23, 3, some 1)))) := ⟨(by decide : 23 < 116), kq_23, rfl, hR.1, hR.2, ⟨(by decide +kernel : (kY 23).cls ≠ _), (by decide +kernel : (kY 23).cls ≠ _), (by decide +kernel : (parseMethodDescriptor (kY 23).desc).map (fun d => d.parameters.length) = some 3)⟩, kc1, kf1, 11, rfl, rfl, kG_V hT kl_HoleCounter_Grid_56 ks23 kx23 kini_HoleCounter_Grid kw23⟩
theorem kd_HoleCounter_Grid_60 {Ts : List Cond} (hT : ∀ w ∈ kG, w ∈ Ts) {R : Room} (hR : (kR 25).frames + 1 ≤ R.frames ∧ 8 + (17 + 11) + (kR 25).locals ≤ R.locals) : kWord "HoleCounter$Grid" Ts R 60 (.inr (.inr (.inl (25, 1, some 1)))) := ⟨(by decide : 25 < 116), kq_25, rfl, hR.1, hR.2, ⟨(by decide +kernel : (kY 25).cls ≠ _), (by decide +kernel : (kY 25).cls ≠ _), (by decide +kernel : (parseMethodDescriptor (kY 25).desc).map (fun d => d.parameters.length) = some 1)⟩, kc1, kf1, 11, rfl, rfl, kG_V hT kl_HoleCounter_Grid_60 ks25 kx25 kini_HoleCounter_Grid kw25⟩
theorem kd_HoleCounter_Grid_64 {Ts : List Cond} (hT : ∀ w ∈ kG, w ∈ Ts) {R : Room} (hR : (kR 24).frames + 1 ≤ R.frames ∧ 8 + (8 + 11) + (kR 24).locals ≤ R.locals) : kWord "HoleCounter$Grid" Ts R 64 (.inr (.inr (.inl (24, 3, some 1)))) := ⟨(by decide : 24 < 116), kq_24, rfl, hR.1, hR.2, ⟨(by decide +kernel : (kY 24).cls ≠ _), (by decide +kernel : (kY 24).cls ≠ _), (by decide +kernel : (parseMethodDescriptor (kY 24).desc).map (fun d => d.parameters.length) = some 3)⟩, kc1, kf1, 11, rfl, rfl, kG_V hT kl_HoleCounter_Grid_64 ks24 kx24 kini_HoleCounter_Grid kw24⟩
theorem kd_HoleCounterLaw_46 {Ts : List Cond} (hT : ∀ w ∈ kG, w ∈ Ts) {R : Room} (hR : (kR 41).frames + 1 ≤ R.frames ∧ 8 + (7 + 11) + (kR 41).locals ≤ R.locals) : kWord "HoleCounterLaw" Ts R 46 (.inr (.inr (.inl (41, 3, some 3)))) := ⟨(by decide : 41 < 116), kq_41, rfl, hR.1, hR.2, ⟨(by decide +kernel : (kY 41).cls ≠ _), (by decide +kernel : (kY 41).cls ≠ _), (by decide +kernel : (parseMethodDescriptor (kY 41).desc).map (fun d => d.parameters.length) = some 3)⟩, kc3, kf3, 7, rfl, rfl, kG_V hT kl_HoleCounterLaw_46 ks41 kx41 kini_HoleCounter kw41⟩
theorem kd_HoleCounter_82 {Ts : List Cond} (hT : ∀ w ∈ kG, w ∈ Ts) {R : Room} (hR : (kR 28).frames + 1 ≤ R.frames ∧ 8 + (6 + 11) + (kR 28).locals ≤ R.locals) : kWord "HoleCounter" Ts R 82 (.inr (.inr (.inl (28, 0, some 1)))) := ⟨(by decide : 28 < 116), kq_28, rfl, hR.1, hR.2, ⟨(by decide +kernel : (kY 28).cls ≠ _), (by decide +kernel : (kY 28).cls ≠ _), (by decide +kernel : (parseMethodDescriptor (kY 28).desc).map (fun d => d.parameters.length) = some 0)⟩, kc1, kf1, 11, rfl, rfl, kG_V hT kl_HoleCounter_82 ks28 kx28 kini_HoleCounter_Grid kw28⟩
theorem kd_HoleCounter_Grid_86 {Ts : List Cond} (hT : ∀ w ∈ kG, w ∈ Ts) {R : Room} (hR : (kR 26).frames + 1 ≤ R.frames ∧ 8 + (5 + 11) + (kR 26).locals ≤ R.locals) : kWord "HoleCounter$Grid" Ts R 86 (.inr (.inr (.inl (26, 0, some 1)))) := ⟨(by decide : 26 < 116), kq_26, rfl, hR.1, hR.2, ⟨(by decide +kernel : (kY 26).cls ≠ _), (by decide +kernel : (kY 26).cls ≠ _), (by decide +kernel : (parseMethodDescriptor (kY 26).desc).map (fun d => d.parameters.length) = some 0)⟩, kc1, kf1, 11, rfl, rfl, kG_V hT kl_HoleCounter_Grid_86 ks26 kx26 kini_HoleCounter_Grid kw26⟩
theorem kd_HoleCounter_Grid_68 {Ts : List Cond} (hT : ∀ w ∈ kG, w ∈ Ts) {R : Room} (hR : (kR 19).frames + 1 ≤ R.frames ∧ 8 + (9 + 11) + (kR 19).locals ≤ R.locals) : kWord "HoleCounter$Grid" Ts R 68 (.inr (.inr (.inl (19, 2, some 1)))) := ⟨(by decide : 19 < 116), kq_19, rfl, hR.1, hR.2, ⟨(by decide +kernel : (kY 19).cls ≠ _), (by decide +kernel : (kY 19).cls ≠ _), (by decide +kernel : (parseMethodDescriptor (kY 19).desc).map (fun d => d.parameters.length) = some 2)⟩, kc1, kf1, 11, rfl, rfl, kG_V hT kl_HoleCounter_Grid_68 ks19 kx19 kini_HoleCounter_Grid kw19⟩
theorem kd_HoleCounter_Grid_83 {Ts : List Cond} (hT : ∀ w ∈ kG, w ∈ Ts) {R : Room} (hR : (kR 27).frames + 1 ≤ R.frames ∧ 8 + (3 + 11) + (kR 27).locals ≤ R.locals) : kWord "HoleCounter$Grid" Ts R 83 (.inr (.inr (.inl (27, 2, some 1)))) := ⟨(by decide : 27 < 116), kq_27, rfl, hR.1, hR.2, ⟨(by decide +kernel : (kY 27).cls ≠ _), (by decide +kernel : (kY 27).cls ≠ _), (by decide +kernel : (parseMethodDescriptor (kY 27).desc).map (fun d => d.parameters.length) = some 2)⟩, kc1, kf1, 11, rfl, rfl, kG_V hT kl_HoleCounter_Grid_83 ks27 kx27 kini_HoleCounter_Grid kw27⟩
theorem kd_HoleCounter_86 {Ts : List Cond} (hT : ∀ w ∈ kG, w ∈ Ts) {R : Room} (hR : (kR 18).frames + 1 ≤ R.frames ∧ 8 + (2 + 11) + (kR 18).locals ≤ R.locals) : kWord "HoleCounter" Ts R 86 (.inr (.inr (.inl (18, 1, some 1)))) := ⟨(by decide : 18 < 116), kq_18, rfl, hR.1, hR.2, ⟨(by decide +kernel : (kY 18).cls ≠ _), (by decide +kernel : (kY 18).cls ≠ _), (by decide +kernel : (parseMethodDescriptor (kY 18).desc).map (fun d => d.parameters.length) = some 1)⟩, kc1, kf1, 11, rfl, rfl, kG_V hT kl_HoleCounter_86 ks18 kx18 kini_HoleCounter_Grid kw18⟩
theorem kd_HoleCounterLaw_50 {Ts : List Cond} (hT : ∀ w ∈ kG, w ∈ Ts) {R : Room} (hR : (kR 42).frames + 1 ≤ R.frames ∧ 8 + (4 + 11) + (kR 42).locals ≤ R.locals) : kWord "HoleCounterLaw" Ts R 50 (.inr (.inr (.inl (42, 3, some 3)))) := ⟨(by decide : 42 < 116), kq_42, rfl, hR.1, hR.2, ⟨(by decide +kernel : (kY 42).cls ≠ _), (by decide +kernel : (kY 42).cls ≠ _), (by decide +kernel : (parseMethodDescriptor (kY 42).desc).map (fun d => d.parameters.length) = some 3)⟩, kc3, kf3, 7, rfl, rfl, kG_V hT kl_HoleCounterLaw_50 ks42 kx42 kini_HoleCounter kw42⟩
theorem kd_HoleCounterLaw_54 {Ts : List Cond} (hT : ∀ w ∈ kG, w ∈ Ts) {R : Room} (hR : (kR 43).frames + 1 ≤ R.frames ∧ 8 + (5 + 11) + (kR 43).locals ≤ R.locals) : kWord "HoleCounterLaw" Ts R 54 (.inr (.inr (.inl (43, 3, some 3)))) := ⟨(by decide : 43 < 116), kq_43, rfl, hR.1, hR.2, ⟨(by decide +kernel : (kY 43).cls ≠ _), (by decide +kernel : (kY 43).cls ≠ _), (by decide +kernel : (parseMethodDescriptor (kY 43).desc).map (fun d => d.parameters.length) = some 3)⟩, kc3, kf3, 7, rfl, rfl, kG_V hT kl_HoleCounterLaw_54 ks43 kx43 kini_HoleCounter kw43⟩
theorem kd_HoleCounter_89 {Ts : List Cond} (hT : ∀ w ∈ kG, w ∈ Ts) {R : Room} (hR : (kR 6).frames + 1 ≤ R.frames ∧ 8 + (2 + 11) + (kR 6).locals ≤ R.locals) : kWord "HoleCounter" Ts R 89 (.inr (.inr (.inl (6, 1, some 0)))) := ⟨(by decide : 6 < 116), kq_6, rfl, hR.1, hR.2, ⟨(by decide +kernel : (kY 6).cls ≠ _), (by decide +kernel : (kY 6).cls ≠ _), (by decide +kernel : (parseMethodDescriptor (kY 6).desc).map (fun d => d.parameters.length) = some 1)⟩, kc0, kf0, 5, rfl, rfl, kG_V hT kl_HoleCounter_89 ks6 kx6 kini_HoleCounter_Complex kw6⟩
theorem kd_HoleCounter_92 {Ts : List Cond} (hT : ∀ w ∈ kG, w ∈ Ts) {R : Room} (hR : (kR 9).frames + 1 ≤ R.frames ∧ 8 + (3 + 11) + (kR 9).locals ≤ R.locals) : kWord "HoleCounter" Ts R 92 (.inr (.inr (.inl (9, 2, some 0)))) := ⟨(by decide : 9 < 116), kq_9, rfl, hR.1, hR.2, ⟨(by decide +kernel : (kY 9).cls ≠ _), (by decide +kernel : (kY 9).cls ≠ _), (by decide +kernel : (parseMethodDescriptor (kY 9).desc).map (fun d => d.parameters.length) = some 2)⟩, kc0, kf0, 5, rfl, rfl, kG_V hT kl_HoleCounter_92 ks9 kx9 kini_HoleCounter_Complex kw9⟩
theorem kd_HoleCounterLaw_59 {Ts : List Cond} (hT : ∀ w ∈ kG, w ∈ Ts) {R : Room} (hR : (kR 44).frames + 1 ≤ R.frames ∧ 8 + (4 + 11) + (kR 44).locals ≤ R.locals) : kWord "HoleCounterLaw" Ts R 59 (.inr (.inr (.inl (44, 2, some 3)))) := ⟨(by decide : 44 < 116), kq_44, rfl, hR.1, hR.2, ⟨(by decide +kernel : (kY 44).cls ≠ _), (by decide +kernel : (kY 44).cls ≠ _), (by decide +kernel : (parseMethodDescriptor (kY 44).desc).map (fun d => d.parameters.length) = some 2)⟩, kc3, kf3, 7, rfl, rfl, kG_V hT kl_HoleCounterLaw_59 ks44 kx44 kini_HoleCounter kw44⟩
theorem kd_HoleCounter_96 {Ts : List Cond} (hT : ∀ w ∈ kG, w ∈ Ts) {R : Room} (hR : (kR 8).frames + 1 ≤ R.frames ∧ 8 + (2 + 11) + (kR 8).locals ≤ R.locals) : kWord "HoleCounter" Ts R 96 (.inr (.inr (.inl (8, 1, some 0)))) := ⟨(by decide : 8 < 116), kq_8, rfl, hR.1, hR.2, ⟨(by decide +kernel : (kY 8).cls ≠ _), (by decide +kernel : (kY 8).cls ≠ _), (by decide +kernel : (parseMethodDescriptor (kY 8).desc).map (fun d => d.parameters.length) = some 1)⟩, kc0, kf0, 5, rfl, rfl, kG_V hT kl_HoleCounter_96 ks8 kx8 kini_HoleCounter_Complex kw8⟩
theorem kd_HoleCounterLaw_63 {Ts : List Cond} (hT : ∀ w ∈ kG, w ∈ Ts) {R : Room} (hR : (kR 45).frames + 1 ≤ R.frames ∧ 8 + (4 + 11) + (kR 45).locals ≤ R.locals) : kWord "HoleCounterLaw" Ts R 63 (.inr (.inr (.inl (45, 2, some 3)))) := ⟨(by decide : 45 < 116), kq_45, rfl, hR.1, hR.2, ⟨(by decide +kernel : (kY 45).cls ≠ _), (by decide +kernel : (kY 45).cls ≠ _), (by decide +kernel : (parseMethodDescriptor (kY 45).desc).map (fun d => d.parameters.length) = some 2)⟩, kc3, kf3, 7, rfl, rfl, kG_V hT kl_HoleCounterLaw_63 ks45 kx45 kini_HoleCounter kw45⟩
theorem kd_HoleCounter_99 {Ts : List Cond} (hT : ∀ w ∈ kG, w ∈ Ts) {R : Room} (hR : (kR 12).frames + 1 ≤ R.frames ∧ 8 + (6 + 11) + (kR 12).locals ≤ R.locals) : kWord "HoleCounter" Ts R 99 (.inr (.inr (.inl (12, 1, some 0)))) := ⟨(by decide : 12 < 116), kq_12, rfl, hR.1, hR.2, ⟨(by decide +kernel : (kY 12).cls ≠ _), (by decide +kernel : (kY 12).cls ≠ _), (by decide +kernel : (parseMethodDescriptor (kY 12).desc).map (fun d => d.parameters.length) = some 1)⟩, kc0, kf0, 5, rfl, rfl, kG_V hT kl_HoleCounter_99 ks12 kx12 kini_HoleCounter_Complex kw12⟩
theorem kd_HoleCounter_Complex_44 {Ts : List Cond} (hT : ∀ w ∈ kG, w ∈ Ts) {R : Room} (hR : (kR 4).frames + 1 ≤ R.frames ∧ 8 + (2 + 11) + (kR 4).locals ≤ R.locals) : kWord "HoleCounter$Complex" Ts R 44 (.inr (.inr (.inl (4, 1, some 0)))) := ⟨(by decide : 4 < 116), kq_4, rfl, hR.1, hR.2, ⟨(by decide +kernel : (kY 4).cls ≠ _), (by decide +kernel : (kY 4).cls ≠ _), (by decide +kernel : (parseMethodDescriptor (kY 4).desc).map (fun d => d.parameters.length) = some 1)⟩, kc0, kf0, 5, rfl, rfl, kG_V hT kl_HoleCounter_Complex_44 ks4 kx4 kini_HoleCounter_Complex kw4⟩
theorem kd_HoleCounter_Complex_47 {Ts : List Cond} (hT : ∀ w ∈ kG, w ∈ Ts) {R : Room} (hR : (kR 5).frames + 1 ≤ R.frames ∧ 8 + (3 + 11) + (kR 5).locals ≤ R.locals) : kWord "HoleCounter$Complex" Ts R 47 (.inr (.inr (.inl (5, 2, some 0)))) := ⟨(by decide : 5 < 116), kq_5, rfl, hR.1, hR.2, ⟨(by decide +kernel : (kY 5).cls ≠ _), (by decide +kernel : (kY 5).cls ≠ _), (by decide +kernel : (parseMethodDescriptor (kY 5).desc).map (fun d => d.parameters.length) = some 2)⟩, kc0, kf0, 5, rfl, rfl, kG_V hT kl_HoleCounter_Complex_47 ks5 kx5 kini_HoleCounter_Complex kw5⟩
theorem kd_HoleCounterLaw_67 {Ts : List Cond} (hT : ∀ w ∈ kG, w ∈ Ts) {R : Room} (hR : (kR 46).frames + 1 ≤ R.frames ∧ 8 + (6 + 11) + (kR 46).locals ≤ R.locals) : kWord "HoleCounterLaw" Ts R 67 (.inr (.inr (.inl (46, 2, some 3)))) := ⟨(by decide : 46 < 116), kq_46, rfl, hR.1, hR.2, ⟨(by decide +kernel : (kY 46).cls ≠ _), (by decide +kernel : (kY 46).cls ≠ _), (by decide +kernel : (parseMethodDescriptor (kY 46).desc).map (fun d => d.parameters.length) = some 2)⟩, kc3, kf3, 7, rfl, rfl, kG_V hT kl_HoleCounterLaw_67 ks46 kx46 kini_HoleCounter kw46⟩
theorem kd_HoleCounter_102 {Ts : List Cond} (hT : ∀ w ∈ kG, w ∈ Ts) {R : Room} (hR : (kR 13).frames + 1 ≤ R.frames ∧ 8 + (3 + 11) + (kR 13).locals ≤ R.locals) : kWord "HoleCounter" Ts R 102 (.inr (.inr (.inl (13, 1, some 0)))) := ⟨(by decide : 13 < 116), kq_13, rfl, hR.1, hR.2, ⟨(by decide +kernel : (kY 13).cls ≠ _), (by decide +kernel : (kY 13).cls ≠ _), (by decide +kernel : (parseMethodDescriptor (kY 13).desc).map (fun d => d.parameters.length) = some 1)⟩, kc0, kf0, 5, rfl, rfl, kG_V hT kl_HoleCounter_102 ks13 kx13 kini_HoleCounter_Complex kw13⟩
theorem kd_HoleCounter_Complex_54 {Ts : List Cond} (hT : ∀ w ∈ kG, w ∈ Ts) {R : Room} (hR : (kR 12).frames + 1 ≤ R.frames ∧ 8 + (6 + 11) + (kR 12).locals ≤ R.locals) : kWord "HoleCounter$Complex" Ts R 54 (.inr (.inr (.inl (12, 1, some 0)))) := ⟨(by decide : 12 < 116), kq_12, rfl, hR.1, hR.2, ⟨(by decide +kernel : (kY 12).cls ≠ _), (by decide +kernel : (kY 12).cls ≠ _), (by decide +kernel : (parseMethodDescriptor (kY 12).desc).map (fun d => d.parameters.length) = some 1)⟩, kc0, kf0, 5, rfl, rfl, kG_V hT kl_HoleCounter_Complex_54 ks12 kx12 kini_HoleCounter_Complex kw12⟩
theorem kd_HoleCounter_116 {Ts : List Cond} (hT : ∀ w ∈ kG, w ∈ Ts) {R : Room} (hR : (kR 29).frames + 1 ≤ R.frames ∧ 8 + (8 + 11) + (kR 29).locals ≤ R.locals) : kWord "HoleCounter" Ts R 116 (.inr (.inr (.inl (29, 0, some 1)))) := ⟨(by decide : 29 < 116), kq_29, rfl, hR.1, hR.2, ⟨(by decide +kernel : (kY 29).cls ≠ _), (by decide +kernel : (kY 29).cls ≠ _), (by decide +kernel : (parseMethodDescriptor (kY 29).desc).map (fun d => d.parameters.length) = some 0)⟩, kc1, kf1, 11, rfl, rfl, kG_V hT kl_HoleCounter_116 ks29 kx29 kini_HoleCounter_Grid kw29⟩
theorem kd_HoleCounter_Grid_90 {Ts : List Cond} (hT : ∀ w ∈ kG, w ∈ Ts) {R : Room} (hR : (kR 30).frames + 1 ≤ R.frames ∧ 8 + (6 + 11) + (kR 30).locals ≤ R.locals) : kWord "HoleCounter$Grid" Ts R 90 (.inr (.inr (.inl (30, 2, some 1)))) := ⟨(by decide : 30 < 116), kq_30, rfl, hR.1, hR.2, ⟨(by decide +kernel : (kY 30).cls ≠ _), (by decide +kernel : (kY 30).cls ≠ _), (by decide +kernel : (parseMethodDescriptor (kY 30).desc).map (fun d => d.parameters.length) = some 2)⟩, kc1, kf1, 11, rfl, rfl, kG_V hT kl_HoleCounter_Grid_90 ks30 kx30 kini_HoleCounter_Grid kw30⟩
theorem kd_HoleCounterLaw_71 {Ts : List Cond} (hT : ∀ w ∈ kG, w ∈ Ts) {R : Room} (hR : (kR 47).frames + 1 ≤ R.frames ∧ 8 + (3 + 11) + (kR 47).locals ≤ R.locals) : kWord "HoleCounterLaw" Ts R 71 (.inr (.inr (.inl (47, 2, some 3)))) := ⟨(by decide : 47 < 116), kq_47, rfl, hR.1, hR.2, ⟨(by decide +kernel : (kY 47).cls ≠ _), (by decide +kernel : (kY 47).cls ≠ _), (by decide +kernel : (parseMethodDescriptor (kY 47).desc).map (fun d => d.parameters.length) = some 2)⟩, kc3, kf3, 7, rfl, rfl, kG_V hT kl_HoleCounterLaw_71 ks47 kx47 kini_HoleCounter kw47⟩
theorem kd_HoleCounterLaw_76 {Ts : List Cond} (hT : ∀ w ∈ kG, w ∈ Ts) {R : Room} (hR : (kR 48).frames + 1 ≤ R.frames ∧ 8 + (3 + 11) + (kR 48).locals ≤ R.locals) : kWord "HoleCounterLaw" Ts R 76 (.inr (.inr (.inl (48, 0, some 3)))) := ⟨(by decide : 48 < 116), kq_48, rfl, hR.1, hR.2, ⟨(by decide +kernel : (kY 48).cls ≠ _), (by decide +kernel : (kY 48).cls ≠ _), (by decide +kernel : (parseMethodDescriptor (kY 48).desc).map (fun d => d.parameters.length) = some 0)⟩, kc3, kf3, 7, rfl, rfl, kG_V hT kl_HoleCounterLaw_76 ks48 kx48 kini_HoleCounter kw48⟩
theorem kd_HoleCounter_119 {Ts : List Cond} (hT : ∀ w ∈ kG, w ∈ Ts) {R : Room} (hR : (kR 62).frames + 1 ≤ R.frames ∧ 8 + (4 + 11) + (kR 62).locals ≤ R.locals) : kWord "HoleCounter" Ts R 119 (.inr (.inr (.inl (62, 1, some 3)))) := ⟨(by decide : 62 < 116), kq_62, rfl, hR.1, hR.2, ⟨(by decide +kernel : (kY 62).cls ≠ _), (by decide +kernel : (kY 62).cls ≠ _), (by decide +kernel : (parseMethodDescriptor (kY 62).desc).map (fun d => d.parameters.length) = some 1)⟩, kc3, kf3, 7, rfl, rfl, kG_V hT kl_HoleCounter_119 ks62 kx62 kini_HoleCounter kw62⟩
theorem kd_HoleCounterLaw_81 {Ts : List Cond} (hT : ∀ w ∈ kG, w ∈ Ts) {R : Room} (hR : (kR 49).frames + 1 ≤ R.frames ∧ 8 + (6 + 11) + (kR 49).locals ≤ R.locals) : kWord "HoleCounterLaw" Ts R 81 (.inr (.inr (.inl (49, 1, some 3)))) := ⟨(by decide : 49 < 116), kq_49, rfl, hR.1, hR.2, ⟨(by decide +kernel : (kY 49).cls ≠ _), (by decide +kernel : (kY 49).cls ≠ _), (by decide +kernel : (parseMethodDescriptor (kY 49).desc).map (fun d => d.parameters.length) = some 1)⟩, kc3, kf3, 7, rfl, rfl, kG_V hT kl_HoleCounterLaw_81 ks49 kx49 kini_HoleCounter kw49⟩
theorem kd_HoleCounter_122 {Ts : List Cond} (hT : ∀ w ∈ kG, w ∈ Ts) {R : Room} (hR : (kR 48).frames + 1 ≤ R.frames ∧ 8 + (3 + 11) + (kR 48).locals ≤ R.locals) : kWord "HoleCounter" Ts R 122 (.inr (.inr (.inl (48, 0, some 3)))) := ⟨(by decide : 48 < 116), kq_48, rfl, hR.1, hR.2, ⟨(by decide +kernel : (kY 48).cls ≠ _), (by decide +kernel : (kY 48).cls ≠ _), (by decide +kernel : (parseMethodDescriptor (kY 48).desc).map (fun d => d.parameters.length) = some 0)⟩, kc3, kf3, 7, rfl, rfl, kG_V hT kl_HoleCounter_122 ks48 kx48 kini_HoleCounter kw48⟩
theorem kd_HoleCounter_126 {Ts : List Cond} (hT : ∀ w ∈ kG, w ∈ Ts) {R : Room} (hR : (kR 54).frames + 1 ≤ R.frames ∧ 8 + (1 + 11) + (kR 54).locals ≤ R.locals) : kWord "HoleCounter" Ts R 126 (.inr (.inr (.inl (54, 1, none)))) := ⟨(by decide : 54 < 116), kq_54, rfl, hR.1, hR.2, ⟨(by decide +kernel : (kY 54).cls ≠ _), (by decide +kernel : (kY 54).cls ≠ _), (by decide +kernel : (parseMethodDescriptor (kY 54).desc).map (fun d => d.parameters.length) = some 1)⟩, Or.inl (kG_S hT kl_HoleCounter_126 ks54 kini_HoleCounter kw54)⟩
theorem kd_HoleCounter_129 {Ts : List Cond} (hT : ∀ w ∈ kG, w ∈ Ts) {R : Room} (hR : (kR 63).frames + 1 ≤ R.frames ∧ 8 + (6 + 11) + (kR 63).locals ≤ R.locals) : kWord "HoleCounter" Ts R 129 (.inr (.inr (.inl (63, 1, some 3)))) := ⟨(by decide : 63 < 116), kq_63, rfl, hR.1, hR.2, ⟨(by decide +kernel : (kY 63).cls ≠ _), (by decide +kernel : (kY 63).cls ≠ _), (by decide +kernel : (parseMethodDescriptor (kY 63).desc).map (fun d => d.parameters.length) = some 1)⟩, kc3, kf3, 7, rfl, rfl, kG_V hT kl_HoleCounter_129 ks63 kx63 kini_HoleCounter kw63⟩
theorem kd_HoleCounterLaw_85 {Ts : List Cond} (hT : ∀ w ∈ kG, w ∈ Ts) {R : Room} (hR : (kR 50).frames + 1 ≤ R.frames ∧ 8 + (3 + 11) + (kR 50).locals ≤ R.locals) : kWord "HoleCounterLaw" Ts R 85 (.inr (.inr (.inl (50, 1, some 3)))) := ⟨(by decide : 50 < 116), kq_50, rfl, hR.1, hR.2, ⟨(by decide +kernel : (kY 50).cls ≠ _), (by decide +kernel : (kY 50).cls ≠ _), (by decide +kernel : (parseMethodDescriptor (kY 50).desc).map (fun d => d.parameters.length) = some 1)⟩, kc3, kf3, 7, rfl, rfl, kG_V hT kl_HoleCounterLaw_85 ks50 kx50 kini_HoleCounter kw50⟩
theorem kd_HoleCounter_132 {Ts : List Cond} (hT : ∀ w ∈ kG, w ∈ Ts) {R : Room} (hR : (kR 61).frames + 1 ≤ R.frames ∧ 8 + (7 + 11) + (kR 61).locals ≤ R.locals) : kWord "HoleCounter" Ts R 132 (.inr (.inr (.inl (61, 1, some 3)))) := ⟨(by decide : 61 < 116), kq_61, rfl, hR.1, hR.2, ⟨(by decide +kernel : (kY 61).cls ≠ _), (by decide +kernel : (kY 61).cls ≠ _), (by decide +kernel : (parseMethodDescriptor (kY 61).desc).map (fun d => d.parameters.length) = some 1)⟩, kc3, kf3, 7, rfl, rfl, kG_V hT kl_HoleCounter_132 ks61 kx61 kini_HoleCounter kw61⟩
theorem kd_HoleCounterLaw_89 {Ts : List Cond} (hT : ∀ w ∈ kG, w ∈ Ts) {R : Room} (hR : (kR 51).frames + 1 ≤ R.frames ∧ 8 + (7 + 11) + (kR 51).locals ≤ R.locals) : kWord "HoleCounterLaw" Ts R 89 (.inr (.inr (.inl (51, 1, some 3)))) := ⟨(by decide : 51 < 116), kq_51, rfl, hR.1, hR.2, ⟨(by decide +kernel : (kY 51).cls ≠ _), (by decide +kernel : (kY 51).cls ≠ _), (by decide +kernel : (parseMethodDescriptor (kY 51).desc).map (fun d => d.parameters.length) = some 1)⟩, kc3, kf3, 7, rfl, rfl, kG_V hT kl_HoleCounterLaw_89 ks51 kx51 kini_HoleCounter kw51⟩
theorem kd_HoleCounter_149 {Ts : List Cond} (hT : ∀ w ∈ kG, w ∈ Ts) {R : Room} (hR : (kR 64).frames + 1 ≤ R.frames ∧ 8 + (7 + 11) + (kR 64).locals ≤ R.locals) : kWord "HoleCounter" Ts R 149 (.inr (.inr (.inl (64, 1, some 3)))) := ⟨(by decide : 64 < 116), kq_64, rfl, hR.1, hR.2, ⟨(by decide +kernel : (kY 64).cls ≠ _), (by decide +kernel : (kY 64).cls ≠ _), (by decide +kernel : (parseMethodDescriptor (kY 64).desc).map (fun d => d.parameters.length) = some 1)⟩, kc3, kf3, 7, rfl, rfl, kG_V hT kl_HoleCounter_149 ks64 kx64 kini_HoleCounter kw64⟩
theorem kd_HoleCounter_163 {Ts : List Cond} (hT : ∀ w ∈ kG, w ∈ Ts) {R : Room} (hR : (kR 31).frames + 1 ≤ R.frames ∧ 8 + (1 + 11) + (kR 31).locals ≤ R.locals) : kWord "HoleCounter" Ts R 163 (.inr (.inr (.inl (31, 0, some 2)))) := ⟨(by decide : 31 < 116), kq_31, rfl, hR.1, hR.2, ⟨(by decide +kernel : (kY 31).cls ≠ _), (by decide +kernel : (kY 31).cls ≠ _), (by decide +kernel : (parseMethodDescriptor (kY 31).desc).map (fun d => d.parameters.length) = some 0)⟩, kc2, kf2, 1, rfl, rfl, kG_V hT kl_HoleCounter_163 ks31 kx31 kini_HoleCounter_Span kw31⟩
theorem kd_HoleCounter_Span_15 {Ts : List Cond} (hT : ∀ w ∈ kG, w ∈ Ts) {R : Room} (hR : (kR 1).frames + 1 ≤ R.frames ∧ 8 + (5 + 11) + (kR 1).locals ≤ R.locals) : kWord "HoleCounter$Span" Ts R 15 (.inr (.inr (.inl (1, 2, none)))) := ⟨(by decide : 1 < 116), kq_1, rfl, hR.1, hR.2, ⟨(by decide +kernel : (kY 1).cls ≠ _), (by decide +kernel : (kY 1).cls ≠ _), (by decide +kernel : (parseMethodDescriptor (kY 1).desc).map (fun d => d.parameters.length) = some 2)⟩, Or.inl (kG_S hT kl_HoleCounter_Span_15 ks1 kini_java_util_Arrays kw1)⟩
theorem kd_HoleCounter_164 {Ts : List Cond} (hT : ∀ w ∈ kG, w ∈ Ts) {R : Room} (hR : (kR 14).frames + 1 ≤ R.frames ∧ 8 + (5 + 11) + (kR 14).locals ≤ R.locals) : kWord "HoleCounter" Ts R 164 (.inr (.inr (.inl (14, 1, some 0)))) := ⟨(by decide : 14 < 116), kq_14, rfl, hR.1, hR.2, ⟨(by decide +kernel : (kY 14).cls ≠ _), (by decide +kernel : (kY 14).cls ≠ _), (by decide +kernel : (parseMethodDescriptor (kY 14).desc).map (fun d => d.parameters.length) = some 1)⟩, kc0, kf0, 5, rfl, rfl, kG_V hT kl_HoleCounter_164 ks14 kx14 kini_HoleCounter_Complex kw14⟩
theorem kd_HoleCounter_153 {Ts : List Cond} (hT : ∀ w ∈ kG, w ∈ Ts) {R : Room} (hR : (kR 33).frames + 1 ≤ R.frames ∧ 8 + (6 + 11) + (kR 33).locals ≤ R.locals) : kWord "HoleCounter" Ts R 153 (.inr (.inr (.inl (33, 1, some 2)))) := ⟨(by decide : 33 < 116), kq_33, rfl, hR.1, hR.2, ⟨(by decide +kernel : (kY 33).cls ≠ _), (by decide +kernel : (kY 33).cls ≠ _), (by decide +kernel : (parseMethodDescriptor (kY 33).desc).map (fun d => d.parameters.length) = some 1)⟩, kc2, kf2, 1, rfl, rfl, kG_V hT kl_HoleCounter_153 ks33 kx33 kini_HoleCounter_Span kw33⟩
theorem kd_HoleCounter_Span_21 {Ts : List Cond} (hT : ∀ w ∈ kG, w ∈ Ts) {R : Room} (hR : (kR 32).frames + 1 ≤ R.frames ∧ 8 + (6 + 11) + (kR 32).locals ≤ R.locals) : kWord "HoleCounter$Span" Ts R 21 (.inr (.inr (.inl (32, 1, some 2)))) := ⟨(by decide : 32 < 116), kq_32, rfl, hR.1, hR.2, ⟨(by decide +kernel : (kY 32).cls ≠ _), (by decide +kernel : (kY 32).cls ≠ _), (by decide +kernel : (parseMethodDescriptor (kY 32).desc).map (fun d => d.parameters.length) = some 1)⟩, kc2, kf2, 1, rfl, rfl, kG_V hT kl_HoleCounter_Span_21 ks32 kx32 kini_HoleCounter_Span kw32⟩
theorem kd_HoleCounter_167 {Ts : List Cond} (hT : ∀ w ∈ kG, w ∈ Ts) {R : Room} (hR : (kR 32).frames + 1 ≤ R.frames ∧ 8 + (6 + 11) + (kR 32).locals ≤ R.locals) : kWord "HoleCounter" Ts R 167 (.inr (.inr (.inl (32, 1, some 2)))) := ⟨(by decide : 32 < 116), kq_32, rfl, hR.1, hR.2, ⟨(by decide +kernel : (kY 32).cls ≠ _), (by decide +kernel : (kY 32).cls ≠ _), (by decide +kernel : (parseMethodDescriptor (kY 32).desc).map (fun d => d.parameters.length) = some 1)⟩, kc2, kf2, 1, rfl, rfl, kG_V hT kl_HoleCounter_167 ks32 kx32 kini_HoleCounter_Span kw32⟩
theorem kd_HoleCounter_171 {Ts : List Cond} (hT : ∀ w ∈ kG, w ∈ Ts) {R : Room} (hR : (kR 15).frames + 1 ≤ R.frames ∧ 8 + (9 + 11) + (kR 15).locals ≤ R.locals) : kWord "HoleCounter" Ts R 171 (.inr (.inr (.inl (15, 2, some 0)))) := ⟨(by decide : 15 < 116), kq_15, rfl, hR.1, hR.2, ⟨(by decide +kernel : (kY 15).cls ≠ _), (by decide +kernel : (kY 15).cls ≠ _), (by decide +kernel : (parseMethodDescriptor (kY 15).desc).map (fun d => d.parameters.length) = some 2)⟩, kc0, kf0, 5, rfl, rfl, kG_V hT kl_HoleCounter_171 ks15 kx15 kini_HoleCounter_Complex kw15⟩
theorem kd_HoleCounterLaw_17 {Ts : List Cond} (hT : ∀ w ∈ kG, w ∈ Ts) {R : Room} (hR : (kR 72).frames + 1 ≤ R.frames ∧ 8 + (6 + 11) + (kR 72).locals ≤ R.locals) : kWord "HoleCounterLaw" Ts R 17 (.inr (.inr (.inl (72, 2, some 4)))) := ⟨(by decide : 72 < 116), kq_72, rfl, hR.1, hR.2, ⟨(by decide +kernel : (kY 72).cls ≠ _), (by decide +kernel : (kY 72).cls ≠ _), (by decide +kernel : (parseMethodDescriptor (kY 72).desc).map (fun d => d.parameters.length) = some 2)⟩, kc4, kf4, 15, rfl, rfl, kG_V hT kl_HoleCounterLaw_17 ks72 kx72 kini_HoleCounterModel kw72⟩
theorem kd_HoleCounterModel_45 {Ts : List Cond} (hT : ∀ w ∈ kG, w ∈ Ts) {R : Room} (hR : (kR 66).frames + 1 ≤ R.frames ∧ 8 + (1 + 11) + (kR 66).locals ≤ R.locals) : kWord "HoleCounterModel" Ts R 45 (.inr (.inr (.inl (66, 1, none)))) := ⟨(by decide : 66 < 116), kq_66, rfl, hR.1, hR.2, ⟨(by decide +kernel : (kY 66).cls ≠ _), (by decide +kernel : (kY 66).cls ≠ _), (by decide +kernel : (parseMethodDescriptor (kY 66).desc).map (fun d => d.parameters.length) = some 1)⟩, Or.inl (kG_S hT kl_HoleCounterModel_45 ks66 kini_HoleCounterModel kw66)⟩
theorem kd_HoleCounterModel_49 {Ts : List Cond} (hT : ∀ w ∈ kG, w ∈ Ts) {R : Room} (hR : (kR 65).frames + 1 ≤ R.frames ∧ 8 + (3 + 11) + (kR 65).locals ≤ R.locals) : kWord "HoleCounterModel" Ts R 49 (.inr (.inr (.inl (65, 1, none)))) := ⟨(by decide : 65 < 116), kq_65, rfl, hR.1, hR.2, ⟨(by decide +kernel : (kY 65).cls ≠ _), (by decide +kernel : (kY 65).cls ≠ _), (by decide +kernel : (parseMethodDescriptor (kY 65).desc).map (fun d => d.parameters.length) = some 1)⟩, Or.inl (kG_S hT kl_HoleCounterModel_49 ks65 kini_HoleCounterModel kw65)⟩
theorem kd_HoleCounterModel_53 {Ts : List Cond} (hT : ∀ w ∈ kG, w ∈ Ts) {R : Room} (hR : (kR 69).frames + 1 ≤ R.frames ∧ 8 + (5 + 11) + (kR 69).locals ≤ R.locals) : kWord "HoleCounterModel" Ts R 53 (.inr (.inr (.inl (69, 2, some 4)))) := ⟨(by decide : 69 < 116), kq_69, rfl, hR.1, hR.2, ⟨(by decide +kernel : (kY 69).cls ≠ _), (by decide +kernel : (kY 69).cls ≠ _), (by decide +kernel : (parseMethodDescriptor (kY 69).desc).map (fun d => d.parameters.length) = some 2)⟩, kc4, kf4, 15, rfl, rfl, kG_V hT kl_HoleCounterModel_53 ks69 kx69 kini_HoleCounterModel kw69⟩
theorem kd_HoleCounterLaw_22 {Ts : List Cond} (hT : ∀ w ∈ kG, w ∈ Ts) {R : Room} (hR : (kR 73).frames + 1 ≤ R.frames ∧ 8 + (3 + 11) + (kR 73).locals ≤ R.locals) : kWord "HoleCounterLaw" Ts R 22 (.inr (.inr (.inl (73, 1, some 4)))) := ⟨(by decide : 73 < 116), kq_73, rfl, hR.1, hR.2, ⟨(by decide +kernel : (kY 73).cls ≠ _), (by decide +kernel : (kY 73).cls ≠ _), (by decide +kernel : (parseMethodDescriptor (kY 73).desc).map (fun d => d.parameters.length) = some 1)⟩, kc4, kf4, 15, rfl, rfl, kG_V hT kl_HoleCounterLaw_22 ks73 kx73 kini_HoleCounterModel kw73⟩
theorem kd_HoleCounterLaw_26 {Ts : List Cond} (hT : ∀ w ∈ kG, w ∈ Ts) {R : Room} (hR : (kR 74).frames + 1 ≤ R.frames ∧ 8 + (3 + 11) + (kR 74).locals ≤ R.locals) : kWord "HoleCounterLaw" Ts R 26 (.inr (.inr (.inl (74, 2, some 4)))) := ⟨(by decide : 74 < 116), kq_74, rfl, hR.1, hR.2, ⟨(by decide +kernel : (kY 74).cls ≠ _), (by decide +kernel : (kY 74).cls ≠ _), (by decide +kernel : (parseMethodDescriptor (kY 74).desc).map (fun d => d.parameters.length) = some 2)⟩, kc4, kf4, 15, rfl, rfl, kG_V hT kl_HoleCounterLaw_26 ks74 kx74 kini_HoleCounterModel kw74⟩
theorem kd_HoleCounterModel_57 {Ts : List Cond} (hT : ∀ w ∈ kG, w ∈ Ts) {R : Room} (hR : (kR 67).frames + 1 ≤ R.frames ∧ 8 + (1 + 11) + (kR 67).locals ≤ R.locals) : kWord "HoleCounterModel" Ts R 57 (.inr (.inr (.inl (67, 1, none)))) := ⟨(by decide : 67 < 116), kq_67, rfl, hR.1, hR.2, ⟨(by decide +kernel : (kY 67).cls ≠ _), (by decide +kernel : (kY 67).cls ≠ _), (by decide +kernel : (parseMethodDescriptor (kY 67).desc).map (fun d => d.parameters.length) = some 1)⟩, Or.inl (kG_S hT kl_HoleCounterModel_57 ks67 kini_HoleCounterModel kw67)⟩
theorem kd_HoleCounterLaw_31 {Ts : List Cond} (hT : ∀ w ∈ kG, w ∈ Ts) {R : Room} (hR : (kR 75).frames + 1 ≤ R.frames ∧ 8 + (5 + 11) + (kR 75).locals ≤ R.locals) : kWord "HoleCounterLaw" Ts R 31 (.inr (.inr (.inl (75, 3, some 4)))) := ⟨(by decide : 75 < 116), kq_75, rfl, hR.1, hR.2, ⟨(by decide +kernel : (kY 75).cls ≠ _), (by decide +kernel : (kY 75).cls ≠ _), (by decide +kernel : (parseMethodDescriptor (kY 75).desc).map (fun d => d.parameters.length) = some 3)⟩, kc4, kf4, 15, rfl, rfl, kG_V hT kl_HoleCounterLaw_31 ks75 kx75 kini_HoleCounterModel kw75⟩
theorem kd_HoleCounterModel_60 {Ts : List Cond} (hT : ∀ w ∈ kG, w ∈ Ts) {R : Room} (hR : (kR 70).frames + 1 ≤ R.frames ∧ 8 + (6 + 11) + (kR 70).locals ≤ R.locals) : kWord "HoleCounterModel" Ts R 60 (.inr (.inr (.inl (70, 3, some 4)))) := ⟨(by decide : 70 < 116), kq_70, rfl, hR.1, hR.2, ⟨(by decide +kernel : (kY 70).cls ≠ _), (by decide +kernel : (kY 70).cls ≠ _), (by decide +kernel : (parseMethodDescriptor (kY 70).desc).map (fun d => d.parameters.length) = some 3)⟩, kc4, kf4, 15, rfl, rfl, kG_V hT kl_HoleCounterModel_60 ks70 kx70 kini_HoleCounterModel kw70⟩
theorem kd_HoleCounterLaw_36 {Ts : List Cond} (hT : ∀ w ∈ kG, w ∈ Ts) {R : Room} (hR : (kR 76).frames + 1 ≤ R.frames ∧ 8 + (5 + 11) + (kR 76).locals ≤ R.locals) : kWord "HoleCounterLaw" Ts R 36 (.inr (.inr (.inl (76, 4, some 4)))) := ⟨(by decide : 76 < 116), kq_76, rfl, hR.1, hR.2, ⟨(by decide +kernel : (kY 76).cls ≠ _), (by decide +kernel : (kY 76).cls ≠ _), (by decide +kernel : (parseMethodDescriptor (kY 76).desc).map (fun d => d.parameters.length) = some 4)⟩, kc4, kf4, 15, rfl, rfl, kG_V hT kl_HoleCounterLaw_36 ks76 kx76 kini_HoleCounterModel kw76⟩
theorem kd_HoleCounterModel_64 {Ts : List Cond} (hT : ∀ w ∈ kG, w ∈ Ts) {R : Room} (hR : (kR 71).frames + 1 ≤ R.frames ∧ 8 + (5 + 11) + (kR 71).locals ≤ R.locals) : kWord "HoleCounterModel" Ts R 64 (.inr (.inr (.inl (71, 2, none)))) := ⟨(by decide : 71 < 116), kq_71, rfl, hR.1, hR.2, ⟨(by decide +kernel : (kY 71).cls ≠ _), (by decide +kernel : (kY 71).cls ≠ _), (by decide +kernel : (parseMethodDescriptor (kY 71).desc).map (fun d => d.parameters.length) = some 2)⟩, Or.inl (kG_S hT kl_HoleCounterModel_64 ks71 kini_HoleCounterModel kw71)⟩
theorem kd_HoleCounterLaw_41 {Ts : List Cond} (hT : ∀ w ∈ kG, w ∈ Ts) {R : Room} (hR : (kR 77).frames + 1 ≤ R.frames ∧ 8 + (2 + 11) + (kR 77).locals ≤ R.locals) : kWord "HoleCounterLaw" Ts R 41 (.inr (.inr (.inl (77, 1, some 4)))) := ⟨(by decide : 77 < 116), kq_77, rfl, hR.1, hR.2, ⟨(by decide +kernel : (kY 77).cls ≠ _), (by decide +kernel : (kY 77).cls ≠ _), (by decide +kernel : (parseMethodDescriptor (kY 77).desc).map (fun d => d.parameters.length) = some 1)⟩, kc4, kf4, 15, rfl, rfl, kG_V hT kl_HoleCounterLaw_41 ks77 kx77 kini_HoleCounterModel kw77⟩
theorem kd_HoleCounterLaw_45 {Ts : List Cond} (hT : ∀ w ∈ kG, w ∈ Ts) {R : Room} (hR : (kR 87).frames + 1 ≤ R.frames ∧ 8 + (3 + 11) + (kR 87).locals ≤ R.locals) : kWord "HoleCounterLaw" Ts R 45 (.inr (.inr (.inl (87, 2, some 4)))) := ⟨(by decide : 87 < 116), kq_87, rfl, hR.1, hR.2, ⟨(by decide +kernel : (kY 87).cls ≠ _), (by decide +kernel : (kY 87).cls ≠ _), (by decide +kernel : (parseMethodDescriptor (kY 87).desc).map (fun d => d.parameters.length) = some 2)⟩, kc4, kf4, 15, rfl, rfl, kG_V hT kl_HoleCounterLaw_45 ks87 kx87 kini_HoleCounterModel kw87⟩
theorem kd_HoleCounterModel_110 {Ts : List Cond} (hT : ∀ w ∈ kG, w ∈ Ts) {R : Room} (hR : (kR 86).frames + 1 ≤ R.frames ∧ 8 + (3 + 11) + (kR 86).locals ≤ R.locals) : kWord "HoleCounterModel" Ts R 110 (.inr (.inr (.inl (86, 2, some 4)))) := ⟨(by decide : 86 < 116), kq_86, rfl, hR.1, hR.2, ⟨(by decide +kernel : (kY 86).cls ≠ _), (by decide +kernel : (kY 86).cls ≠ _), (by decide +kernel : (parseMethodDescriptor (kY 86).desc).map (fun d => d.parameters.length) = some 2)⟩, kc4, kf4, 15, rfl, rfl, kG_V hT kl_HoleCounterModel_110 ks86 kx86 kini_HoleCounterModel kw86⟩
theorem kd_HoleCounterModel_103 {Ts : List Cond} (hT : ∀ w ∈ kG, w ∈ Ts) {R : Room} (hR : (kR 80).frames + 1 ≤ R.frames ∧ 8 + (3 + 11) + (kR 80).locals ≤ R.locals) : kWord "HoleCounterModel" Ts R 103 (.inr (.inr (.inl (80, 2, some 4)))) := ⟨(by decide : 80 < 116), kq_80, rfl, hR.1, hR.2, ⟨(by decide +kernel : (kY 80).cls ≠ _), (by decide +kernel : (kY 80).cls ≠ _), (by decide +kernel : (parseMethodDescriptor (kY 80).desc).map (fun d => d.parameters.length) = some 2)⟩, kc4, kf4, 15, rfl, rfl, kG_V hT kl_HoleCounterModel_103 ks80 kx80 kini_HoleCounterModel kw80⟩
theorem kd_HoleCounterModel_74 {Ts : List Cond} (hT : ∀ w ∈ kG, w ∈ Ts) {R : Room} (hR : (kR 78).frames + 1 ≤ R.frames ∧ 8 + (4 + 11) + (kR 78).locals ≤ R.locals) : kWord "HoleCounterModel" Ts R 74 (.inr (.inr (.inl (78, 2, some 4)))) := ⟨(by decide : 78 < 116), kq_78, rfl, hR.1, hR.2, ⟨(by decide +kernel : (kY 78).cls ≠ _), (by decide +kernel : (kY 78).cls ≠ _), (by decide +kernel : (parseMethodDescriptor (kY 78).desc).map (fun d => d.parameters.length) = some 2)⟩, kc4, kf4, 15, rfl, rfl, kG_V hT kl_HoleCounterModel_74 ks78 kx78 kini_HoleCounterModel kw78⟩
theorem kd_HoleCounterModel_78 {Ts : List Cond} (hT : ∀ w ∈ kG, w ∈ Ts) {R : Room} (hR : (kR 79).frames + 1 ≤ R.frames ∧ 8 + (9 + 11) + (kR 79).locals ≤ R.locals) : kWord "HoleCounterModel" Ts R 78 (.inr (.inr (.inl (79, 4, some 4)))) := ⟨(by decide : 79 < 116), kq_79, rfl, hR.1, hR.2, ⟨(by decide +kernel : (kY 79).cls ≠ _), (by decide +kernel : (kY 79).cls ≠ _), (by decide +kernel : (parseMethodDescriptor (kY 79).desc).map (fun d => d.parameters.length) = some 4)⟩, kc4, kf4, 15, rfl, rfl, kG_V hT kl_HoleCounterModel_78 ks79 kx79 kini_HoleCounterModel kw79⟩
theorem kd_HoleCounterModel_106 {Ts : List Cond} (hT : ∀ w ∈ kG, w ∈ Ts) {R : Room} (hR : (kR 85).frames + 1 ≤ R.frames ∧ 8 + (3 + 11) + (kR 85).locals ≤ R.locals) : kWord "HoleCounterModel" Ts R 106 (.inr (.inr (.inl (85, 0, some 4)))) := ⟨(by decide : 85 < 116), kq_85, rfl, hR.1, hR.2, ⟨(by decide +kernel : (kY 85).cls ≠ _), (by decide +kernel : (kY 85).cls ≠ _), (by decide +kernel : (parseMethodDescriptor (kY 85).desc).map (fun d => d.parameters.length) = some 0)⟩, kc4, kf4, 15, rfl, rfl, kG_V hT kl_HoleCounterModel_106 ks85 kx85 kini_HoleCounterModel kw85⟩
theorem kd_HoleCounterModel_97 {Ts : List Cond} (hT : ∀ w ∈ kG, w ∈ Ts) {R : Room} (hR : (kR 83).frames + 1 ≤ R.frames ∧ 8 + (6 + 11) + (kR 83).locals ≤ R.locals) : kWord "HoleCounterModel" Ts R 97 (.inr (.inr (.inl (83, 1, some 4)))) := ⟨(by decide : 83 < 116), kq_83, rfl, hR.1, hR.2, ⟨(by decide +kernel : (kY 83).cls ≠ _), (by decide +kernel : (kY 83).cls ≠ _), (by decide +kernel : (parseMethodDescriptor (kY 83).desc).map (fun d => d.parameters.length) = some 1)⟩, kc4, kf4, 15, rfl, rfl, kG_V hT kl_HoleCounterModel_97 ks83 kx83 kini_HoleCounterModel kw83⟩
theorem kd_HoleCounterModel_84 {Ts : List Cond} (hT : ∀ w ∈ kG, w ∈ Ts) {R : Room} (hR : (kR 82).frames + 1 ≤ R.frames ∧ 8 + (6 + 11) + (kR 82).locals ≤ R.locals) : kWord "HoleCounterModel" Ts R 84 (.inr (.inr (.inl (82, 2, some 4)))) := ⟨(by decide : 82 < 116), kq_82, rfl, hR.1, hR.2, ⟨(by decide +kernel : (kY 82).cls ≠ _), (by decide +kernel : (kY 82).cls ≠ _), (by decide +kernel : (parseMethodDescriptor (kY 82).desc).map (fun d => d.parameters.length) = some 2)⟩, kc4, kf4, 15, rfl, rfl, kG_V hT kl_HoleCounterModel_84 ks82 kx82 kini_HoleCounterModel kw82⟩
theorem kd_HoleCounterModel_87 {Ts : List Cond} (hT : ∀ w ∈ kG, w ∈ Ts) {R : Room} (hR : (kR 84).frames + 1 ≤ R.frames ∧ 8 + (13 + 11) + (kR 84).locals ≤ R.locals) : kWord "HoleCounterModel" Ts R 87 (.inr (.inr (.inl (84, 3, some 4)))) := ⟨(by decide : 84 < 116), kq_84, rfl, hR.1, hR.2, ⟨(by decide +kernel : (kY 84).cls ≠ _), (by decide +kernel : (kY 84).cls ≠ _), (by decide +kernel : (parseMethodDescriptor (kY 84).desc).map (fun d => d.parameters.length) = some 3)⟩, kc4, kf4, 15, rfl, rfl, kG_V hT kl_HoleCounterModel_87 ks84 kx84 kini_HoleCounterModel kw84⟩
theorem kd_HoleCounterModel_91 {Ts : List Cond} (hT : ∀ w ∈ kG, w ∈ Ts) {R : Room} (hR : (kR 81).frames + 1 ≤ R.frames ∧ 8 + (10 + 11) + (kR 81).locals ≤ R.locals) : kWord "HoleCounterModel" Ts R 91 (.inr (.inr (.inl (81, 2, none)))) := ⟨(by decide : 81 < 116), kq_81, rfl, hR.1, hR.2, ⟨(by decide +kernel : (kY 81).cls ≠ _), (by decide +kernel : (kY 81).cls ≠ _), (by decide +kernel : (parseMethodDescriptor (kY 81).desc).map (fun d => d.parameters.length) = some 2)⟩, Or.inl (kG_S hT kl_HoleCounterModel_91 ks81 kini_HoleCounterModel kw81)⟩
theorem kd_HoleCounterLaw_53 {Ts : List Cond} (hT : ∀ w ∈ kG, w ∈ Ts) {R : Room} (hR : (kR 88).frames + 1 ≤ R.frames ∧ 8 + (6 + 11) + (kR 88).locals ≤ R.locals) : kWord "HoleCounterLaw" Ts R 53 (.inr (.inr (.inl (88, 3, some 4)))) := ⟨(by decide : 88 < 116), kq_88, rfl, hR.1, hR.2, ⟨(by decide +kernel : (kY 88).cls ≠ _), (by decide +kernel : (kY 88).cls ≠ _), (by decide +kernel : (parseMethodDescriptor (kY 88).desc).map (fun d => d.parameters.length) = some 3)⟩, kc4, kf4, 15, rfl, rfl, kG_V hT kl_HoleCounterLaw_53 ks88 kx88 kini_HoleCounterModel kw88⟩
theorem kd_HoleCounterLaw_49 {Ts : List Cond} (hT : ∀ w ∈ kG, w ∈ Ts) {R : Room} (hR : (kR 95).frames + 1 ≤ R.frames ∧ 8 + (6 + 11) + (kR 95).locals ≤ R.locals) : kWord "HoleCounterLaw" Ts R 49 (.inr (.inr (.inl (95, 3, some 4)))) := ⟨(by decide : 95 < 116), kq_95, rfl, hR.1, hR.2, ⟨(by decide +kernel : (kY 95).cls ≠ _), (by decide +kernel : (kY 95).cls ≠ _), (by decide +kernel : (parseMethodDescriptor (kY 95).desc).map (fun d => d.parameters.length) = some 3)⟩, kc4, kf4, 15, rfl, rfl, kG_V hT kl_HoleCounterLaw_49 ks95 kx95 kini_HoleCounterModel kw95⟩
theorem kd_HoleCounterModel_132 {Ts : List Cond} (hT : ∀ w ∈ kG, w ∈ Ts) {R : Room} (hR : (kR 94).frames + 1 ≤ R.frames ∧ 8 + (5 + 11) + (kR 94).locals ≤ R.locals) : kWord "HoleCounterModel" Ts R 132 (.inr (.inr (.inl (94, 0, some 4)))) := ⟨(by decide : 94 < 116), kq_94, rfl, hR.1, hR.2, ⟨(by decide +kernel : (kY 94).cls ≠ _), (by decide +kernel : (kY 94).cls ≠ _), (by decide +kernel : (parseMethodDescriptor (kY 94).desc).map (fun d => d.parameters.length) = some 0)⟩, kc4, kf4, 15, rfl, rfl, kG_V hT kl_HoleCounterModel_132 ks94 kx94 kini_HoleCounterModel kw94⟩
theorem kd_HoleCounterModel_116 {Ts : List Cond} (hT : ∀ w ∈ kG, w ∈ Ts) {R : Room} (hR : (kR 89).frames + 1 ≤ R.frames ∧ 8 + (7 + 11) + (kR 89).locals ≤ R.locals) : kWord "HoleCounterModel" Ts R 116 (.inr (.inr (.inl (89, 1, some 4)))) := ⟨(by decide : 89 < 116), kq_89, rfl, hR.1, hR.2, ⟨(by decide +kernel : (kY 89).cls ≠ _), (by decide +kernel : (kY 89).cls ≠ _), (by decide +kernel : (parseMethodDescriptor (kY 89).desc).map (fun d => d.parameters.length) = some 1)⟩, kc4, kf4, 15, rfl, rfl, kG_V hT kl_HoleCounterModel_116 ks89 kx89 kini_HoleCounterModel kw89⟩
theorem kd_HoleCounterModel_119 {Ts : List Cond} (hT : ∀ w ∈ kG, w ∈ Ts) {R : Room} (hR : (kR 90).frames + 1 ≤ R.frames ∧ 8 + (6 + 11) + (kR 90).locals ≤ R.locals) : kWord "HoleCounterModel" Ts R 119 (.inr (.inr (.inl (90, 1, some 4)))) := ⟨(by decide : 90 < 116), kq_90, rfl, hR.1, hR.2, ⟨(by decide +kernel : (kY 90).cls ≠ _), (by decide +kernel : (kY 90).cls ≠ _), (by decide +kernel : (parseMethodDescriptor (kY 90).desc).map (fun d => d.parameters.length) = some 1)⟩, kc4, kf4, 15, rfl, rfl, kG_V hT kl_HoleCounterModel_119 ks90 kx90 kini_HoleCounterModel kw90⟩
theorem kd_HoleCounterModel_123 {Ts : List Cond} (hT : ∀ w ∈ kG, w ∈ Ts) {R : Room} (hR : (kR 91).frames + 1 ≤ R.frames ∧ 8 + (9 + 11) + (kR 91).locals ≤ R.locals) : kWord "HoleCounterModel" Ts R 123 (.inr (.inr (.inl (91, 1, some 4)))) := ⟨(by decide : 91 < 116), kq_91, rfl, hR.1, hR.2, ⟨(by decide +kernel : (kY 91).cls ≠ _), (by decide +kernel : (kY 91).cls ≠ _), (by decide +kernel : (parseMethodDescriptor (kY 91).desc).map (fun d => d.parameters.length) = some 1)⟩, kc4, kf4, 15, rfl, rfl, kG_V hT kl_HoleCounterModel_123 ks91 kx91 kini_HoleCounterModel kw91⟩
theorem kd_HoleCounterModel_126 {Ts : List Cond} (hT : ∀ w ∈ kG, w ∈ Ts) {R : Room} (hR : (kR 92).frames + 1 ≤ R.frames ∧ 8 + (4 + 11) + (kR 92).locals ≤ R.locals) : kWord "HoleCounterModel" Ts R 126 (.inr (.inr (.inl (92, 1, some 4)))) := ⟨(by decide : 92 < 116), kq_92, rfl, hR.1, hR.2, ⟨(by decide +kernel : (kY 92).cls ≠ _), (by decide +kernel : (kY 92).cls ≠ _), (by decide +kernel : (parseMethodDescriptor (kY 92).desc).map (fun d => d.parameters.length) = some 1)⟩, kc4, kf4, 15, rfl, rfl, kG_V hT kl_HoleCounterModel_126 ks92 kx92 kini_HoleCounterModel kw92⟩
theorem kd_HoleCounterModel_129 {Ts : List Cond} (hT : ∀ w ∈ kG, w ∈ Ts) {R : Room} (hR : (kR 93).frames + 1 ≤ R.frames ∧ 8 + (10 + 11) + (kR 93).locals ≤ R.locals) : kWord "HoleCounterModel" Ts R 129 (.inr (.inr (.inl (93, 2, none)))) := ⟨(by decide : 93 < 116), kq_93, rfl, hR.1, hR.2, ⟨(by decide +kernel : (kY 93).cls ≠ _), (by decide +kernel : (kY 93).cls ≠ _), (by decide +kernel : (parseMethodDescriptor (kY 93).desc).map (fun d => d.parameters.length) = some 2)⟩, Or.inl (kG_S hT kl_HoleCounterModel_129 ks93 kini_HoleCounterModel kw93)⟩
theorem kd_HoleCounterLaw_58 {Ts : List Cond} (hT : ∀ w ∈ kG, w ∈ Ts) {R : Room} (hR : (kR 96).frames + 1 ≤ R.frames ∧ 8 + (4 + 11) + (kR 96).locals ≤ R.locals) : kWord "HoleCounterLaw" Ts R 58 (.inr (.inr (.inl (96, 3, some 4)))) := ⟨(by decide : 96 < 116), kq_96, rfl, hR.1, hR.2, ⟨(by decide +kernel : (kY 96).cls ≠ _), (by decide +kernel : (kY 96).cls ≠ _), (by decide +kernel : (parseMethodDescriptor (kY 96).desc).map (fun d => d.parameters.length) = some 3)⟩, kc4, kf4, 15, rfl, rfl, kG_V hT kl_HoleCounterLaw_58 ks96 kx96 kini_HoleCounterModel kw96⟩
theorem kd_HoleCounterModel_135 {Ts : List Cond} (hT : ∀ w ∈ kG, w ∈ Ts) {R : Room} (hR : (kR 68).frames + 1 ≤ R.frames ∧ 8 + (3 + 11) + (kR 68).locals ≤ R.locals) : kWord "HoleCounterModel" Ts R 135 (.inr (.inr (.inl (68, 2, some 4)))) := ⟨(by decide : 68 < 116), kq_68, rfl, hR.1, hR.2, ⟨(by decide +kernel : (kY 68).cls ≠ _), (by decide +kernel : (kY 68).cls ≠ _), (by decide +kernel : (parseMethodDescriptor (kY 68).desc).map (fun d => d.parameters.length) = some 2)⟩, kc4, kf4, 15, rfl, rfl, kG_V hT kl_HoleCounterModel_135 ks68 kx68 kini_HoleCounterModel kw68⟩
theorem kd_HoleCounterLaw_62 {Ts : List Cond} (hT : ∀ w ∈ kG, w ∈ Ts) {R : Room} (hR : (kR 97).frames + 1 ≤ R.frames ∧ 8 + (3 + 11) + (kR 97).locals ≤ R.locals) : kWord "HoleCounterLaw" Ts R 62 (.inr (.inr (.inl (97, 2, some 4)))) := ⟨(by decide : 97 < 116), kq_97, rfl, hR.1, hR.2, ⟨(by decide +kernel : (kY 97).cls ≠ _), (by decide +kernel : (kY 97).cls ≠ _), (by decide +kernel : (parseMethodDescriptor (kY 97).desc).map (fun d => d.parameters.length) = some 2)⟩, kc4, kf4, 15, rfl, rfl, kG_V hT kl_HoleCounterLaw_62 ks97 kx97 kini_HoleCounterModel kw97⟩
theorem kd_HoleCounterLaw_66 {Ts : List Cond} (hT : ∀ w ∈ kG, w ∈ Ts) {R : Room} (hR : (kR 98).frames + 1 ≤ R.frames ∧ 8 + (5 + 11) + (kR 98).locals ≤ R.locals) : kWord "HoleCounterLaw" Ts R 66 (.inr (.inr (.inl (98, 2, some 4)))) := ⟨(by decide : 98 < 116), kq_98, rfl, hR.1, hR.2, ⟨(by decide +kernel : (kY 98).cls ≠ _), (by decide +kernel : (kY 98).cls ≠ _), (by decide +kernel : (parseMethodDescriptor (kY 98).desc).map (fun d => d.parameters.length) = some 2)⟩, kc4, kf4, 15, rfl, rfl, kG_V hT kl_HoleCounterLaw_66 ks98 kx98 kini_HoleCounterModel kw98⟩
theorem kd_HoleCounterLaw_70 {Ts : List Cond} (hT : ∀ w ∈ kG, w ∈ Ts) {R : Room} (hR : (kR 101).frames + 1 ≤ R.frames ∧ 8 + (9 + 11) + (kR 101).locals ≤ R.locals) : kWord "HoleCounterLaw" Ts R 70 (.inr (.inr (.inl (101, 2, some 4)))) := ⟨(by decide : 101 < 116), kq_101, rfl, hR.1, hR.2, ⟨(by decide +kernel : (kY 101).cls ≠ _), (by decide +kernel : (kY 101).cls ≠ _), (by decide +kernel : (parseMethodDescriptor (kY 101).desc).map (fun d => d.parameters.length) = some 2)⟩, kc4, kf4, 15, rfl, rfl, kG_V hT kl_HoleCounterLaw_70 ks101 kx101 kini_HoleCounterModel kw101⟩
theorem kd_HoleCounterModel_142 {Ts : List Cond} (hT : ∀ w ∈ kG, w ∈ Ts) {R : Room} (hR : (kR 99).frames + 1 ≤ R.frames ∧ 8 + (4 + 11) + (kR 99).locals ≤ R.locals) : kWord "HoleCounterModel" Ts R 142 (.inr (.inr (.inl (99, 2, some 4)))) := ⟨(by decide : 99 < 116), kq_99, rfl, hR.1, hR.2, ⟨(by decide +kernel : (kY 99).cls ≠ _), (by decide +kernel : (kY 99).cls ≠ _), (by decide +kernel : (parseMethodDescriptor (kY 99).desc).map (fun d => d.parameters.length) = some 2)⟩, kc4, kf4, 15, rfl, rfl, kG_V hT kl_HoleCounterModel_142 ks99 kx99 kini_HoleCounterModel kw99⟩
theorem kd_HoleCounterModel_139 {Ts : List Cond} (hT : ∀ w ∈ kG, w ∈ Ts) {R : Room} (hR : (kR 98).frames + 1 ≤ R.frames ∧ 8 + (5 + 11) + (kR 98).locals ≤ R.locals) : kWord "HoleCounterModel" Ts R 139 (.inr (.inr (.inl (98, 2, some 4)))) := ⟨(by decide : 98 < 116), kq_98, rfl, hR.1, hR.2, ⟨(by decide +kernel : (kY 98).cls ≠ _), (by decide +kernel : (kY 98).cls ≠ _), (by decide +kernel : (parseMethodDescriptor (kY 98).desc).map (fun d => d.parameters.length) = some 2)⟩, kc4, kf4, 15, rfl, rfl, kG_V hT kl_HoleCounterModel_139 ks98 kx98 kini_HoleCounterModel kw98⟩
theorem kd_HoleCounterModel_145 {Ts : List Cond} (hT : ∀ w ∈ kG, w ∈ Ts) {R : Room} (hR : (kR 100).frames + 1 ≤ R.frames ∧ 8 + (4 + 11) + (kR 100).locals ≤ R.locals) : kWord "HoleCounterModel" Ts R 145 (.inr (.inr (.inl (100, 0, some 4)))) := ⟨(by decide : 100 < 116), kq_100, rfl, hR.1, hR.2, ⟨(by decide +kernel : (kY 100).cls ≠ _), (by decide +kernel : (kY 100).cls ≠ _), (by decide +kernel : (parseMethodDescriptor (kY 100).desc).map (fun d => d.parameters.length) = some 0)⟩, kc4, kf4, 15, rfl, rfl, kG_V hT kl_HoleCounterModel_145 ks100 kx100 kini_HoleCounterModel kw100⟩
theorem kd_HoleCounterLaw_75 {Ts : List Cond} (hT : ∀ w ∈ kG, w ∈ Ts) {R : Room} (hR : (kR 102).frames + 1 ≤ R.frames ∧ 8 + (3 + 11) + (kR 102).locals ≤ R.locals) : kWord "HoleCounterLaw" Ts R 75 (.inr (.inr (.inl (102, 2, some 4)))) := ⟨(by decide : 102 < 116), kq_102, rfl, hR.1, hR.2, ⟨(by decide +kernel : (kY 102).cls ≠ _), (by decide +kernel : (kY 102).cls ≠ _), (by decide +kernel : (parseMethodDescriptor (kY 102).desc).map (fun d => d.parameters.length) = some 2)⟩, kc4, kf4, 15, rfl, rfl, kG_V hT kl_HoleCounterLaw_75 ks102 kx102 kini_HoleCounterModel kw102⟩
theorem kd_HoleCounterLaw_80 {Ts : List Cond} (hT : ∀ w ∈ kG, w ∈ Ts) {R : Room} (hR : (kR 104).frames + 1 ≤ R.frames ∧ 8 + (2 + 11) + (kR 104).locals ≤ R.locals) : kWord "HoleCounterLaw" Ts R 80 (.inr (.inr (.inl (104, 0, some 4)))) := ⟨(by decide : 104 < 116), kq_104, rfl, hR.1, hR.2, ⟨(by decide +kernel : (kY 104).cls ≠ _), (by decide +kernel : (kY 104).cls ≠ _), (by decide +kernel : (parseMethodDescriptor (kY 104).desc).map (fun d => d.parameters.length) = some 0)⟩, kc4, kf4, 15, rfl, rfl, kG_V hT kl_HoleCounterLaw_80 ks104 kx104 kini_HoleCounterModel kw104⟩
theorem kd_HoleCounterModel_149 {Ts : List Cond} (hT : ∀ w ∈ kG, w ∈ Ts) {R : Room} (hR : (kR 103).frames + 1 ≤ R.frames ∧ 8 + (4 + 11) + (kR 103).locals ≤ R.locals) : kWord "HoleCounterModel" Ts R 149 (.inr (.inr (.inl (103, 1, some 4)))) := ⟨(by decide : 103 < 116), kq_103, rfl, hR.1, hR.2, ⟨(by decide +kernel : (kY 103).cls ≠ _), (by decide +kernel : (kY 103).cls ≠ _), (by decide +kernel : (parseMethodDescriptor (kY 103).desc).map (fun d => d.parameters.length) = some 1)⟩, kc4, kf4, 15, rfl, rfl, kG_V hT kl_HoleCounterModel_149 ks103 kx103 kini_HoleCounterModel kw103⟩
theorem kd_HoleCounterLaw_84 {Ts : List Cond} (hT : ∀ w ∈ kG, w ∈ Ts) {R : Room} (hR : (kR 106).frames + 1 ≤ R.frames ∧ 8 + (4 + 11) + (kR 106).locals ≤ R.locals) : kWord "HoleCounterLaw" Ts R 84 (.inr (.inr (.inl (106, 1, some 4)))) := ⟨(by decide : 106 < 116), kq_106, rfl, hR.1, hR.2, ⟨(by decide +kernel : (kY 106).cls ≠ _), (by decide +kernel : (kY 106).cls ≠ _), (by decide +kernel : (parseMethodDescriptor (kY 106).desc).map (fun d => d.parameters.length) = some 1)⟩, kc4, kf4, 15, rfl, rfl, kG_V hT kl_HoleCounterLaw_84 ks106 kx106 kini_HoleCounterModel kw106⟩
theorem kd_HoleCounterModel_152 {Ts : List Cond} (hT : ∀ w ∈ kG, w ∈ Ts) {R : Room} (hR : (kR 104).frames + 1 ≤ R.frames ∧ 8 + (2 + 11) + (kR 104).locals ≤ R.locals) : kWord "HoleCounterModel" Ts R 152 (.inr (.inr (.inl (104, 0, some 4)))) := ⟨(by decide : 104 < 116), kq_104, rfl, hR.1, hR.2, ⟨(by decide +kernel : (kY 104).cls ≠ _), (by decide +kernel : (kY 104).cls ≠ _), (by decide +kernel : (parseMethodDescriptor (kY 104).desc).map (fun d => d.parameters.length) = some 0)⟩, kc4, kf4, 15, rfl, rfl, kG_V hT kl_HoleCounterModel_152 ks104 kx104 kini_HoleCounterModel kw104⟩
theorem kd_HoleCounterModel_156 {Ts : List Cond} (hT : ∀ w ∈ kG, w ∈ Ts) {R : Room} (hR : (kR 105).frames + 1 ≤ R.frames ∧ 8 + (7 + 11) + (kR 105).locals ≤ R.locals) : kWord "HoleCounterModel" Ts R 156 (.inr (.inr (.inl (105, 2, some 4)))) := ⟨(by decide : 105 < 116), kq_105, rfl, hR.1, hR.2, ⟨(by decide +kernel : (kY 105).cls ≠ _), (by decide +kernel : (kY 105).cls ≠ _), (by decide +kernel : (parseMethodDescriptor (kY 105).desc).map (fun d => d.parameters.length) = some 2)⟩, kc4, kf4, 15, rfl, rfl, kG_V hT kl_HoleCounterModel_156 ks105 kx105 kini_HoleCounterModel kw105⟩
theorem kd_HoleCounterLaw_88 {Ts : List Cond} (hT : ∀ w ∈ kG, w ∈ Ts) {R : Room} (hR : (kR 108).frames + 1 ≤ R.frames ∧ 8 + (5 + 11) + (kR 108).locals ≤ R.locals) : kWord "HoleCounterLaw" Ts R 88 (.inr (.inr (.inl (108, 1, some 4)))) := ⟨(by decide : 108 < 116), kq_108, rfl, hR.1, hR.2, ⟨(by decide +kernel : (kY 108).cls ≠ _), (by decide +kernel : (kY 108).cls ≠ _), (by decide +kernel : (parseMethodDescriptor (kY 108).desc).map (fun d => d.parameters.length) = some 1)⟩, kc4, kf4, 15, rfl, rfl, kG_V hT kl_HoleCounterLaw_88 ks108 kx108 kini_HoleCounterModel kw108⟩
theorem kd_HoleCounterModel_159 {Ts : List Cond} (hT : ∀ w ∈ kG, w ∈ Ts) {R : Room} (hR : (kR 107).frames + 1 ≤ R.frames ∧ 8 + (7 + 11) + (kR 107).locals ≤ R.locals) : kWord "HoleCounterModel" Ts R 159 (.inr (.inr (.inl (107, 2, some 4)))) := ⟨(by decide : 107 < 116), kq_107, rfl, hR.1, hR.2, ⟨(by decide +kernel : (kY 107).cls ≠ _), (by decide +kernel : (kY 107).cls ≠ _), (by decide +kernel : (parseMethodDescriptor (kY 107).desc).map (fun d => d.parameters.length) = some 2)⟩, kc4, kf4, 15, rfl, rfl, kG_V hT kl_HoleCounterModel_159 ks107 kx107 kini_HoleCounterModel kw107⟩
theorem kd_HoleCounterLaw_92 {Ts : List Cond} (hT : ∀ w ∈ kG, w ∈ Ts) {R : Room} (hR : (kR 115).frames + 1 ≤ R.frames ∧ 8 + (8 + 11) + (kR 115).locals ≤ R.locals) : kWord "HoleCounterLaw" Ts R 92 (.inr (.inr (.inl (115, 1, some 4)))) := ⟨(by decide : 115 < 116), kq_115, rfl, hR.1, hR.2, ⟨(by decide +kernel : (kY 115).cls ≠ _), (by decide +kernel : (kY 115).cls ≠ _), (by decide +kernel : (parseMethodDescriptor (kY 115).desc).map (fun d => d.parameters.length) = some 1)⟩, kc4, kf4, 15, rfl, rfl, kG_V hT kl_HoleCounterLaw_92 ks115 kx115 kini_HoleCounterModel kw115⟩
theorem kd_HoleCounterModel_171 {Ts : List Cond} (hT : ∀ w ∈ kG, w ∈ Ts) {R : Room} (hR : (kR 111).frames + 1 ≤ R.frames ∧ 8 + (5 + 11) + (kR 111).locals ≤ R.locals) : kWord "HoleCounterModel" Ts R 171 (.inr (.inr (.inl (111, 1, some 4)))) := ⟨(by decide : 111 < 116), kq_111, rfl, hR.1, hR.2, ⟨(by decide +kernel : (kY 111).cls ≠ _), (by decide +kernel : (kY 111).cls ≠ _), (by decide +kernel : (parseMethodDescriptor (kY 111).desc).map (fun d => d.parameters.length) = some 1)⟩, kc4, kf4, 15, rfl, rfl, kG_V hT kl_HoleCounterModel_171 ks111 kx111 kini_HoleCounterModel kw111⟩
theorem kd_HoleCounterModel_165 {Ts : List Cond} (hT : ∀ w ∈ kG, w ∈ Ts) {R : Room} (hR : (kR 109).frames + 1 ≤ R.frames ∧ 8 + (5 + 11) + (kR 109).locals ≤ R.locals) : kWord "HoleCounterModel" Ts R 165 (.inr (.inr (.inl (109, 2, some 4)))) := ⟨(by decide : 109 < 116), kq_109, rfl, hR.1, hR.2, ⟨(by decide +kernel : (kY 109).cls ≠ _), (by decide +kernel : (kY 109).cls ≠ _), (by decide +kernel : (parseMethodDescriptor (kY 109).desc).map (fun d => d.parameters.length) = some 2)⟩, kc4, kf4, 15, rfl, rfl, kG_V hT kl_HoleCounterModel_165 ks109 kx109 kini_HoleCounterModel kw109⟩
theorem kd_HoleCounterModel_168 {Ts : List Cond} (hT : ∀ w ∈ kG, w ∈ Ts) {R : Room} (hR : (kR 112).frames + 1 ≤ R.frames ∧ 8 + (5 + 11) + (kR 112).locals ≤ R.locals) : kWord "HoleCounterModel" Ts R 168 (.inr (.inr (.inl (112, 1, some 4)))) := ⟨(by decide : 112 < 116), kq_112, rfl, hR.1, hR.2, ⟨(by decide +kernel : (kY 112).cls ≠ _), (by decide +kernel : (kY 112).cls ≠ _), (by decide +kernel : (parseMethodDescriptor (kY 112).desc).map (fun d => d.parameters.length) = some 1)⟩, kc4, kf4, 15, rfl, rfl, kG_V hT kl_HoleCounterModel_168 ks112 kx112 kini_HoleCounterModel kw112⟩
theorem kd_HoleCounterModel_174 {Ts : List Cond} (hT : ∀ w ∈ kG, w ∈ Ts) {R : Room} (hR : (kR 110).frames + 1 ≤ R.frames ∧ 8 + (5 + 11) + (kR 110).locals ≤ R.locals) : kWord "HoleCounterModel" Ts R 174 (.inr (.inr (.inl (110, 2, some 4)))) := ⟨(by decide : 110 < 116), kq_110, rfl, hR.1, hR.2, ⟨(by decide +kernel : (kY 110).cls ≠ _), (by decide +kernel : (kY 110).cls ≠ _), (by decide +kernel : (parseMethodDescriptor (kY 110).desc).map (fun d => d.parameters.length) = some 2)⟩, kc4, kf4, 15, rfl, rfl, kG_V hT kl_HoleCounterModel_174 ks110 kx110 kini_HoleCounterModel kw110⟩
theorem kd_HoleCounterModel_177 {Ts : List Cond} (hT : ∀ w ∈ kG, w ∈ Ts) {R : Room} (hR : (kR 113).frames + 1 ≤ R.frames ∧ 8 + (7 + 11) + (kR 113).locals ≤ R.locals) : kWord "HoleCounterModel" Ts R 177 (.inr (.inr (.inl (113, 1, some 4)))) := ⟨(by decide : 113 < 116), kq_113, rfl, hR.1, hR.2, ⟨(by decide +kernel : (kY 113).cls ≠ _), (by decide +kernel : (kY 113).cls ≠ _), (by decide +kernel : (parseMethodDescriptor (kY 113).desc).map (fun d => d.parameters.length) = some 1)⟩, kc4, kf4, 15, rfl, rfl, kG_V hT kl_HoleCounterModel_177 ks113 kx113 kini_HoleCounterModel kw113⟩
theorem kd_HoleCounterModel_180 {Ts : List Cond} (hT : ∀ w ∈ kG, w ∈ Ts) {R : Room} (hR : (kR 114).frames + 1 ≤ R.frames ∧ 8 + (5 + 11) + (kR 114).locals ≤ R.locals) : kWord "HoleCounterModel" Ts R 180 (.inr (.inr (.inl (114, 2, some 4)))) := ⟨(by decide : 114 < 116), kq_114, rfl, hR.1, hR.2, ⟨(by decide +kernel : (kY 114).cls ≠ _), (by decide +kernel : (kY 114).cls ≠ _), (by decide +kernel : (parseMethodDescriptor (kY 114).desc).map (fun d => d.parameters.length) = some 2)⟩, kc4, kf4, 15, rfl, rfl, kG_V hT kl_HoleCounterModel_180 ks114 kx114 kini_HoleCounterModel kw114⟩
theorem kd_HoleCounter_Complex_37 {Ts : List Cond} (hT : ∀ w ∈ kG, w ∈ Ts) {R : Room} (hR : (kR 54).frames + 1 ≤ R.frames ∧ 8 + (1 + 11) + (kR 54).locals ≤ R.locals) : kWord "HoleCounter$Complex" Ts R 37 (.inr (.inr (.inl (54, 1, none)))) := ⟨(by decide : 54 < 116), kq_54, rfl, hR.1, hR.2, ⟨(by decide +kernel : (kY 54).cls ≠ _), (by decide +kernel : (kY 54).cls ≠ _), (by decide +kernel : (parseMethodDescriptor (kY 54).desc).map (fun d => d.parameters.length) = some 1)⟩, Or.inr ⟨"HoleCounter", by decide +kernel, kG_N hT kw54, hT _ kini_HoleCounter, hT _ ks54⟩⟩
theorem kd_HoleCounter_Complex_33 {Ts : List Cond} (hT : ∀ w ∈ kG, w ∈ Ts) {R : Room} (hR : (kR 53).frames + 1 ≤ R.frames ∧ 8 + (1 + 11) + (kR 53).locals ≤ R.locals) : kWord "HoleCounter$Complex" Ts R 33 (.inr (.inr (.inl (53, 1, none)))) := ⟨(by decide : 53 < 116), kq_53, rfl, hR.1, hR.2, ⟨(by decide +kernel : (kY 53).cls ≠ _), (by decide +kernel : (kY 53).cls ≠ _), (by decide +kernel : (parseMethodDescriptor (kY 53).desc).map (fun d => d.parameters.length) = some 1)⟩, Or.inr ⟨"HoleCounter", by decide +kernel, kG_N hT kw53, hT _ kini_HoleCounter, hT _ ks53⟩⟩
theorem kd_HoleCounter_Complex_51 {Ts : List Cond} (hT : ∀ w ∈ kG, w ∈ Ts) {R : Room} (hR : (kR 55).frames + 1 ≤ R.frames ∧ 8 + (3 + 11) + (kR 55).locals ≤ R.locals) : kWord "HoleCounter$Complex" Ts R 51 (.inr (.inr (.inl (55, 2, none)))) := ⟨(by decide : 55 < 116), kq_55, rfl, hR.1, hR.2, ⟨(by decide +kernel : (kY 55).cls ≠ _), (by decide +kernel : (kY 55).cls ≠ _), (by decide +kernel : (parseMethodDescriptor (kY 55).desc).map (fun d => d.parameters.length) = some 2)⟩, Or.inr ⟨"HoleCounter", by decide +kernel, kG_N hT kw55, hT _ kini_HoleCounter, hT _ ks55⟩⟩
theorem ko_0 : kOk 0 kq_0 := by
  have hT : ∀ w ∈ kG, w ∈ kWS 0 := fun w h => List.mem_cons_of_mem _ h
  exact ⟨⟨kG, rfl⟩, by decide +kernel, rfl, rfl, mm_all_sp kh_0, mm_pool_sp (P := kWord (kY 0).cls (kWS 0) (kR 0)) (l := kp_0) (List.forall_mem_cons.mpr ⟨hT _ kl_java_lang_Integer_265, List.forall_mem_cons.mpr ⟨hT _ kl_java_lang_Integer_266, List.forall_mem_cons.mpr ⟨hT _ kl_java_lang_Integer_267, fun _ h => absurd h List.not_mem_nil⟩⟩⟩)⟩
theorem ko_1 : kOk 1 kq_1 := by
  have hT : ∀ w ∈ kG, w ∈ kWS 1 := fun w h => List.mem_cons_of_mem _ h
  exact ⟨⟨kG, rfl⟩, by decide +kernel, rfl, rfl, mm_all_sp kh_1, mm_pool_sp (P := kWord (kY 1).cls (kWS 1) (kR 1)) (l := kp_1) (fun _ h => absurd h List.not_mem_nil)⟩
theorem ko_2 : kOk 2 kq_2 := by
  have hT : ∀ w ∈ kG, w ∈ kWS 2 := fun w h => List.mem_cons_of_mem _ h
  exact ⟨⟨kG, rfl⟩, by decide +kernel, rfl, rfl, mm_all_sp kh_2, mm_pool_sp (P := kWord (kY 2).cls (kWS 2) (kR 2)) (l := kp_2) (fun _ h => absurd h List.not_mem_nil)⟩
theorem ko_3 : kOk 3 kq_3 := by
  have hT : ∀ w ∈ kG, w ∈ kWS 3 := fun w h => List.mem_cons_of_mem _ h
  exact ⟨⟨kG, rfl⟩, by decide +kernel, rfl, rfl, mm_all_sp kh_3, mm_pool_sp (P := kWord (kY 3).cls (kWS 3) (kR 3)) (l := kp_3) (List.forall_mem_cons.mpr ⟨kd_HoleCounter_Complex_9 hT _, List.forall_mem_cons.mpr ⟨kd_HoleCounter_Complex_15 hT (by decide +kernel), List.forall_mem_cons.mpr ⟨kd_HoleCounter_Complex_21 hT _, List.forall_mem_cons.mpr ⟨kd_HoleCounter_Complex_24 hT _, fun _ h => absurd h List.not_mem_nil⟩⟩⟩⟩)⟩
theorem ko_4 : kOk 4 kq_4 := by
  have hT : ∀ w ∈ kG, w ∈ kWS 4 := fun w h => List.mem_cons_of_mem _ h
  exact ⟨⟨kG, rfl⟩, by decide +kernel, rfl, rfl, mm_all_sp kh_4, mm_pool_sp (P := kWord (kY 4).cls (kWS 4) (kR 4)) (l := kp_4) (List.forall_mem_cons.mpr ⟨kd_HoleCounter_Complex_33 hT (by decide +kernel), List.forall_mem_cons.mpr ⟨kd_HoleCounter_Complex_24 hT _, fun _ h => absurd h List.not_mem_nil⟩⟩)⟩
theorem ko_5 : kOk 5 kq_5 := by
  have hT : ∀ w ∈ kG, w ∈ kWS 5 := fun w h => List.mem_cons_of_mem _ h
  exact ⟨⟨kG, rfl⟩, by decide +kernel, rfl, rfl, mm_all_sp kh_5, mm_pool_sp (P := kWord (kY 5).cls (kWS 5) (kR 5)) (l := kp_5) (List.forall_mem_cons.mpr ⟨kd_HoleCounter_Complex_27 hT _, fun _ h => absurd h List.not_mem_nil⟩)⟩
theorem ko_6 : kOk 6 kq_6 := by
  have hT : ∀ w ∈ kG, w ∈ kWS 6 := fun w h => List.mem_cons_of_mem _ h
  exact ⟨⟨kG, rfl⟩, by decide +kernel, rfl, rfl, mm_all_sp kh_6, mm_pool_sp (P := kWord (kY 6).cls (kWS 6) (kR 6)) (l := kp_6) (List.forall_mem_cons.mpr ⟨kd_HoleCounter_Complex_9 hT _, fun _ h => absurd h List.not_mem_nil⟩)⟩
theorem ko_7 : kOk 7 kq_7 := by
  have hT : ∀ w ∈ kG, w ∈ kWS 7 := fun w h => List.mem_cons_of_mem _ h
  exact ⟨⟨kG, rfl⟩, by decide +kernel, rfl, rfl, mm_all_sp kh_7, mm_pool_sp (P := kWord (kY 7).cls (kWS 7) (kR 7)) (l := kp_7) (List.forall_mem_cons.mpr ⟨kd_HoleCounter_Complex_9 hT _, fun _ h => absurd h List.not_mem_nil⟩)⟩
theorem ko_8 : kOk 8 kq_8 := by
  have hT : ∀ w ∈ kG, w ∈ kWS 8 := fun w h => List.mem_cons_of_mem _ h
  exact ⟨⟨kG, rfl⟩, by decide +kernel, rfl, rfl, mm_all_sp kh_8, mm_pool_sp (P := kWord (kY 8).cls (kWS 8) (kR 8)) (l := kp_8) (List.forall_mem_cons.mpr ⟨kd_HoleCounter_Complex_21 hT _, fun _ h => absurd h List.not_mem_nil⟩)⟩
theorem ko_9 : kOk 9 kq_9 := by
  have hT : ∀ w ∈ kG, w ∈ kWS 9 := fun w h => List.mem_cons_of_mem _ h
  exact ⟨⟨kG, rfl⟩, by decide +kernel, rfl, rfl, mm_all_sp kh_9, mm_pool_sp (P := kWord (kY 9).cls (kWS 9) (kR 9)) (l := kp_9) (List.forall_mem_cons.mpr ⟨kd_HoleCounter_Complex_21 hT _, fun _ h => absurd h List.not_mem_nil⟩)⟩
theorem ko_10 : kOk 10 kq_10 := by
  have hT : ∀ w ∈ kG, w ∈ kWS 10 := fun w h => List.mem_cons_of_mem _ h
  exact ⟨⟨kG, rfl⟩, by decide +kernel, rfl, rfl, mm_all_sp kh_10, mm_pool_sp (P := kWord (kY 10).cls (kWS 10) (kR 10)) (l := kp_10) (List.forall_mem_cons.mpr ⟨kd_HoleCounter_Complex_30 hT _, List.forall_mem_cons.mpr ⟨kd_HoleCounter_Complex_15 hT (by decide +kernel), List.forall_mem_cons.mpr ⟨kd_HoleCounter_Complex_9 hT _, List.forall_mem_cons.mpr ⟨kd_HoleCounter_Complex_37 hT (by decide +kernel), List.forall_mem_cons.mpr ⟨kd_HoleCounter_Complex_24 hT _, List.forall_mem_cons.mpr ⟨kd_HoleCounter_Complex_41 hT (by decide +kernel), fun _ h => absurd h List.not_mem_nil⟩⟩⟩⟩⟩⟩)⟩
theorem ko_11 : kOk 11 kq_11 := by
  have hT : ∀ w ∈ kG, w ∈ kWS 11 := fun w h => List.mem_cons_of_mem _ h
  exact ⟨⟨kG, rfl⟩, by decide +kernel, rfl, rfl, mm_all_sp kh_11, mm_pool_sp (P := kWord (kY 11).cls (kWS 11) (kR 11)) (l := kp_11) (List.forall_mem_cons.mpr ⟨kd_HoleCounter_Complex_24 hT _, List.forall_mem_cons.mpr ⟨kd_HoleCounter_Complex_15 hT (by decide +kernel), List.forall_mem_cons.mpr ⟨kd_HoleCounter_Complex_9 hT _, List.forall_mem_cons.mpr ⟨kd_HoleCounter_Complex_37 hT (by decide +kernel), List.forall_mem_cons.mpr ⟨kd_HoleCounter_Complex_27 hT _, fun _ h => absurd h List.not_mem_nil⟩⟩⟩⟩⟩)⟩
theorem ko_12 : kOk 12 kq_12 := by
  have hT : ∀ w ∈ kG, w ∈ kWS 12 := fun w h => List.mem_cons_of_mem _ h
  exact ⟨⟨kG, rfl⟩, by decide +kernel, rfl, rfl, mm_all_sp kh_12, mm_pool_sp (P := kWord (kY 12).cls (kWS 12) (kR 12)) (l := kp_12) (List.forall_mem_cons.mpr ⟨kd_HoleCounter_Complex_37 hT (by decide +kernel), List.forall_mem_cons.mpr ⟨kd_HoleCounter_Complex_44 hT (by decide +kernel), List.forall_mem_cons.mpr ⟨kd_HoleCounter_Complex_47 hT (by decide +kernel), List.forall_mem_cons.mpr ⟨kd_HoleCounter_Complex_51 hT (by decide +kernel), List.forall_mem_cons.mpr ⟨kd_HoleCounter_Complex_21 hT _, fun _ h => absurd h List.not_mem_nil⟩⟩⟩⟩⟩)⟩
theorem ko_13 : kOk 13 kq_13 := by
  have hT : ∀ w ∈ kG, w ∈ kWS 13 := fun w h => List.mem_cons_of_mem _ h
  exact ⟨⟨kG, rfl⟩, by decide +kernel, rfl, rfl, mm_all_sp kh_13, mm_pool_sp (P := kWord (kY 13).cls (kWS 13) (kR 13)) (l := kp_13) (List.forall_mem_cons.mpr ⟨kd_HoleCounter_Complex_44 hT (by decide +kernel), List.forall_mem_cons.mpr ⟨kd_HoleCounter_Complex_47 hT (by decide +kernel), List.forall_mem_cons.mpr ⟨kd_HoleCounter_Complex_54 hT (by decide +kernel), fun _ h => absurd h List.not_mem_nil⟩⟩⟩)⟩
theorem ko_14 : kOk 14 kq_14 := by
  have hT : ∀ w ∈ kG, w ∈ kWS 14 := fun w h => List.mem_cons_of_mem _ h
  exact ⟨⟨kG, rfl⟩, by decide +kernel, rfl, rfl, mm_all_sp kh_14, mm_pool_sp (P := kWord (kY 14).cls (kWS 14) (kR 14)) (l := kp_14) (List.forall_mem_cons.mpr ⟨kd_HoleCounter_Complex_47 hT (by decide +kernel), List.forall_mem_cons.mpr ⟨kd_HoleCounter_Complex_44 hT (by decide +kernel), fun _ h => absurd h List.not_mem_nil⟩⟩)⟩
theorem ko_15 : kOk 15 kq_15 := by
  have hT : ∀ w ∈ kG, w ∈ kWS 15 := fun w h => List.mem_cons_of_mem _ h
  exact ⟨⟨kG, rfl⟩, by decide +kernel, rfl, rfl, mm_all_sp kh_15, mm_pool_sp (P := kWord (kY 15).cls (kWS 15) (kR 15)) (l := kp_15) (List.forall_mem_cons.mpr ⟨kd_HoleCounter_Complex_44 hT (by decide +kernel), List.forall_mem_cons.mpr ⟨kd_HoleCounter_Complex_47 hT (by decide +kernel), List.forall_mem_cons.mpr ⟨kd_HoleCounter_Complex_9 hT _, fun _ h => absurd h List.not_mem_nil⟩⟩⟩)⟩
theorem ko_16 : kOk 16 kq_16 := by
  have hT : ∀ w ∈ kG, w ∈ kWS 16 := fun w h => List.mem_cons_of_mem _ h
  exact ⟨⟨kG, rfl⟩, by decide +kernel, rfl, rfl, mm_all_sp kh_16, mm_pool_sp (P := kWord (kY 16).cls (kWS 16) (kR 16)) (l := kp_16) (List.forall_mem_cons.mpr ⟨kd_HoleCounter_Grid_35 hT _, List.forall_mem_cons.mpr ⟨kd_HoleCounter_Grid_38 hT _, List.forall_mem_cons.mpr ⟨kd_HoleCounter_Grid_11 hT _, fun _ h => absurd h List.not_mem_nil⟩⟩⟩)⟩
theorem ko_17 : kOk 17 kq_17 := by
  have hT : ∀ w ∈ kG, w ∈ kWS 17 := fun w h => List.mem_cons_of_mem _ h
  exact ⟨⟨kG, rfl⟩, by decide +kernel, rfl, rfl, mm_all_sp kh_17, mm_pool_sp (P := kWord (kY 17).cls (kWS 17) (kR 17)) (l := kp_17) (List.forall_mem_cons.mpr ⟨kd_HoleCounter_Grid_11 hT _, fun _ h => absurd h List.not_mem_nil⟩)⟩
theorem ko_18 : kOk 18 kq_18 := by
  have hT : ∀ w ∈ kG, w ∈ kWS 18 := fun w h => List.mem_cons_of_mem _ h
  exact ⟨⟨kG, rfl⟩, by decide +kernel, rfl, rfl, mm_all_sp kh_18, mm_pool_sp (P := kWord (kY 18).cls (kWS 18) (kR 18)) (l := kp_18) (List.forall_mem_cons.mpr ⟨kd_HoleCounter_Grid_21 hT _, fun _ h => absurd h List.not_mem_nil⟩)⟩
theorem ko_19 : kOk 19 kq_19 := by
  have hT : ∀ w ∈ kG, w ∈ kWS 19 := fun w h => List.mem_cons_of_mem _ h
  exact ⟨⟨kG, rfl⟩, by decide +kernel, rfl, rfl, mm_all_sp kh_19, mm_pool_sp (P := kWord (kY 19).cls (kWS 19) (kR 19)) (l := kp_19) (List.forall_mem_cons.mpr ⟨kd_HoleCounter_Grid_41 hT (by decide +kernel), List.forall_mem_cons.mpr ⟨kd_HoleCounter_Grid_45 hT _, List.forall_mem_cons.mpr ⟨kd_HoleCounter_Grid_38 hT _, List.forall_mem_cons.mpr ⟨kd_HoleCounter_Grid_49 hT (by decide +kernel), List.forall_mem_cons.mpr ⟨kd_HoleCounter_Grid_35 hT _, List.forall_mem_cons.mpr ⟨kd_HoleCounter_Grid_53 hT (by decide +kernel), List.forall_mem_cons.mpr ⟨kd_HoleCounter_Grid_15 hT _, List.forall_mem_cons.mpr ⟨kd_HoleCounter_Grid_31 hT _, List.forall_mem_cons.mpr ⟨kd_HoleCounter_Grid_56 hT (by decide +kernel), List.forall_mem_cons.mpr ⟨kd_HoleCounter_Grid_18 hT _, fun _ h => absurd h List.not_mem_nil⟩⟩⟩⟩⟩⟩⟩⟩⟩⟩)⟩
theorem ko_20 : kOk 20 kq_20 := by
  have hT : ∀ w ∈ kG, w ∈ kWS 20 := fun w h => List.mem_cons_of_mem _ h
  exact ⟨⟨kG, rfl⟩, by decide +kernel, rfl, rfl, mm_all_sp kh_20, mm_pool_sp (P := kWord (kY 20).cls (kWS 20) (kR 20)) (l := kp_20) (List.forall_mem_cons.mpr ⟨kd_HoleCounter_Grid_31 hT _, List.forall_mem_cons.mpr ⟨kd_HoleCounter_Grid_35 hT _, List.forall_mem_cons.mpr ⟨kd_HoleCounter_Grid_38 hT _, List.forall_mem_cons.mpr ⟨kd_HoleCounter_Grid_11 hT _, List.forall_mem_cons.mpr ⟨kd_HoleCounter_Grid_15 hT _, fun _ h => absurd h List.not_mem_nil⟩⟩⟩⟩⟩)⟩
theorem ko_21 : kOk 21 kq_21 := by
  have hT : ∀ w ∈ kG, w ∈ kWS 21 := fun w h => List.mem_cons_of_mem _ h
  exact ⟨⟨kG, rfl⟩, by decide +kernel, rfl, rfl, mm_all_sp kh_21, mm_pool_sp (P := kWord (kY 21).cls (kWS 21) (kR 21)) (l := kp_21) (List.forall_mem_cons.mpr ⟨kd_HoleCounter_Grid_35 hT _, List.forall_mem_cons.mpr ⟨kd_HoleCounter_Grid_15 hT _, fun _ h => absurd h List.not_mem_nil⟩⟩)⟩
theorem ko_22 : kOk 22 kq_22 := by
  have hT : ∀ w ∈ kG, w ∈ kWS 22 := fun w h => List.mem_cons_of_mem _ h
  exact ⟨⟨kG, rfl⟩, by decide +kernel, rfl, rfl, mm_all_sp kh_22, mm_pool_sp (P := kWord (kY 22).cls (kWS 22) (kR 22)) (l := kp_22) (List.forall_mem_cons.mpr ⟨kd_HoleCounter_Grid_38 hT _, List.forall_mem_cons.mpr ⟨kd_HoleCounter_Grid_15 hT _, fun _ h => absurd h List.not_mem_nil⟩⟩)⟩
theorem ko_23 : kOk 23 kq_23 := by
  have hT : ∀ w ∈ kG, w ∈ kWS 23 := fun w h => List.mem_cons_of_mem _ h
  exact ⟨⟨kG, rfl⟩, by decide +kernel, rfl, rfl, mm_all_sp kh_23, mm_pool_sp (P := kWord (kY 23).cls (kWS 23) (kR 23)) (l := kp_23) (List.forall_mem_cons.mpr ⟨kd_HoleCounter_Grid_15 hT _, List.forall_mem_cons.mpr ⟨kd_HoleCounter_Grid_60 hT (by decide +kernel), List.forall_mem_cons.mpr ⟨kd_HoleCounter_Grid_35 hT _, List.forall_mem_cons.mpr ⟨kd_HoleCounter_Grid_31 hT _, List.forall_mem_cons.mpr ⟨kd_HoleCounter_Grid_64 hT (by decide +kernel), fun _ h => absurd h List.not_mem_nil⟩⟩⟩⟩⟩)⟩
theorem ko_24 : kOk 24 kq_24 := by
  have hT : ∀ w ∈ kG, w ∈ kWS 24 := fun w h => List.mem_cons_of_mem _ h
  exact ⟨⟨kG, rfl⟩, by decide +kernel, rfl, rfl, mm_all_sp kh_24, mm_pool_sp (P := kWord (kY 24).cls (kWS 24) (kR 24)) (l := kp_24) (List.forall_mem_cons.mpr ⟨kd_HoleCounter_Grid_38 hT _, List.forall_mem_cons.mpr ⟨kd_HoleCounter_Grid_15 hT _, List.forall_mem_cons.mpr ⟨kd_HoleCounter_Grid_31 hT _, fun _ h => absurd h List.not_mem_nil⟩⟩⟩)⟩
theorem ko_25 : kOk 25 kq_25 := by
  have hT : ∀ w ∈ kG, w ∈ kWS 25 := fun w h => List.mem_cons_of_mem _ h
  exact ⟨⟨kG, rfl⟩, by decide +kernel, rfl, rfl, mm_all_sp kh_25, mm_pool_sp (P := kWord (kY 25).cls (kWS 25) (kR 25)) (l := kp_25) (List.forall_mem_cons.mpr ⟨kd_HoleCounter_Grid_31 hT _, fun _ h => absurd h List.not_mem_nil⟩)⟩
theorem ko_26 : kOk 26 kq_26 := by
  have hT : ∀ w ∈ kG, w ∈ kWS 26 := fun w h => List.mem_cons_of_mem _ h
  exact ⟨⟨kG, rfl⟩, by decide +kernel, rfl, rfl, mm_all_sp kh_26, mm_pool_sp (P := kWord (kY 26).cls (kWS 26) (kR 26)) (l := kp_26) (List.forall_mem_cons.mpr ⟨hT _ kl_HoleCounter_Grid_30, List.forall_mem_cons.mpr ⟨kd_HoleCounter_Grid_68 hT (by decide +kernel), List.forall_mem_cons.mpr ⟨kd_HoleCounter_Grid_45 hT _, List.forall_mem_cons.mpr ⟨hT _ kl_HoleCounter_Grid_72, List.forall_mem_cons.mpr ⟨Or.inr ⟨rfl, hT _ kl_HoleCounter_Grid_74, hT _ kms1, hT _ kini_java_lang_Math, hT _ kmc1, by decide +kernel, by decide +kernel⟩, List.forall_mem_cons.mpr ⟨kd_HoleCounter_Grid_80 hT _, List.forall_mem_cons.mpr ⟨kd_HoleCounter_Grid_83 hT (by decide +kernel), fun _ h => absurd h List.not_mem_nil⟩⟩⟩⟩⟩⟩⟩)⟩
theorem ko_27 : kOk 27 kq_27 := by
  have hT : ∀ w ∈ kG, w ∈ kWS 27 := fun w h => List.mem_cons_of_mem _ h
  exact ⟨⟨kG, rfl⟩, by decide +kernel, rfl, rfl, mm_all_sp kh_27, mm_pool_sp (P := kWord (kY 27).cls (kWS 27) (kR 27)) (l := kp_27) (List.forall_mem_cons.mpr ⟨kd_HoleCounter_Grid_80 hT _, List.forall_mem_cons.mpr ⟨kd_HoleCounter_Grid_24 hT _, List.forall_mem_cons.mpr ⟨kd_HoleCounter_Grid_27 hT _, fun _ h => absurd h List.not_mem_nil⟩⟩⟩)⟩
theorem ko_28 : kOk 28 kq_28 := by
  have hT : ∀ w ∈ kG, w ∈ kWS 28 := fun w h => List.mem_cons_of_mem _ h
  exact ⟨⟨kG, rfl⟩, by decide +kernel, rfl, rfl, mm_all_sp kh_28, mm_pool_sp (P := kWord (kY 28).cls (kWS 28) (kR 28)) (l := kp_28) (List.forall_mem_cons.mpr ⟨kd_HoleCounter_Grid_86 hT (by decide +kernel), List.forall_mem_cons.mpr ⟨kd_HoleCounter_Grid_21 hT _, List.forall_mem_cons.mpr ⟨kd_HoleCounter_Grid_80 hT _, List.forall_mem_cons.mpr ⟨kd_HoleCounter_Grid_24 hT _, List.forall_mem_cons.mpr ⟨kd_HoleCounter_Grid_27 hT _, List.forall_mem_cons.mpr ⟨kd_HoleCounter_Grid_68 hT (by decide +kernel), List.forall_mem_cons.mpr ⟨kd_HoleCounter_Grid_18 hT _, fun _ h => absurd h List.not_mem_nil⟩⟩⟩⟩⟩⟩⟩)⟩
theorem ko_29 : kOk 29 kq_29 := by
  have hT : ∀ w ∈ kG, w ∈ kWS 29 := fun w h => List.mem_cons_of_mem _ h
  exact ⟨⟨kG, rfl⟩, by decide +kernel, rfl, rfl, mm_all_sp kh_29, mm_pool_sp (P := kWord (kY 29).cls (kWS 29) (kR 29)) (l := kp_29) (List.forall_mem_cons.mpr ⟨kd_HoleCounter_Grid_38 hT _, List.forall_mem_cons.mpr ⟨kd_HoleCounter_Grid_86 hT (by decide +kernel), List.forall_mem_cons.mpr ⟨hT _ kl_HoleCounter_Grid_30, List.forall_mem_cons.mpr ⟨kd_HoleCounter_Grid_68 hT (by decide +kernel), List.forall_mem_cons.mpr ⟨kd_HoleCounter_Grid_80 hT _, List.forall_mem_cons.mpr ⟨kd_HoleCounter_Grid_90 hT (by decide +kernel), List.forall_mem_cons.mpr ⟨kd_HoleCounter_Grid_24 hT _, fun _ h => absurd h List.not_mem_nil⟩⟩⟩⟩⟩⟩⟩)⟩
theorem ko_30 : kOk 30 kq_30 := by
  have hT : ∀ w ∈ kG, w ∈ kWS 30 := fun w h => List.mem_cons_of_mem _ h
  exact ⟨⟨kG, rfl⟩, by decide +kernel, rfl, rfl, mm_all_sp kh_30, mm_pool_sp (P := kWord (kY 30).cls (kWS 30) (kR 30)) (l := kp_30) (List.forall_mem_cons.mpr ⟨kd_HoleCounter_Grid_24 hT _, List.forall_mem_cons.mpr ⟨kd_HoleCounter_Grid_27 hT _, List.forall_mem_cons.mpr ⟨kd_HoleCounter_Grid_68 hT (by decide +kernel), List.forall_mem_cons.mpr ⟨kd_HoleCounter_Grid_18 hT _, fun _ h => absurd h List.not_mem_nil⟩⟩⟩⟩)⟩
theorem ko_31 : kOk 31 kq_31 := by
  have hT : ∀ w ∈ kG, w ∈ kWS 31 := fun w h => List.mem_cons_of_mem _ h
  exact ⟨⟨kG, rfl⟩, by decide +kernel, rfl, rfl, mm_all_sp kh_31, mm_pool_sp (P := kWord (kY 31).cls (kWS 31) (kR 31)) (l := kp_31) (List.forall_mem_cons.mpr ⟨kd_HoleCounter_Span_9 hT _, List.forall_mem_cons.mpr ⟨kd_HoleCounter_Span_15 hT (by decide +kernel), fun _ h => absurd h List.not_mem_nil⟩⟩)⟩
theorem ko_32 : kOk 32 kq_32 := by
  have hT : ∀ w ∈ kG, w ∈ kWS 32 := fun w h => List.mem_cons_of_mem _ h
  exact ⟨⟨kG, rfl⟩, by decide +kernel, rfl, rfl, mm_all_sp kh_32, mm_pool_sp (P := kWord (kY 32).cls (kWS 32) (kR 32)) (l := kp_32) (List.forall_mem_cons.mpr ⟨kd_HoleCounter_Span_9 hT _, fun _ h => absurd h List.not_mem_nil⟩)⟩
theorem ko_33 : kOk 33 kq_33 := by
  have hT : ∀ w ∈ kG, w ∈ kWS 33 := fun w h => List.mem_cons_of_mem _ h
  exact ⟨⟨kG, rfl⟩, by decide +kernel, rfl, rfl, mm_all_sp kh_33, mm_pool_sp (P := kWord (kY 33).cls (kWS 33) (kR 33)) (l := kp_33) (List.forall_mem_cons.mpr ⟨kd_HoleCounter_Span_21 hT (by decide +kernel), List.forall_mem_cons.mpr ⟨kd_HoleCounter_Span_9 hT _, fun _ h => absurd h List.not_mem_nil⟩⟩)⟩
theorem ko_34 : kOk 34 kq_34 := by
  have hT : ∀ w ∈ kG, w ∈ kWS 34 := fun w h => List.mem_cons_of_mem _ h
  exact ⟨⟨kG, rfl⟩, by decide +kernel, rfl, rfl, mm_all_sp kh_34, mm_pool_sp (P := kWord (kY 34).cls (kWS 34) (kR 34)) (l := kp_34) (List.forall_mem_cons.mpr ⟨kd_HoleCounter_43 hT (by decide +kernel), List.forall_mem_cons.mpr ⟨kd_HoleCounter_47 hT (by decide +kernel), List.forall_mem_cons.mpr ⟨kd_HoleCounter_53 hT (by decide +kernel), fun _ h => absurd h List.not_mem_nil⟩⟩⟩)⟩
theorem ko_35 : kOk 35 kq_35 := by
  have hT : ∀ w ∈ kG, w ∈ kWS 35 := fun w h => List.mem_cons_of_mem _ h
  exact ⟨⟨kG, rfl⟩, by decide +kernel, rfl, rfl, mm_all_sp kh_35, mm_pool_sp (P := kWord (kY 35).cls (kWS 35) (kR 35)) (l := kp_35) (List.forall_mem_cons.mpr ⟨kd_HoleCounter_43 hT (by decide +kernel), List.forall_mem_cons.mpr ⟨kd_HoleCounter_56 hT (by decide +kernel), fun _ h => absurd h List.not_mem_nil⟩⟩)⟩
theorem ko_36 : kOk 36 kq_36 := by
  have hT : ∀ w ∈ kG, w ∈ kWS 36 := fun w h => List.mem_cons_of_mem _ h
  exact ⟨⟨kG, rfl⟩, by decide +kernel, rfl, rfl, mm_all_sp kh_36, mm_pool_sp (P := kWord (kY 36).cls (kWS 36) (kR 36)) (l := kp_36) (List.forall_mem_cons.mpr ⟨kd_HoleCounter_43 hT (by decide +kernel), List.forall_mem_cons.mpr ⟨kd_HoleCounter_59 hT (by decide +kernel), List.forall_mem_cons.mpr ⟨kd_HoleCounter_63 hT (by decide +kernel), fun _ h => absurd h List.not_mem_nil⟩⟩⟩)⟩
theorem ko_37 : kOk 37 kq_37 := by
  have hT : ∀ w ∈ kG, w ∈ kWS 37 := fun w h => List.mem_cons_of_mem _ h
  exact ⟨⟨kG, rfl⟩, by decide +kernel, rfl, rfl, mm_all_sp kh_37, mm_pool_sp (P := kWord (kY 37).cls (kWS 37) (kR 37)) (l := kp_37) (List.forall_mem_cons.mpr ⟨kd_HoleCounter_43 hT (by decide +kernel), List.forall_mem_cons.mpr ⟨kd_HoleCounter_63 hT (by decide +kernel), List.forall_mem_cons.mpr ⟨kd_HoleCounter_66 hT (by decide +kernel), fun _ h => absurd h List.not_mem_nil⟩⟩⟩)⟩
theorem ko_38 : kOk 38 kq_38 := by
  have hT : ∀ w ∈ kG, w ∈ kWS 38 := fun w h => List.mem_cons_of_mem _ h
  exact ⟨⟨kG, rfl⟩, by decide +kernel, rfl, rfl, mm_all_sp kh_38, mm_pool_sp (P := kWord (kY 38).cls (kWS 38) (kR 38)) (l := kp_38) (List.forall_mem_cons.mpr ⟨kd_HoleCounter_43 hT (by decide +kernel), List.forall_mem_cons.mpr ⟨kd_HoleCounter_63 hT (by decide +kernel), List.forall_mem_cons.mpr ⟨kd_HoleCounter_66 hT (by decide +kernel), List.forall_mem_cons.mpr ⟨kd_HoleCounter_70 hT (by decide +kernel), fun _ h => absurd h List.not_mem_nil⟩⟩⟩⟩)⟩
theorem ko_39 : kOk 39 kq_39 := by
  have hT : ∀ w ∈ kG, w ∈ kWS 39 := fun w h => List.mem_cons_of_mem _ h
  exact ⟨⟨kG, rfl⟩, by decide +kernel, rfl, rfl, mm_all_sp kh_39, mm_pool_sp (P := kWord (kY 39).cls (kWS 39) (kR 39)) (l := kp_39) (List.forall_mem_cons.mpr ⟨kd_HoleCounter_43 hT (by decide +kernel), List.forall_mem_cons.mpr ⟨kd_HoleCounter_63 hT (by decide +kernel), fun _ h => absurd h List.not_mem_nil⟩⟩)⟩
theorem ko_40 : kOk 40 kq_40 := by
  have hT : ∀ w ∈ kG, w ∈ kWS 40 := fun w h => List.mem_cons_of_mem _ h
  exact ⟨⟨kG, rfl⟩, by decide +kernel, rfl, rfl, mm_all_sp kh_40, mm_pool_sp (P := kWord (kY 40).cls (kWS 40) (kR 40)) (l := kp_40) (List.forall_mem_cons.mpr ⟨hT _ kl_HoleCounter_73, List.forall_mem_cons.mpr ⟨kd_HoleCounter_74 hT (by decide +kernel), fun _ h => absurd h List.not_mem_nil⟩⟩)⟩
theorem ko_41 : kOk 41 kq_41 := by
  have hT : ∀ w ∈ kG, w ∈ kWS 41 := fun w h => List.mem_cons_of_mem _ h
  exact ⟨⟨kG, rfl⟩, by decide +kernel, rfl, rfl, mm_all_sp kh_41, mm_pool_sp (P := kWord (kY 41).cls (kWS 41) (kR 41)) (l := kp_41) (List.forall_mem_cons.mpr ⟨kd_HoleCounter_43 hT (by decide +kernel), List.forall_mem_cons.mpr ⟨kd_HoleCounter_59 hT (by decide +kernel), List.forall_mem_cons.mpr ⟨kd_HoleCounter_78 hT (by decide +kernel), List.forall_mem_cons.mpr ⟨kd_HoleCounter_26 hT _, List.forall_mem_cons.mpr ⟨kd_HoleCounter_82 hT (by decide +kernel), List.forall_mem_cons.mpr ⟨kd_HoleCounter_86 hT (by decide +kernel), fun _ h => absurd h List.not_mem_nil⟩⟩⟩⟩⟩⟩)⟩
theorem ko_42 : kOk 42 kq_42 := by
  have hT : ∀ w ∈ kG, w ∈ kWS 42 := fun w h => List.mem_cons_of_mem _ h
  exact ⟨⟨kG, rfl⟩, by decide +kernel, rfl, rfl, mm_all_sp kh_42, mm_pool_sp (P := kWord (kY 42).cls (kWS 42) (kR 42)) (l := kp_42) (List.forall_mem_cons.mpr ⟨kd_HoleCounter_74 hT (by decide +kernel), fun _ h => absurd h List.not_mem_nil⟩)⟩
theorem ko_43 : kOk 43 kq_43 := by
  have hT : ∀ w ∈ kG, w ∈ kWS 43 := fun w h => List.mem_cons_of_mem _ h
  exact ⟨⟨kG, rfl⟩, by decide +kernel, rfl, rfl, mm_all_sp kh_43, mm_pool_sp (P := kWord (kY 43).cls (kWS 43) (kR 43)) (l := kp_43) (List.forall_mem_cons.mpr ⟨kd_HoleCounter_43 hT (by decide +kernel), List.forall_mem_cons.mpr ⟨kd_HoleCounter_89 hT (by decide +kernel), List.forall_mem_cons.mpr ⟨kd_HoleCounter_92 hT (by decide +kernel), fun _ h => absurd h List.not_mem_nil⟩⟩⟩)⟩
theorem ko_44 : kOk 44 kq_44 := by
  have hT : ∀ w ∈ kG, w ∈ kWS 44 := fun w h => List.mem_cons_of_mem _ h
  exact ⟨⟨kG, rfl⟩, by decide +kernel, rfl, rfl, mm_all_sp kh_44, mm_pool_sp (P := kWord (kY 44).cls (kWS 44) (kR 44)) (l := kp_44) (List.forall_mem_cons.mpr ⟨kd_HoleCounter_43 hT (by decide +kernel), List.forall_mem_cons.mpr ⟨kd_HoleCounter_89 hT (by decide +kernel), List.forall_mem_cons.mpr ⟨kd_HoleCounter_96 hT (by decide +kernel), fun _ h => absurd h List.not_mem_nil⟩⟩⟩)⟩
theorem ko_45 : kOk 45 kq_45 := by
  have hT : ∀ w ∈ kG, w ∈ kWS 45 := fun w h => List.mem_cons_of_mem _ h
  exact ⟨⟨kG, rfl⟩, by decide +kernel, rfl, rfl, mm_all_sp kh_45, mm_pool_sp (P := kWord (kY 45).cls (kWS 45) (kR 45)) (l := kp_45) (List.forall_mem_cons.mpr ⟨kd_HoleCounter_43 hT (by decide +kernel), List.forall_mem_cons.mpr ⟨kd_HoleCounter_89 hT (by decide +kernel), List.forall_mem_cons.mpr ⟨kd_HoleCounter_99 hT (by decide +kernel), fun _ h => absurd h List.not_mem_nil⟩⟩⟩)⟩
theorem ko_46 : kOk 46 kq_46 := by
  have hT : ∀ w ∈ kG, w ∈ kWS 46 := fun w h => List.mem_cons_of_mem _ h
  exact ⟨⟨kG, rfl⟩, by decide +kernel, rfl, rfl, mm_all_sp kh_46, mm_pool_sp (P := kWord (kY 46).cls (kWS 46) (kR 46)) (l := kp_46) (List.forall_mem_cons.mpr ⟨kd_HoleCounter_43 hT (by decide +kernel), List.forall_mem_cons.mpr ⟨kd_HoleCounter_59 hT (by decide +kernel), List.forall_mem_cons.mpr ⟨kd_HoleCounter_102 hT (by decide +kernel), List.forall_mem_cons.mpr ⟨kd_HoleCounter_63 hT (by decide +kernel), List.forall_mem_cons.mpr ⟨kd_HoleCounter_26 hT _, List.forall_mem_cons.mpr ⟨kd_HoleCounter_105 hT (by decide +kernel), List.forall_mem_cons.mpr ⟨kd_HoleCounter_108 hT (by decide +kernel), List.forall_mem_cons.mpr ⟨kd_HoleCounter_66 hT (by decide +kernel), List.forall_mem_cons.mpr ⟨kd_HoleCounter_96 hT (by decide +kernel), List.forall_mem_cons.mpr ⟨kd_HoleCounter_112 hT (by decide +kernel), List.forall_mem_cons.mpr ⟨kd_HoleCounter_116 hT (by decide +kernel), fun _ h => absurd h List.not_mem_nil⟩⟩⟩⟩⟩⟩⟩⟩⟩⟩⟩)⟩
theorem ko_47 : kOk 47 kq_47 := by
  have hT : ∀ w ∈ kG, w ∈ kWS 47 := fun w h => List.mem_cons_of_mem _ h
  exact ⟨⟨kG, rfl⟩, by decide +kernel, rfl, rfl, mm_all_sp kh_47, mm_pool_sp (P := kWord (kY 47).cls (kWS 47) (kR 47)) (l := kp_47) (List.forall_mem_cons.mpr ⟨kd_HoleCounter_19 hT _, fun _ h => absurd h List.not_mem_nil⟩)⟩
theorem ko_48 : kOk 48 kq_48 := by
  have hT : ∀ w ∈ kG, w ∈ kWS 48 := fun w h => List.mem_cons_of_mem _ h
  exact ⟨⟨kG, rfl⟩, by decide +kernel, rfl, rfl, mm_all_sp kh_48, mm_pool_sp (P := kWord (kY 48).cls (kWS 48) (kR 48)) (l := kp_48) (List.forall_mem_cons.mpr ⟨kd_HoleCounter_10 hT _, List.forall_mem_cons.mpr ⟨kd_HoleCounter_63 hT (by decide +kernel), List.forall_mem_cons.mpr ⟨kd_HoleCounter_16 hT _, List.forall_mem_cons.mpr ⟨kd_HoleCounter_66 hT (by decide +kernel), List.forall_mem_cons.mpr ⟨kd_HoleCounter_119 hT (by decide +kernel), List.forall_mem_cons.mpr ⟨kd_HoleCounter_89 hT (by decide +kernel), fun _ h => absurd h List.not_mem_nil⟩⟩⟩⟩⟩⟩)⟩
theorem ko_49 : kOk 49 kq_49 := by
  have hT : ∀ w ∈ kG, w ∈ kWS 49 := fun w h => List.mem_cons_of_mem _ h
  exact ⟨⟨kG, rfl⟩, by decide +kernel, rfl, rfl, mm_all_sp kh_49, mm_pool_sp (P := kWord (kY 49).cls (kWS 49) (kR 49)) (l := kp_49) (List.forall_mem_cons.mpr ⟨kd_HoleCounter_16 hT _, List.forall_mem_cons.mpr ⟨kd_HoleCounter_89 hT (by decide +kernel), List.forall_mem_cons.mpr ⟨kd_HoleCounter_122 hT (by decide +kernel), List.forall_mem_cons.mpr ⟨kd_HoleCounter_126 hT (by decide +kernel), List.forall_mem_cons.mpr ⟨kd_HoleCounter_10 hT _, List.forall_mem_cons.mpr ⟨kd_HoleCounter_63 hT (by decide +kernel), List.forall_mem_cons.mpr ⟨kd_HoleCounter_66 hT (by decide +kernel), List.forall_mem_cons.mpr ⟨kd_HoleCounter_119 hT (by decide +kernel), List.forall_mem_cons.mpr ⟨kd_HoleCounter_129 hT (by decide +kernel), List.forall_mem_cons.mpr ⟨kd_HoleCounter_96 hT (by decide +kernel), fun _ h => absurd h List.not_mem_nil⟩⟩⟩⟩⟩⟩⟩⟩⟩⟩)⟩
theorem ko_50 : kOk 50 kq_50 := by
  have hT : ∀ w ∈ kG, w ∈ kWS 50 := fun w h => List.mem_cons_of_mem _ h
  exact ⟨⟨kG, rfl⟩, by decide +kernel, rfl, rfl, mm_all_sp kh_50, mm_pool_sp (P := kWord (kY 50).cls (kWS 50) (kR 50)) (l := kp_50) (List.forall_mem_cons.mpr ⟨kd_HoleCounter_59 hT (by decide +kernel), List.forall_mem_cons.mpr ⟨kd_HoleCounter_122 hT (by decide +kernel), List.forall_mem_cons.mpr ⟨kd_HoleCounter_132 hT (by decide +kernel), List.forall_mem_cons.mpr ⟨kd_HoleCounter_26 hT _, List.forall_mem_cons.mpr ⟨hT _ kl_HoleCounter_73, List.forall_mem_cons.mpr ⟨kd_HoleCounter_136 hT (by decide +kernel), List.forall_mem_cons.mpr ⟨hT _ kl_HoleCounter_139, List.forall_mem_cons.mpr ⟨Or.inl ⟨rfl, hT _ kl_HoleCounter_140, hT _ kms0, hT _ kini_java_lang_Math, hT _ kmc0, by decide +kernel, by decide +kernel⟩, List.forall_mem_cons.mpr ⟨kd_HoleCounter_10 hT _, List.forall_mem_cons.mpr ⟨kd_HoleCounter_145 hT (by decide +kernel), List.forall_mem_cons.mpr ⟨kd_HoleCounter_16 hT _, fun _ h => absurd h List.not_mem_nil⟩⟩⟩⟩⟩⟩⟩⟩⟩⟩⟩)⟩
theorem ko_51 : kOk 51 kq_51 := by
  have hT : ∀ w ∈ kG, w ∈ kWS 51 := fun w h => List.mem_cons_of_mem _ h
  exact ⟨⟨kG, rfl⟩, by decide +kernel, rfl, rfl, mm_all_sp kh_51, mm_pool_sp (P := kWord (kY 51).cls (kWS 51) (kR 51)) (l := kp_51) (List.forall_mem_cons.mpr ⟨kd_HoleCounter_43 hT (by decide +kernel), List.forall_mem_cons.mpr ⟨kd_HoleCounter_149 hT (by decide +kernel), List.forall_mem_cons.mpr ⟨kd_HoleCounter_33 hT _, List.forall_mem_cons.mpr ⟨kd_HoleCounter_37 hT _, List.forall_mem_cons.mpr ⟨kd_HoleCounter_40 hT _, List.forall_mem_cons.mpr ⟨kd_HoleCounter_153 hT (by decide +kernel), fun _ h => absurd h List.not_mem_nil⟩⟩⟩⟩⟩⟩)⟩
theorem ko_52 : kOk 52 kq_52 := by
  have hT : ∀ w ∈ kG, w ∈ kWS 52 := fun w h => List.mem_cons_of_mem _ h
  exact ⟨⟨kG, rfl⟩, by decide +kernel, rfl, rfl, mm_all_sp kh_52, mm_pool_sp (P := kWord (kY 52).cls (kWS 52) (kR 52)) (l := kp_52) (List.forall_mem_cons.mpr ⟨kd_HoleCounter_10 hT _, List.forall_mem_cons.mpr ⟨kd_HoleCounter_16 hT _, fun _ h => absurd h List.not_mem_nil⟩⟩)⟩
theorem ko_53 : kOk 53 kq_53 := by
  have hT : ∀ w ∈ kG, w ∈ kWS 53 := fun w h => List.mem_cons_of_mem _ h
  exact ⟨⟨kG, rfl⟩, by decide +kernel, rfl, rfl, mm_all_sp kh_53, mm_pool_sp (P := kWord (kY 53).cls (kWS 53) (kR 53)) (l := kp_53) (fun _ h => absurd h List.not_mem_nil)⟩
theorem ko_54 : kOk 54 kq_54 := by
  have hT : ∀ w ∈ kG, w ∈ kWS 54 := fun w h => List.mem_cons_of_mem _ h
  exact ⟨⟨kG, rfl⟩, by decide +kernel, rfl, rfl, mm_all_sp kh_54, mm_pool_sp (P := kWord (kY 54).cls (kWS 54) (kR 54)) (l := kp_54) (List.forall_mem_cons.mpr ⟨kd_HoleCounter_47 hT (by decide +kernel), fun _ h => absurd h List.not_mem_nil⟩)⟩
theorem ko_55 : kOk 55 kq_55 := by
  have hT : ∀ w ∈ kG, w ∈ kWS 55 := fun w h => List.mem_cons_of_mem _ h
  exact ⟨⟨kG, rfl⟩, by decide +kernel, rfl, rfl, mm_all_sp kh_55, mm_pool_sp (P := kWord (kY 55).cls (kWS 55) (kR 55)) (l := kp_55) (List.forall_mem_cons.mpr ⟨kd_HoleCounter_47 hT (by decide +kernel), List.forall_mem_cons.mpr ⟨kd_HoleCounter_157 hT (by decide +kernel), fun _ h => absurd h List.not_mem_nil⟩⟩)⟩
theorem ko_56 : kOk 56 kq_56 := by
  have hT : ∀ w ∈ kG, w ∈ kWS 56 := fun w h => List.mem_cons_of_mem _ h
  exact ⟨⟨kG, rfl⟩, by decide +kernel, rfl, rfl, mm_all_sp kh_56, mm_pool_sp (P := kWord (kY 56).cls (kWS 56) (kR 56)) (l := kp_56) (fun _ h => absurd h List.not_mem_nil)⟩
theorem ko_57 : kOk 57 kq_57 := by
  have hT : ∀ w ∈ kG, w ∈ kWS 57 := fun w h => List.mem_cons_of_mem _ h
  exact ⟨⟨kG, rfl⟩, by decide +kernel, rfl, rfl, mm_all_sp kh_57, mm_pool_sp (P := kWord (kY 57).cls (kWS 57) (kR 57)) (l := kp_57) (List.forall_mem_cons.mpr ⟨kd_HoleCounter_43 hT (by decide +kernel), List.forall_mem_cons.mpr ⟨kd_HoleCounter_59 hT (by decide +kernel), List.forall_mem_cons.mpr ⟨kd_HoleCounter_63 hT (by decide +kernel), List.forall_mem_cons.mpr ⟨kd_HoleCounter_145 hT (by decide +kernel), fun _ h => absurd h List.not_mem_nil⟩⟩⟩⟩)⟩
theorem ko_58 : kOk 58 kq_58 := by
  have hT : ∀ w ∈ kG, w ∈ kWS 58 := fun w h => List.mem_cons_of_mem _ h
  exact ⟨⟨kG, rfl⟩, by decide +kernel, rfl, rfl, mm_all_sp kh_58, mm_pool_sp (P := kWord (kY 58).cls (kWS 58) (kR 58)) (l := kp_58) (List.forall_mem_cons.mpr ⟨kd_HoleCounter_78 hT (by decide +kernel), List.forall_mem_cons.mpr ⟨kd_HoleCounter_26 hT _, List.forall_mem_cons.mpr ⟨kd_HoleCounter_136 hT (by decide +kernel), fun _ h => absurd h List.not_mem_nil⟩⟩⟩)⟩
theorem ko_59 : kOk 59 kq_59 := by
  have hT : ∀ w ∈ kG, w ∈ kWS 59 := fun w h => List.mem_cons_of_mem _ h
  exact ⟨⟨kG, rfl⟩, by decide +kernel, rfl, rfl, mm_all_sp kh_59, mm_pool_sp (P := kWord (kY 59).cls (kWS 59) (kR 59)) (l := kp_59) (List.forall_mem_cons.mpr ⟨kd_HoleCounter_26 hT _, List.forall_mem_cons.mpr ⟨kd_HoleCounter_63 hT (by decide +kernel), List.forall_mem_cons.mpr ⟨kd_HoleCounter_105 hT (by decide +kernel), List.forall_mem_cons.mpr ⟨kd_HoleCounter_108 hT (by decide +kernel), fun _ h => absurd h List.not_mem_nil⟩⟩⟩⟩)⟩
theorem ko_60 : kOk 60 kq_60 := by
  have hT : ∀ w ∈ kG, w ∈ kWS 60 := fun w h => List.mem_cons_of_mem _ h
  exact ⟨⟨kG, rfl⟩, by decide +kernel, rfl, rfl, mm_all_sp kh_60, mm_pool_sp (P := kWord (kY 60).cls (kWS 60) (kR 60)) (l := kp_60) (List.forall_mem_cons.mpr ⟨kd_HoleCounter_63 hT (by decide +kernel), List.forall_mem_cons.mpr ⟨kd_HoleCounter_66 hT (by decide +kernel), List.forall_mem_cons.mpr ⟨kd_HoleCounter_26 hT _, List.forall_mem_cons.mpr ⟨kd_HoleCounter_160 hT (by decide +kernel), List.forall_mem_cons.mpr ⟨kd_HoleCounter_70 hT (by decide +kernel), List.forall_mem_cons.mpr ⟨kd_HoleCounter_112 hT (by decide +kernel), fun _ h => absurd h List.not_mem_nil⟩⟩⟩⟩⟩⟩)⟩
theorem ko_61 : kOk 61 kq_61 := by
  have hT : ∀ w ∈ kG, w ∈ kWS 61 := fun w h => List.mem_cons_of_mem _ h
  exact ⟨⟨kG, rfl⟩, by decide +kernel, rfl, rfl, mm_all_sp kh_61, mm_pool_sp (P := kWord (kY 61).cls (kWS 61) (kR 61)) (l := kp_61) (List.forall_mem_cons.mpr ⟨kd_HoleCounter_10 hT _, List.forall_mem_cons.mpr ⟨kd_HoleCounter_63 hT (by decide +kernel), List.forall_mem_cons.mpr ⟨kd_HoleCounter_26 hT _, List.forall_mem_cons.mpr ⟨kd_HoleCounter_16 hT _, List.forall_mem_cons.mpr ⟨kd_HoleCounter_105 hT (by decide +kernel), List.forall_mem_cons.mpr ⟨kd_HoleCounter_108 hT (by decide +kernel), List.forall_mem_cons.mpr ⟨kd_HoleCounter_66 hT (by decide +kernel), List.forall_mem_cons.mpr ⟨kd_HoleCounter_129 hT (by decide +kernel), List.forall_mem_cons.mpr ⟨kd_HoleCounter_119 hT (by decide +kernel), List.forall_mem_cons.mpr ⟨kd_HoleCounter_160 hT (by decide +kernel), List.forall_mem_cons.mpr ⟨kd_HoleCounter_112 hT (by decide +kernel), fun _ h => absurd h List.not_mem_nil⟩⟩⟩⟩⟩⟩⟩⟩⟩⟩⟩)⟩
theorem ko_62 : kOk 62 kq_62 := by
  have hT : ∀ w ∈ kG, w ∈ kWS 62 := fun w h => List.mem_cons_of_mem _ h
  exact ⟨⟨kG, rfl⟩, by decide +kernel, rfl, rfl, mm_all_sp kh_62, mm_pool_sp (P := kWord (kY 62).cls (kWS 62) (kR 62)) (l := kp_62) (List.forall_mem_cons.mpr ⟨kd_HoleCounter_19 hT _, fun _ h => absurd h List.not_mem_nil⟩)⟩
theorem ko_63 : kOk 63 kq_63 := by
  have hT : ∀ w ∈ kG, w ∈ kWS 63 := fun w h => List.mem_cons_of_mem _ h
  exact ⟨⟨kG, rfl⟩, by decide +kernel, rfl, rfl, mm_all_sp kh_63, mm_pool_sp (P := kWord (kY 63).cls (kWS 63) (kR 63)) (l := kp_63) (List.forall_mem_cons.mpr ⟨kd_HoleCounter_19 hT _, List.forall_mem_cons.mpr ⟨kd_HoleCounter_47 hT (by decide +kernel), List.forall_mem_cons.mpr ⟨kd_HoleCounter_157 hT (by decide +kernel), fun _ h => absurd h List.not_mem_nil⟩⟩⟩)⟩
theorem ko_64 : kOk 64 kq_64 := by
  have hT : ∀ w ∈ kG, w ∈ kWS 64 := fun w h => List.mem_cons_of_mem _ h
  exact ⟨⟨kG, rfl⟩, by decide +kernel, rfl, rfl, mm_all_sp kh_64, mm_pool_sp (P := kWord (kY 64).cls (kWS 64) (kR 64)) (l := kp_64) (List.forall_mem_cons.mpr ⟨kd_HoleCounter_33 hT _, List.forall_mem_cons.mpr ⟨kd_HoleCounter_163 hT (by decide +kernel), List.forall_mem_cons.mpr ⟨kd_HoleCounter_63 hT (by decide +kernel), List.forall_mem_cons.mpr ⟨kd_HoleCounter_164 hT (by decide +kernel), List.forall_mem_cons.mpr ⟨kd_HoleCounter_153 hT (by decide +kernel), List.forall_mem_cons.mpr ⟨kd_HoleCounter_167 hT (by decide +kernel), List.forall_mem_cons.mpr ⟨kd_HoleCounter_37 hT _, List.forall_mem_cons.mpr ⟨kd_HoleCounter_171 hT (by decide +kernel), List.forall_mem_cons.mpr ⟨kd_HoleCounter_40 hT _, fun _ h => absurd h List.not_mem_nil⟩⟩⟩⟩⟩⟩⟩⟩⟩)⟩
theorem ko_65 : kOk 65 kq_65 := by
  have hT : ∀ w ∈ kG, w ∈ kWS 65 := fun w h => List.mem_cons_of_mem _ h
  exact ⟨⟨kG, rfl⟩, by decide +kernel, rfl, rfl, mm_all_sp kh_65, mm_pool_sp (P := kWord (kY 65).cls (kWS 65) (kR 65)) (l := kp_65) (fun _ h => absurd h List.not_mem_nil)⟩
theorem ko_66 : kOk 66 kq_66 := by
  have hT : ∀ w ∈ kG, w ∈ kWS 66 := fun w h => List.mem_cons_of_mem _ h
  exact ⟨⟨kG, rfl⟩, by decide +kernel, rfl, rfl, mm_all_sp kh_66, mm_pool_sp (P := kWord (kY 66).cls (kWS 66) (kR 66)) (l := kp_66) (fun _ h => absurd h List.not_mem_nil)⟩
theorem ko_67 : kOk 67 kq_67 := by
  have hT : ∀ w ∈ kG, w ∈ kWS 67 := fun w h => List.mem_cons_of_mem _ h
  exact ⟨⟨kG, rfl⟩, by decide +kernel, rfl, rfl, mm_all_sp kh_67, mm_pool_sp (P := kWord (kY 67).cls (kWS 67) (kR 67)) (l := kp_67) (fun _ h => absurd h List.not_mem_nil)⟩
theorem ko_68 : kOk 68 kq_68 := by
  have hT : ∀ w ∈ kG, w ∈ kWS 68 := fun w h => List.mem_cons_of_mem _ h
  exact ⟨⟨kG, rfl⟩, by decide +kernel, rfl, rfl, mm_all_sp kh_68, mm_pool_sp (P := kWord (kY 68).cls (kWS 68) (kR 68)) (l := kp_68) (List.forall_mem_cons.mpr ⟨kd_HoleCounterModel_45 hT (by decide +kernel), List.forall_mem_cons.mpr ⟨kd_HoleCounterModel_7 hT _, fun _ h => absurd h List.not_mem_nil⟩⟩)⟩
theorem ko_69 : kOk 69 kq_69 := by
  have hT : ∀ w ∈ kG, w ∈ kWS 69 := fun w h => List.mem_cons_of_mem _ h
  exact ⟨⟨kG, rfl⟩, by decide +kernel, rfl, rfl, mm_all_sp kh_69, mm_pool_sp (P := kWord (kY 69).cls (kWS 69) (kR 69)) (l := kp_69) (List.forall_mem_cons.mpr ⟨kd_HoleCounterModel_7 hT _, List.forall_mem_cons.mpr ⟨kd_HoleCounterModel_49 hT (by decide +kernel), fun _ h => absurd h List.not_mem_nil⟩⟩)⟩
theorem ko_70 : kOk 70 kq_70 := by
  have hT : ∀ w ∈ kG, w ∈ kWS 70 := fun w h => List.mem_cons_of_mem _ h
  exact ⟨⟨kG, rfl⟩, by decide +kernel, rfl, rfl, mm_all_sp kh_70, mm_pool_sp (P := kWord (kY 70).cls (kWS 70) (kR 70)) (l := kp_70) (List.forall_mem_cons.mpr ⟨kd_HoleCounterModel_7 hT _, List.forall_mem_cons.mpr ⟨kd_HoleCounterModel_49 hT (by decide +kernel), fun _ h => absurd h List.not_mem_nil⟩⟩)⟩
theorem ko_71 : kOk 71 kq_71 := by
  have hT : ∀ w ∈ kG, w ∈ kWS 71 := fun w h => List.mem_cons_of_mem _ h
  exact ⟨⟨kG, rfl⟩, by decide +kernel, rfl, rfl, mm_all_sp kh_71, mm_pool_sp (P := kWord (kY 71).cls (kWS 71) (kR 71)) (l := kp_71) (List.forall_mem_cons.mpr ⟨kd_HoleCounterModel_49 hT (by decide +kernel), fun _ h => absurd h List.not_mem_nil⟩)⟩
theorem ko_72 : kOk 72 kq_72 := by
  have hT : ∀ w ∈ kG, w ∈ kWS 72 := fun w h => List.mem_cons_of_mem _ h
  exact ⟨⟨kG, rfl⟩, by decide +kernel, rfl, rfl, mm_all_sp kh_72, mm_pool_sp (P := kWord (kY 72).cls (kWS 72) (kR 72)) (l := kp_72) (List.forall_mem_cons.mpr ⟨kd_HoleCounterModel_45 hT (by decide +kernel), List.forall_mem_cons.mpr ⟨kd_HoleCounterModel_49 hT (by decide +kernel), List.forall_mem_cons.mpr ⟨kd_HoleCounterModel_53 hT (by decide +kernel), List.forall_mem_cons.mpr ⟨kd_HoleCounterModel_7 hT _, List.forall_mem_cons.mpr ⟨kd_HoleCounterModel_13 hT _, fun _ h => absurd h List.not_mem_nil⟩⟩⟩⟩⟩)⟩
theorem ko_73 : kOk 73 kq_73 := by
  have hT : ∀ w ∈ kG, w ∈ kWS 73 := fun w h => List.mem_cons_of_mem _ h
  exact ⟨⟨kG, rfl⟩, by decide +kernel, rfl, rfl, mm_all_sp kh_73, mm_pool_sp (P := kWord (kY 73).cls (kWS 73) (kR 73)) (l := kp_73) (List.forall_mem_cons.mpr ⟨kd_HoleCounterModel_45 hT (by decide +kernel), List.forall_mem_cons.mpr ⟨kd_HoleCounterModel_7 hT _, List.forall_mem_cons.mpr ⟨kd_HoleCounterModel_13 hT _, fun _ h => absurd h List.not_mem_nil⟩⟩⟩)⟩
theorem ko_74 : kOk 74 kq_74 := by
  have hT : ∀ w ∈ kG, w ∈ kWS 74 := fun w h => List.mem_cons_of_mem _ h
  exact ⟨⟨kG, rfl⟩, by decide +kernel, rfl, rfl, mm_all_sp kh_74, mm_pool_sp (P := kWord (kY 74).cls (kWS 74) (kR 74)) (l := kp_74) (List.forall_mem_cons.mpr ⟨kd_HoleCounterModel_45 hT (by decide +kernel), List.forall_mem_cons.mpr ⟨kd_HoleCounterModel_57 hT (by decide +kernel), List.forall_mem_cons.mpr ⟨kd_HoleCounterModel_53 hT (by decide +kernel), fun _ h => absurd h List.not_mem_nil⟩⟩⟩)⟩
theorem ko_75 : kOk 75 kq_75 := by
  have hT : ∀ w ∈ kG, w ∈ kWS 75 := fun w h => List.mem_cons_of_mem _ h
  exact ⟨⟨kG, rfl⟩, by decide +kernel, rfl, rfl, mm_all_sp kh_75, mm_pool_sp (P := kWord (kY 75).cls (kWS 75) (kR 75)) (l := kp_75) (List.forall_mem_cons.mpr ⟨kd_HoleCounterModel_45 hT (by decide +kernel), List.forall_mem_cons.mpr ⟨kd_HoleCounterModel_57 hT (by decide +kernel), List.forall_mem_cons.mpr ⟨kd_HoleCounterModel_60 hT (by decide +kernel), fun _ h => absurd h List.not_mem_nil⟩⟩⟩)⟩
theorem ko_76 : kOk 76 kq_76 := by
  have hT : ∀ w ∈ kG, w ∈ kWS 76 := fun w h => List.mem_cons_of_mem _ h
  exact ⟨⟨kG, rfl⟩, by decide +kernel, rfl, rfl, mm_all_sp kh_76, mm_pool_sp (P := kWord (kY 76).cls (kWS 76) (kR 76)) (l := kp_76) (List.forall_mem_cons.mpr ⟨kd_HoleCounterModel_45 hT (by decide +kernel), List.forall_mem_cons.mpr ⟨kd_HoleCounterModel_60 hT (by decide +kernel), List.forall_mem_cons.mpr ⟨kd_HoleCounterModel_64 hT (by decide +kernel), fun _ h => absurd h List.not_mem_nil⟩⟩⟩)⟩
theorem ko_77 : kOk 77 kq_77 := by
  have hT : ∀ w ∈ kG, w ∈ kWS 77 := fun w h => List.mem_cons_of_mem _ h
  exact ⟨⟨kG, rfl⟩, by decide +kernel, rfl, rfl, mm_all_sp kh_77, mm_pool_sp (P := kWord (kY 77).cls (kWS 77) (kR 77)) (l := kp_77) (List.forall_mem_cons.mpr ⟨kd_HoleCounterModel_45 hT (by decide +kernel), List.forall_mem_cons.mpr ⟨kd_HoleCounterModel_53 hT (by decide +kernel), fun _ h => absurd h List.not_mem_nil⟩⟩)⟩
theorem ko_78 : kOk 78 kq_78 := by
  have hT : ∀ w ∈ kG, w ∈ kWS 78 := fun w h => List.mem_cons_of_mem _ h
  exact ⟨⟨kG, rfl⟩, by decide +kernel, rfl, rfl, mm_all_sp kh_78, mm_pool_sp (P := kWord (kY 78).cls (kWS 78) (kR 78)) (l := kp_78) (List.forall_mem_cons.mpr ⟨kd_HoleCounterModel_67 hT _, List.forall_mem_cons.mpr ⟨kd_HoleCounterModel_71 hT _, List.forall_mem_cons.mpr ⟨kd_HoleCounterModel_20 hT _, fun _ h => absurd h List.not_mem_nil⟩⟩⟩)⟩
theorem ko_79 : kOk 79 kq_79 := by
  have hT : ∀ w ∈ kG, w ∈ kWS 79 := fun w h => List.mem_cons_of_mem _ h
  exact ⟨⟨kG, rfl⟩, by decide +kernel, rfl, rfl, mm_all_sp kh_79, mm_pool_sp (P := kWord (kY 79).cls (kWS 79) (kR 79)) (l := kp_79) (List.forall_mem_cons.mpr ⟨kd_HoleCounterModel_7 hT _, List.forall_mem_cons.mpr ⟨kd_HoleCounterModel_49 hT (by decide +kernel), List.forall_mem_cons.mpr ⟨kd_HoleCounterModel_20 hT _, List.forall_mem_cons.mpr ⟨kd_HoleCounterModel_64 hT (by decide +kernel), fun _ h => absurd h List.not_mem_nil⟩⟩⟩⟩)⟩
theorem ko_80 : kOk 80 kq_80 := by
  have hT : ∀ w ∈ kG, w ∈ kWS 80 := fun w h => List.mem_cons_of_mem _ h
  exact ⟨⟨kG, rfl⟩, by decide +kernel, rfl, rfl, mm_all_sp kh_80, mm_pool_sp (P := kWord (kY 80).cls (kWS 80) (kR 80)) (l := kp_80) (List.forall_mem_cons.mpr ⟨kd_HoleCounterModel_53 hT (by decide +kernel), List.forall_mem_cons.mpr ⟨kd_HoleCounterModel_74 hT (by decide +kernel), List.forall_mem_cons.mpr ⟨kd_HoleCounterModel_78 hT (by decide +kernel), fun _ h => absurd h List.not_mem_nil⟩⟩⟩)⟩
theorem ko_81 : kOk 81 kq_81 := by
  have hT : ∀ w ∈ kG, w ∈ kWS 81 := fun w h => List.mem_cons_of_mem _ h
  exact ⟨⟨kG, rfl⟩, by decide +kernel, rfl, rfl, mm_all_sp kh_81, mm_pool_sp (P := kWord (kY 81).cls (kWS 81) (kR 81)) (l := kp_81) (List.forall_mem_cons.mpr ⟨hT _ kl_HoleCounterModel_82, fun _ h => absurd h List.not_mem_nil⟩)⟩
theorem ko_82 : kOk 82 kq_82 := by
  have hT : ∀ w ∈ kG, w ∈ kWS 82 := fun w h => List.mem_cons_of_mem _ h
  exact ⟨⟨kG, rfl⟩, by decide +kernel, rfl, rfl, mm_all_sp kh_82, mm_pool_sp (P := kWord (kY 82).cls (kWS 82) (kR 82)) (l := kp_82) (List.forall_mem_cons.mpr ⟨kd_HoleCounterModel_24 hT _, fun _ h => absurd h List.not_mem_nil⟩)⟩
theorem ko_83 : kOk 83 kq_83 := by
  have hT : ∀ w ∈ kG, w ∈ kWS 83 := fun w h => List.mem_cons_of_mem _ h
  exact ⟨⟨kG, rfl⟩, by decide +kernel, rfl, rfl, mm_all_sp kh_83, mm_pool_sp (P := kWord (kY 83).cls (kWS 83) (kR 83)) (l := kp_83) (List.forall_mem_cons.mpr ⟨kd_HoleCounterModel_20 hT _, List.forall_mem_cons.mpr ⟨kd_HoleCounterModel_24 hT _, List.forall_mem_cons.mpr ⟨kd_HoleCounterModel_71 hT _, List.forall_mem_cons.mpr ⟨kd_HoleCounterModel_67 hT _, List.forall_mem_cons.mpr ⟨kd_HoleCounterModel_84 hT (by decide +kernel), List.forall_mem_cons.mpr ⟨kd_HoleCounterModel_87 hT (by decide +kernel), fun _ h => absurd h List.not_mem_nil⟩⟩⟩⟩⟩⟩)⟩
theorem ko_84 : kOk 84 kq_84 := by
  have hT : ∀ w ∈ kG, w ∈ kWS 84 := fun w h => List.mem_cons_of_mem _ h
  exact ⟨⟨kG, rfl⟩, by decide +kernel, rfl, rfl, mm_all_sp kh_84, mm_pool_sp (P := kWord (kY 84).cls (kWS 84) (kR 84)) (l := kp_84) (List.forall_mem_cons.mpr ⟨kd_HoleCounterModel_24 hT _, List.forall_mem_cons.mpr ⟨kd_HoleCounterModel_91 hT (by decide +kernel), List.forall_mem_cons.mpr ⟨kd_HoleCounterModel_67 hT _, List.forall_mem_cons.mpr ⟨kd_HoleCounterModel_71 hT _, fun _ h => absurd h List.not_mem_nil⟩⟩⟩⟩)⟩
theorem ko_85 : kOk 85 kq_85 := by
  have hT : ∀ w ∈ kG, w ∈ kWS 85 := fun w h => List.mem_cons_of_mem _ h
  exact ⟨⟨kG, rfl⟩, by decide +kernel, rfl, rfl, mm_all_sp kh_85, mm_pool_sp (P := kWord (kY 85).cls (kWS 85) (kR 85)) (l := kp_85) (List.forall_mem_cons.mpr ⟨hT _ kl_HoleCounterModel_95, List.forall_mem_cons.mpr ⟨kd_HoleCounterModel_97 hT (by decide +kernel), List.forall_mem_cons.mpr ⟨hT _ kl_HoleCounterModel_101, fun _ h => absurd h List.not_mem_nil⟩⟩⟩)⟩
theorem ko_86 : kOk 86 kq_86 := by
  have hT : ∀ w ∈ kG, w ∈ kWS 86 := fun w h => List.mem_cons_of_mem _ h
  exact ⟨⟨kG, rfl⟩, by decide +kernel, rfl, rfl, mm_all_sp kh_86, mm_pool_sp (P := kWord (kY 86).cls (kWS 86) (kR 86)) (l := kp_86) (List.forall_mem_cons.mpr ⟨kd_HoleCounterModel_103 hT (by decide +kernel), List.forall_mem_cons.mpr ⟨kd_HoleCounterModel_106 hT (by decide +kernel), fun _ h => absurd h List.not_mem_nil⟩⟩)⟩
theorem ko_87 : kOk 87 kq_87 := by
  have hT : ∀ w ∈ kG, w ∈ kWS 87 := fun w h => List.mem_cons_of_mem _ h
  exact ⟨⟨kG, rfl⟩, by decide +kernel, rfl, rfl, mm_all_sp kh_87, mm_pool_sp (P := kWord (kY 87).cls (kWS 87) (kR 87)) (l := kp_87) (List.forall_mem_cons.mpr ⟨kd_HoleCounterModel_45 hT (by decide +kernel), List.forall_mem_cons.mpr ⟨kd_HoleCounterModel_57 hT (by decide +kernel), List.forall_mem_cons.mpr ⟨kd_HoleCounterModel_53 hT (by decide +kernel), List.forall_mem_cons.mpr ⟨kd_HoleCounterModel_110 hT (by decide +kernel), fun _ h => absurd h List.not_mem_nil⟩⟩⟩⟩)⟩
theorem ko_88 : kOk 88 kq_88 := by
  have hT : ∀ w ∈ kG, w ∈ kWS 88 := fun w h => List.mem_cons_of_mem _ h
  exact ⟨⟨kG, rfl⟩, by decide +kernel, rfl, rfl, mm_all_sp kh_88, mm_pool_sp (P := kWord (kY 88).cls (kWS 88) (kR 88)) (l := kp_88) (List.forall_mem_cons.mpr ⟨kd_HoleCounterModel_45 hT (by decide +kernel), List.forall_mem_cons.mpr ⟨kd_HoleCounterModel_57 hT (by decide +kernel), List.forall_mem_cons.mpr ⟨kd_HoleCounterModel_103 hT (by decide +kernel), List.forall_mem_cons.mpr ⟨kd_HoleCounterModel_97 hT (by decide +kernel), List.forall_mem_cons.mpr ⟨kd_HoleCounterModel_53 hT (by decide +kernel), fun _ h => absurd h List.not_mem_nil⟩⟩⟩⟩⟩)⟩
theorem ko_89 : kOk 89 kq_89 := by
  have hT : ∀ w ∈ kG, w ∈ kWS 89 := fun w h => List.mem_cons_of_mem _ h
  exact ⟨⟨kG, rfl⟩, by decide +kernel, rfl, rfl, mm_all_sp kh_89, mm_pool_sp (P := kWord (kY 89).cls (kWS 89) (kR 89)) (l := kp_89) (List.forall_mem_cons.mpr ⟨kd_HoleCounterModel_71 hT _, List.forall_mem_cons.mpr ⟨kd_HoleCounterModel_67 hT _, List.forall_mem_cons.mpr ⟨kd_HoleCounterModel_24 hT _, List.forall_mem_cons.mpr ⟨kd_HoleCounterModel_84 hT (by decide +kernel), fun _ h => absurd h List.not_mem_nil⟩⟩⟩⟩)⟩
theorem ko_90 : kOk 90 kq_90 := by
  have hT : ∀ w ∈ kG, w ∈ kWS 90 := fun w h => List.mem_cons_of_mem _ h
  exact ⟨⟨kG, rfl⟩, by decide +kernel, rfl, rfl, mm_all_sp kh_90, mm_pool_sp (P := kWord (kY 90).cls (kWS 90) (kR 90)) (l := kp_90) (List.forall_mem_cons.mpr ⟨kd_HoleCounterModel_67 hT _, List.forall_mem_cons.mpr ⟨kd_HoleCounterModel_24 hT _, List.forall_mem_cons.mpr ⟨kd_HoleCounterModel_71 hT _, List.forall_mem_cons.mpr ⟨kd_HoleCounterModel_84 hT (by decide +kernel), fun _ h => absurd h List.not_mem_nil⟩⟩⟩⟩)⟩
theorem ko_91 : kOk 91 kq_91 := by
  have hT : ∀ w ∈ kG, w ∈ kWS 91 := fun w h => List.mem_cons_of_mem _ h
  exact ⟨⟨kG, rfl⟩, by decide +kernel, rfl, rfl, mm_all_sp kh_91, mm_pool_sp (P := kWord (kY 91).cls (kWS 91) (kR 91)) (l := kp_91) (List.forall_mem_cons.mpr ⟨kd_HoleCounterModel_71 hT _, List.forall_mem_cons.mpr ⟨kd_HoleCounterModel_24 hT _, List.forall_mem_cons.mpr ⟨kd_HoleCounterModel_67 hT _, fun _ h => absurd h List.not_mem_nil⟩⟩⟩)⟩
theorem ko_92 : kOk 92 kq_92 := by
  have hT : ∀ w ∈ kG, w ∈ kWS 92 := fun w h => List.mem_cons_of_mem _ h
  exact ⟨⟨kG, rfl⟩, by decide +kernel, rfl, rfl, mm_all_sp kh_92, mm_pool_sp (P := kWord (kY 92).cls (kWS 92) (kR 92)) (l := kp_92) (List.forall_mem_cons.mpr ⟨kd_HoleCounterModel_67 hT _, List.forall_mem_cons.mpr ⟨kd_HoleCounterModel_24 hT _, List.forall_mem_cons.mpr ⟨kd_HoleCounterModel_71 hT _, fun _ h => absurd h List.not_mem_nil⟩⟩⟩)⟩
theorem ko_93 : kOk 93 kq_93 := by
  have hT : ∀ w ∈ kG, w ∈ kWS 93 := fun w h => List.mem_cons_of_mem _ h
  exact ⟨⟨kG, rfl⟩, by decide +kernel, rfl, rfl, mm_all_sp kh_93, mm_pool_sp (P := kWord (kY 93).cls (kWS 93) (kR 93)) (l := kp_93) (fun _ h => absurd h List.not_mem_nil)⟩
theorem ko_94 : kOk 94 kq_94 := by
  have hT : ∀ w ∈ kG, w ∈ kWS 94 := fun w h => List.mem_cons_of_mem _ h
  exact ⟨⟨kG, rfl⟩, by decide +kernel, rfl, rfl, mm_all_sp kh_94, mm_pool_sp (P := kWord (kY 94).cls (kWS 94) (kR 94)) (l := kp_94) (List.forall_mem_cons.mpr ⟨kd_HoleCounterModel_24 hT _, List.forall_mem_cons.mpr ⟨kd_HoleCounterModel_20 hT _, List.forall_mem_cons.mpr ⟨kd_HoleCounterModel_113 hT _, List.forall_mem_cons.mpr ⟨kd_HoleCounterModel_67 hT _, List.forall_mem_cons.mpr ⟨kd_HoleCounterModel_71 hT _, List.forall_mem_cons.mpr ⟨kd_HoleCounterModel_116 hT (by decide +kernel), List.forall_mem_cons.mpr ⟨kd_HoleCounterModel_119 hT (by decide +kernel), List.forall_mem_cons.mpr ⟨kd_HoleCounterModel_123 hT (by decide +kernel), List.forall_mem_cons.mpr ⟨kd_HoleCounterModel_126 hT (by decide +kernel), List.forall_mem_cons.mpr ⟨kd_HoleCounterModel_27 hT _, List.forall_mem_cons.mpr ⟨kd_HoleCounterModel_129 hT (by decide +kernel), fun _ h => absurd h List.not_mem_nil⟩⟩⟩⟩⟩⟩⟩⟩⟩⟩⟩)⟩
theorem ko_95 : kOk 95 kq_95 := by
  have hT : ∀ w ∈ kG, w ∈ kWS 95 := fun w h => List.mem_cons_of_mem _ h
  exact ⟨⟨kG, rfl⟩, by decide +kernel, rfl, rfl, mm_all_sp kh_95, mm_pool_sp (P := kWord (kY 95).cls (kWS 95) (kR 95)) (l := kp_95) (List.forall_mem_cons.mpr ⟨kd_HoleCounterModel_45 hT (by decide +kernel), List.forall_mem_cons.mpr ⟨kd_HoleCounterModel_57 hT (by decide +kernel), List.forall_mem_cons.mpr ⟨kd_HoleCounterModel_103 hT (by decide +kernel), List.forall_mem_cons.mpr ⟨kd_HoleCounterModel_132 hT (by decide +kernel), List.forall_mem_cons.mpr ⟨kd_HoleCounterModel_113 hT _, List.forall_mem_cons.mpr ⟨kd_HoleCounterModel_27 hT _, fun _ h => absurd h List.not_mem_nil⟩⟩⟩⟩⟩⟩)⟩
theorem ko_96 : kOk 96 kq_96 := by
  have hT : ∀ w ∈ kG, w ∈ kWS 96 := fun w h => List.mem_cons_of_mem _ h
  exact ⟨⟨kG, rfl⟩, by decide +kernel, rfl, rfl, mm_all_sp kh_96, mm_pool_sp (P := kWord (kY 96).cls (kWS 96) (kR 96)) (l := kp_96) (List.forall_mem_cons.mpr ⟨kd_HoleCounterModel_135 hT (by decide +kernel), List.forall_mem_cons.mpr ⟨kd_HoleCounterModel_13 hT _, fun _ h => absurd h List.not_mem_nil⟩⟩)⟩
theorem ko_97 : kOk 97 kq_97 := by
  have hT : ∀ w ∈ kG, w ∈ kWS 97 := fun w h => List.mem_cons_of_mem _ h
  exact ⟨⟨kG, rfl⟩, by decide +kernel, rfl, rfl, mm_all_sp kh_97, mm_pool_sp (P := kWord (kY 97).cls (kWS 97) (kR 97)) (l := kp_97) (List.forall_mem_cons.mpr ⟨kd_HoleCounterModel_135 hT (by decide +kernel), List.forall_mem_cons.mpr ⟨kd_HoleCounterModel_13 hT _, fun _ h => absurd h List.not_mem_nil⟩⟩)⟩
theorem ko_98 : kOk 98 kq_98 := by
  have hT : ∀ w ∈ kG, w ∈ kWS 98 := fun w h => List.mem_cons_of_mem _ h
  exact ⟨⟨kG, rfl⟩, by decide +kernel, rfl, rfl, mm_all_sp kh_98, mm_pool_sp (P := kWord (kY 98).cls (kWS 98) (kR 98)) (l := kp_98) (List.forall_mem_cons.mpr ⟨kd_HoleCounterModel_135 hT (by decide +kernel), List.forall_mem_cons.mpr ⟨kd_HoleCounterModel_7 hT _, List.forall_mem_cons.mpr ⟨kd_HoleCounterModel_64 hT (by decide +kernel), List.forall_mem_cons.mpr ⟨kd_HoleCounterModel_13 hT _, fun _ h => absurd h List.not_mem_nil⟩⟩⟩⟩)⟩
theorem ko_99 : kOk 99 kq_99 := by
  have hT : ∀ w ∈ kG, w ∈ kWS 99 := fun w h => List.mem_cons_of_mem _ h
  exact ⟨⟨kG, rfl⟩, by decide +kernel, rfl, rfl, mm_all_sp kh_99, mm_pool_sp (P := kWord (kY 99).cls (kWS 99) (kR 99)) (l := kp_99) (List.forall_mem_cons.mpr ⟨kd_HoleCounterModel_7 hT _, List.forall_mem_cons.mpr ⟨kd_HoleCounterModel_49 hT (by decide +kernel), List.forall_mem_cons.mpr ⟨kd_HoleCounterModel_139 hT (by decide +kernel), fun _ h => absurd h List.not_mem_nil⟩⟩⟩)⟩
theorem ko_100 : kOk 100 kq_100 := by
  have hT : ∀ w ∈ kG, w ∈ kWS 100 := fun w h => List.mem_cons_of_mem _ h
  exact ⟨⟨kG, rfl⟩, by decide +kernel, rfl, rfl, mm_all_sp kh_100, mm_pool_sp (P := kWord (kY 100).cls (kWS 100) (kR 100)) (l := kp_100) (List.forall_mem_cons.mpr ⟨kd_HoleCounterModel_132 hT (by decide +kernel), List.forall_mem_cons.mpr ⟨kd_HoleCounterModel_113 hT _, List.forall_mem_cons.mpr ⟨kd_HoleCounterModel_27 hT _, fun _ h => absurd h List.not_mem_nil⟩⟩⟩)⟩
theorem ko_101 : kOk 101 kq_101 := by
  have hT : ∀ w ∈ kG, w ∈ kWS 101 := fun w h => List.mem_cons_of_mem _ h
  exact ⟨⟨kG, rfl⟩, by decide +kernel, rfl, rfl, mm_all_sp kh_101, mm_pool_sp (P := kWord (kY 101).cls (kWS 101) (kR 101)) (l := kp_101) (List.forall_mem_cons.mpr ⟨kd_HoleCounterModel_45 hT (by decide +kernel), List.forall_mem_cons.mpr ⟨kd_HoleCounterModel_57 hT (by decide +kernel), List.forall_mem_cons.mpr ⟨kd_HoleCounterModel_142 hT (by decide +kernel), List.forall_mem_cons.mpr ⟨kd_HoleCounterModel_103 hT (by decide +kernel), List.forall_mem_cons.mpr ⟨kd_HoleCounterModel_145 hT (by decide +kernel), List.forall_mem_cons.mpr ⟨kd_HoleCounterModel_113 hT _, List.forall_mem_cons.mpr ⟨kd_HoleCounterModel_7 hT _, List.forall_mem_cons.mpr ⟨kd_HoleCounterModel_49 hT (by decide +kernel), List.forall_mem_cons.mpr ⟨kd_HoleCounterModel_20 hT _, List.forall_mem_cons.mpr ⟨kd_HoleCounterModel_71 hT _, List.forall_mem_cons.mpr ⟨kd_HoleCounterModel_13 hT _, fun _ h => absurd h List.not_mem_nil⟩⟩⟩⟩⟩⟩⟩⟩⟩⟩⟩)⟩
theorem ko_102 : kOk 102 kq_102 := by
  have hT : ∀ w ∈ kG, w ∈ kWS 102 := fun w h => List.mem_cons_of_mem _ h
  exact ⟨⟨kG, rfl⟩, by decide +kernel, rfl, rfl, mm_all_sp kh_102, mm_pool_sp (P := kWord (kY 102).cls (kWS 102) (kR 102)) (l := kp_102) (List.forall_mem_cons.mpr ⟨kd_HoleCounterModel_17 hT _, fun _ h => absurd h List.not_mem_nil⟩)⟩
theorem ko_103 : kOk 103 kq_103 := by
  have hT : ∀ w ∈ kG, w ∈ kWS 103 := fun w h => List.mem_cons_of_mem _ h
  exact ⟨⟨kG, rfl⟩, by decide +kernel, rfl, rfl, mm_all_sp kh_103, mm_pool_sp (P := kWord (kY 103).cls (kWS 103) (kR 103)) (l := kp_103) (List.forall_mem_cons.mpr ⟨kd_HoleCounterModel_17 hT _, fun _ h => absurd h List.not_mem_nil⟩)⟩
theorem ko_104 : kOk 104 kq_104 := by
  have hT : ∀ w ∈ kG, w ∈ kWS 104 := fun w h => List.mem_cons_of_mem _ h
  exact ⟨⟨kG, rfl⟩, by decide +kernel, rfl, rfl, mm_all_sp kh_104, mm_pool_sp (P := kWord (kY 104).cls (kWS 104) (kR 104)) (l := kp_104) (List.forall_mem_cons.mpr ⟨kd_HoleCounterModel_7 hT _, List.forall_mem_cons.mpr ⟨kd_HoleCounterModel_149 hT (by decide +kernel), fun _ h => absurd h List.not_mem_nil⟩⟩)⟩
theorem ko_105 : kOk 105 kq_105 := by
  have hT : ∀ w ∈ kG, w ∈ kWS 105 := fun w h => List.mem_cons_of_mem _ h
  exact ⟨⟨kG, rfl⟩, by decide +kernel, rfl, rfl, mm_all_sp kh_105, mm_pool_sp (P := kWord (kY 105).cls (kWS 105) (kR 105)) (l := kp_105) (List.forall_mem_cons.mpr ⟨kd_HoleCounterModel_49 hT (by decide +kernel), List.forall_mem_cons.mpr ⟨kd_HoleCounterModel_149 hT (by decide +kernel), List.forall_mem_cons.mpr ⟨kd_HoleCounterModel_17 hT _, fun _ h => absurd h List.not_mem_nil⟩⟩⟩)⟩
theorem ko_106 : kOk 106 kq_106 := by
  have hT : ∀ w ∈ kG, w ∈ kWS 106 := fun w h => List.mem_cons_of_mem _ h
  exact ⟨⟨kG, rfl⟩, by decide +kernel, rfl, rfl, mm_all_sp kh_106, mm_pool_sp (P := kWord (kY 106).cls (kWS 106) (kR 106)) (l := kp_106) (List.forall_mem_cons.mpr ⟨kd_HoleCounterModel_135 hT (by decide +kernel), List.forall_mem_cons.mpr ⟨kd_HoleCounterModel_152 hT (by decide +kernel), List.forall_mem_cons.mpr ⟨kd_HoleCounterModel_7 hT _, List.forall_mem_cons.mpr ⟨kd_HoleCounterModel_156 hT (by decide +kernel), List.forall_mem_cons.mpr ⟨kd_HoleCounterModel_13 hT _, fun _ h => absurd h List.not_mem_nil⟩⟩⟩⟩⟩)⟩
theorem ko_107 : kOk 107 kq_107 := by
  have hT : ∀ w ∈ kG, w ∈ kWS 107 := fun w h => List.mem_cons_of_mem _ h
  exact ⟨⟨kG, rfl⟩, by decide +kernel, rfl, rfl, mm_all_sp kh_107, mm_pool_sp (P := kWord (kY 107).cls (kWS 107) (kR 107)) (l := kp_107) (List.forall_mem_cons.mpr ⟨kd_HoleCounterModel_7 hT _, List.forall_mem_cons.mpr ⟨kd_HoleCounterModel_49 hT (by decide +kernel), List.forall_mem_cons.mpr ⟨kd_HoleCounterModel_20 hT _, List.forall_mem_cons.mpr ⟨kd_HoleCounterModel_156 hT (by decide +kernel), fun _ h => absurd h List.not_mem_nil⟩⟩⟩⟩)⟩
theorem ko_108 : kOk 108 kq_108 := by
  have hT : ∀ w ∈ kG, w ∈ kWS 108 := fun w h => List.mem_cons_of_mem _ h
  exact ⟨⟨kG, rfl⟩, by decide +kernel, rfl, rfl, mm_all_sp kh_108, mm_pool_sp (P := kWord (kY 108).cls (kWS 108) (kR 108)) (l := kp_108) (List.forall_mem_cons.mpr ⟨kd_HoleCounterModel_57 hT (by decide +kernel), List.forall_mem_cons.mpr ⟨kd_HoleCounterModel_152 hT (by decide +kernel), List.forall_mem_cons.mpr ⟨kd_HoleCounterModel_53 hT (by decide +kernel), List.forall_mem_cons.mpr ⟨kd_HoleCounterModel_110 hT (by decide +kernel), List.forall_mem_cons.mpr ⟨kd_HoleCounterModel_74 hT (by decide +kernel), List.forall_mem_cons.mpr ⟨kd_HoleCounterModel_78 hT (by decide +kernel), List.forall_mem_cons.mpr ⟨kd_HoleCounterModel_159 hT (by decide +kernel), List.forall_mem_cons.mpr ⟨kd_HoleCounterModel_106 hT (by decide +kernel), fun _ h => absurd h List.not_mem_nil⟩⟩⟩⟩⟩⟩⟩⟩)⟩
theorem ko_109 : kOk 109 kq_109 := by
  have hT : ∀ w ∈ kG, w ∈ kWS 109 := fun w h => List.mem_cons_of_mem _ h
  exact ⟨⟨kG, rfl⟩, by decide +kernel, rfl, rfl, mm_all_sp kh_109, mm_pool_sp (P := kWord (kY 109).cls (kWS 109) (kR 109)) (l := kp_109) (List.forall_mem_cons.mpr ⟨kd_HoleCounterModel_7 hT _, List.forall_mem_cons.mpr ⟨kd_HoleCounterModel_49 hT (by decide +kernel), fun _ h => absurd h List.not_mem_nil⟩⟩)⟩
theorem ko_110 : kOk 110 kq_110 := by
  have hT : ∀ w ∈ kG, w ∈ kWS 110 := fun w h => List.mem_cons_of_mem _ h
  exact ⟨⟨kG, rfl⟩, by decide +kernel, rfl, rfl, mm_all_sp kh_110, mm_pool_sp (P := kWord (kY 110).cls (kWS 110) (kR 110)) (l := kp_110) (List.forall_mem_cons.mpr ⟨kd_HoleCounterModel_33 hT _, fun _ h => absurd h List.not_mem_nil⟩)⟩
theorem ko_111 : kOk 111 kq_111 := by
  have hT : ∀ w ∈ kG, w ∈ kWS 111 := fun w h => List.mem_cons_of_mem _ h
  exact ⟨⟨kG, rfl⟩, by decide +kernel, rfl, rfl, mm_all_sp kh_111, mm_pool_sp (P := kWord (kY 111).cls (kWS 111) (kR 111)) (l := kp_111) (List.forall_mem_cons.mpr ⟨kd_HoleCounterModel_162 hT _, List.forall_mem_cons.mpr ⟨kd_HoleCounterModel_7 hT _, List.forall_mem_cons.mpr ⟨kd_HoleCounterModel_49 hT (by decide +kernel), List.forall_mem_cons.mpr ⟨kd_HoleCounterModel_36 hT _, List.forall_mem_cons.mpr ⟨kd_HoleCounterModel_165 hT (by decide +kernel), List.forall_mem_cons.mpr ⟨kd_HoleCounterModel_39 hT _, List.forall_mem_cons.mpr ⟨kd_HoleCounterModel_42 hT _, fun _ h => absurd h List.not_mem_nil⟩⟩⟩⟩⟩⟩⟩)⟩
theorem ko_112 : kOk 112 kq_112 := by
  have hT : ∀ w ∈ kG, w ∈ kWS 112 := fun w h => List.mem_cons_of_mem _ h
  exact ⟨⟨kG, rfl⟩, by decide +kernel, rfl, rfl, mm_all_sp kh_112, mm_pool_sp (P := kWord (kY 112).cls (kWS 112) (kR 112)) (l := kp_112) (List.forall_mem_cons.mpr ⟨kd_HoleCounterModel_162 hT _, List.forall_mem_cons.mpr ⟨kd_HoleCounterModel_36 hT _, List.forall_mem_cons.mpr ⟨kd_HoleCounterModel_39 hT _, List.forall_mem_cons.mpr ⟨kd_HoleCounterModel_42 hT _, fun _ h => absurd h List.not_mem_nil⟩⟩⟩⟩)⟩
theorem ko_113 : kOk 113 kq_113 := by
  have hT : ∀ w ∈ kG, w ∈ kWS 113 := fun w h => List.mem_cons_of_mem _ h
  exact ⟨⟨kG, rfl⟩, by decide +kernel, rfl, rfl, mm_all_sp kh_113, mm_pool_sp (P := kWord (kY 113).cls (kWS 113) (kR 113)) (l := kp_113) (List.forall_mem_cons.mpr ⟨kd_HoleCounterModel_30 hT _, List.forall_mem_cons.mpr ⟨kd_HoleCounterModel_162 hT _, List.forall_mem_cons.mpr ⟨kd_HoleCounterModel_168 hT (by decide +kernel), fun _ h => absurd h List.not_mem_nil⟩⟩⟩)⟩
theorem ko_114 : kOk 114 kq_114 := by
  have hT : ∀ w ∈ kG, w ∈ kWS 114 := fun w h => List.mem_cons_of_mem _ h
  exact ⟨⟨kG, rfl⟩, by decide +kernel, rfl, rfl, mm_all_sp kh_114, mm_pool_sp (P := kWord (kY 114).cls (kWS 114) (kR 114)) (l := kp_114) (List.forall_mem_cons.mpr ⟨kd_HoleCounterModel_162 hT _, List.forall_mem_cons.mpr ⟨kd_HoleCounterModel_36 hT _, List.forall_mem_cons.mpr ⟨kd_HoleCounterModel_39 hT _, fun _ h => absurd h List.not_mem_nil⟩⟩⟩)⟩
theorem ko_115 : kOk 115 kq_115 := by
  have hT : ∀ w ∈ kG, w ∈ kWS 115 := fun w h => List.mem_cons_of_mem _ h
  exact ⟨⟨kG, rfl⟩, by decide +kernel, rfl, rfl, mm_all_sp kh_115, mm_pool_sp (P := kWord (kY 115).cls (kWS 115) (kR 115)) (l := kp_115) (List.forall_mem_cons.mpr ⟨kd_HoleCounterModel_45 hT (by decide +kernel), List.forall_mem_cons.mpr ⟨kd_HoleCounterModel_33 hT _, List.forall_mem_cons.mpr ⟨kd_HoleCounterModel_171 hT (by decide +kernel), List.forall_mem_cons.mpr ⟨kd_HoleCounterModel_53 hT (by decide +kernel), List.forall_mem_cons.mpr ⟨kd_HoleCounterModel_168 hT (by decide +kernel), List.forall_mem_cons.mpr ⟨kd_HoleCounterModel_174 hT (by decide +kernel), List.forall_mem_cons.mpr ⟨kd_HoleCounterModel_177 hT (by decide +kernel), List.forall_mem_cons.mpr ⟨kd_HoleCounterModel_30 hT _, List.forall_mem_cons.mpr ⟨kd_HoleCounterModel_180 hT (by decide +kernel), fun _ h => absurd h List.not_mem_nil⟩⟩⟩⟩⟩⟩⟩⟩⟩)⟩
theorem ko_law : mm_okW kM kY kWS kR kl 116 kNW "HoleCounterLaw" code lw_tbl room_1 kq_116 := by
  have hT : ∀ w ∈ kG, w ∈ lw_tbl := fun w h => kG_in h
  exact ⟨mm_all_sp kh_116, mm_pool_sp (P := kWord "HoleCounterLaw" lw_tbl room_1) (l := kp_116) (List.forall_mem_cons.mpr ⟨kd_HoleCounterLaw_13 hT (by decide +kernel), List.forall_mem_cons.mpr ⟨kd_HoleCounterLaw_17 hT (by decide +kernel), List.forall_mem_cons.mpr ⟨kd_HoleCounterLaw_18 hT (by decide +kernel), List.forall_mem_cons.mpr ⟨kd_HoleCounterLaw_22 hT (by decide +kernel), List.forall_mem_cons.mpr ⟨kd_HoleCounterLaw_23 hT (by decide +kernel), List.forall_mem_cons.mpr ⟨kd_HoleCounterLaw_26 hT (by decide +kernel), List.forall_mem_cons.mpr ⟨kd_HoleCounterLaw_27 hT (by decide +kernel), List.forall_mem_cons.mpr ⟨kd_HoleCounterLaw_31 hT (by decide +kernel), List.forall_mem_cons.mpr ⟨kd_HoleCounterLaw_32 hT (by decide +kernel), List.forall_mem_cons.mpr ⟨kd_HoleCounterLaw_36 hT (by decide +kernel), List.forall_mem_cons.mpr ⟨kd_HoleCounterLaw_37 hT (by decide +kernel), List.forall_mem_cons.mpr ⟨kd_HoleCounterLaw_41 hT (by decide +kernel), List.forall_mem_cons.mpr ⟨kd_HoleCounterLaw_42 hT (by decide +kernel), List.forall_mem_cons.mpr ⟨kd_HoleCounterLaw_45 hT (by decide +kernel), List.forall_mem_cons.mpr ⟨kd_HoleCounterLaw_46 hT (by decide +kernel), List.forall_mem_cons.mpr ⟨kd_HoleCounterLaw_49 hT (by decide +kernel), List.forall_mem_cons.mpr ⟨kd_HoleCounterLaw_50 hT (by decide +kernel), List.forall_mem_cons.mpr ⟨kd_HoleCounterLaw_53 hT (by decide +kernel), List.forall_mem_cons.mpr ⟨kd_HoleCounterLaw_54 hT (by decide +kernel), List.forall_mem_cons.mpr ⟨kd_HoleCounterLaw_58 hT (by decide +kernel), List.forall_mem_cons.mpr ⟨kd_HoleCounterLaw_59 hT (by decide +kernel), List.forall_mem_cons.mpr ⟨kd_HoleCounterLaw_62 hT (by decide +kernel), List.forall_mem_cons.mpr ⟨kd_HoleCounterLaw_63 hT (by decide +kernel), List.forall_mem_cons.mpr ⟨kd_HoleCounterLaw_66 hT (by decide +kernel), List.forall_mem_cons.mpr ⟨kd_HoleCounterLaw_67 hT (by decide +kernel), List.forall_mem_cons.mpr ⟨kd_HoleCounterLaw_70 hT (by decide +kernel), List.forall_mem_cons.mpr ⟨kd_HoleCounterLaw_71 hT (by decide +kernel), List.forall_mem_cons.mpr ⟨kd_HoleCounterLaw_75 hT (by decide +kernel), List.forall_mem_cons.mpr ⟨kd_HoleCounterLaw_76 hT (by decide +kernel), List.forall_mem_cons.mpr ⟨kd_HoleCounterLaw_80 hT (by decide +kernel), List.forall_mem_cons.mpr ⟨kd_HoleCounterLaw_81 hT (by decide +kernel), List.forall_mem_cons.mpr ⟨kd_HoleCounterLaw_84 hT (by decide +kernel), List.forall_mem_cons.mpr ⟨kd_HoleCounterLaw_85 hT (by decide +kernel), List.forall_mem_cons.mpr ⟨kd_HoleCounterLaw_88 hT (by decide +kernel), List.forall_mem_cons.mpr ⟨kd_HoleCounterLaw_89 hT (by decide +kernel), List.forall_mem_cons.mpr ⟨kd_HoleCounterLaw_92 hT (by decide +kernel), fun _ h => absurd h List.not_mem_nil⟩⟩⟩⟩⟩⟩⟩⟩⟩⟩⟩⟩⟩⟩⟩⟩⟩⟩⟩⟩⟩⟩⟩⟩⟩⟩⟩⟩⟩⟩⟩⟩⟩⟩⟩⟩)⟩
theorem ko_all : ∀ (k : Nat) (M : mm_M), k < 116 → mm_nth kM k = some M → kOk k M := fun k M hk hM => match k, hk, hM with
  | 0, _, hM => by cases hM; exact ko_0
  | 1, _, hM => by cases hM; exact ko_1
  | 2, _, hM => by cases hM; exact ko_2
  | 3, _, hM => by cases hM; exact ko_3
  | 4, _, hM => by cases hM; exact ko_4
  | 5, _, hM => by cases hM; exact ko_5
  | 6, _, hM => by cases hM; exact ko_6
  | 7, _, hM => by cases hM; exact ko_7
  | 8, _, hM => by cases hM; exact ko_8
  | 9, _, hM => by cases hM; exact ko_9
  | 10, _, hM => by cases hM; exact ko_10
  | 11, _, hM => by cases hM; exact ko_11
  | 12, _, hM => by cases hM; exact ko_12
  | 13, _, hM => by cases hM; exact ko_13
  | 14, _, hM => by cases hM; exact ko_14
  | 15, _, hM => by cases hM; exact ko_15
  | 16, _, hM => by cases hM; exact ko_16
  | 17, _, hM => by cases hM; exact ko_17
  | 18, _, hM => by cases hM; exact ko_18
  | 19, _, hM => by cases hM; exact ko_19
  | 20, _, hM => by cases hM; exact ko_20
  | 21, _, hM => by cases hM; exact ko_21
  | 22, _, hM => by cases hM; exact ko_22
  | 23, _, hM => by cases hM; exact ko_23
  | 24, _, hM => by cases hM; exact ko_24
  | 25, _, hM => by cases hM; exact ko_25
  | 26, _, hM => by cases hM; exact ko_26
  | 27, _, hM => by cases hM; exact ko_27
  | 28, _, hM => by cases hM; exact ko_28
  | 29, _, hM => by cases hM; exact ko_29
  | 30, _, hM => by cases hM; exact ko_30
  | 31, _, hM => by cases hM; exact ko_31
  | 32, _, hM => by cases hM; exact ko_32
  | 33, _, hM => by cases hM; exact ko_33
  | 34, _, hM => by cases hM; exact ko_34
  | 35, _, hM => by cases hM; exact ko_35
  | 36, _, hM => by cases hM; exact ko_36
  | 37, _, hM => by cases hM; exact ko_37
  | 38, _, hM => by cases hM; exact ko_38
  | 39, _, hM => by cases hM; exact ko_39
  | 40, _, hM => by cases hM; exact ko_40
  | 41, _, hM => by cases hM; exact ko_41
  | 42, _, hM => by cases hM; exact ko_42
  | 43, _, hM => by cases hM; exact ko_43
  | 44, _, hM => by cases hM; exact ko_44
  | 45, _, hM => by cases hM; exact ko_45
  | 46, _, hM => by cases hM; exact ko_46
  | 47, _, hM => by cases hM; exact ko_47
  | 48, _, hM => by cases hM; exact ko_48
  | 49, _, hM => by cases hM; exact ko_49
  | 50, _, hM => by cases hM; exact ko_50
  | 51, _, hM => by cases hM; exact ko_51
  | 52, _, hM => by cases hM; exact ko_52
  | 53, _, hM => by cases hM; exact ko_53
  | 54, _, hM => by cases hM; exact ko_54
  | 55, _, hM => by cases hM; exact ko_55
  | 56, _, hM => by cases hM; exact ko_56
  | 57, _, hM => by cases hM; exact ko_57
  | 58, _, hM => by cases hM; exact ko_58
  | 59, _, hM => by cases hM; exact ko_59
  | 60, _, hM => by cases hM; exact ko_60
  | 61, _, hM => by cases hM; exact ko_61
  | 62, _, hM => by cases hM; exact ko_62
  | 63, _, hM => by cases hM; exact ko_63
  | 64, _, hM => by cases hM; exact ko_64
  | 65, _, hM => by cases hM; exact ko_65
  | 66, _, hM => by cases hM; exact ko_66
  | 67, _, hM => by cases hM; exact ko_67
  | 68, _, hM => by cases hM; exact ko_68
  | 69, _, hM => by cases hM; exact ko_69
  | 70, _, hM => by cases hM; exact ko_70
  | 71, _, hM => by cases hM; exact ko_71
  | 72, _, hM => by cases hM; exact ko_72
  | 73, _, hM => by cases hM; exact ko_73
  | 74, _, hM => by cases hM; exact ko_74
  | 75, _, hM => by cases hM; exact ko_75
  | 76, _, hM => by cases hM; exact ko_76
  | 77, _, hM => by cases hM; exact ko_77
  | 78, _, hM => by cases hM; exact ko_78
  | 79, _, hM => by cases hM; exact ko_79
  | 80, _, hM => by cases hM; exact ko_80
  | 81, _, hM => by cases hM; exact ko_81
  | 82, _, hM => by cases hM; exact ko_82
  | 83, _, hM => by cases hM; exact ko_83
  | 84, _, hM => by cases hM; exact ko_84
  | 85, _, hM => by cases hM; exact ko_85
  | 86, _, hM => by cases hM; exact ko_86
  | 87, _, hM => by cases hM; exact ko_87
  | 88, _, hM => by cases hM; exact ko_88
  | 89, _, hM => by cases hM; exact ko_89
  | 90, _, hM => by cases hM; exact ko_90
  | 91, _, hM => by cases hM; exact ko_91
  | 92, _, hM => by cases hM; exact ko_92
  | 93, _, hM => by cases hM; exact ko_93
  | 94, _, hM => by cases hM; exact ko_94
  | 95, _, hM => by cases hM; exact ko_95
  | 96, _, hM => by cases hM; exact ko_96
  | 97, _, hM => by cases hM; exact ko_97
  | 98, _, hM => by cases hM; exact ko_98
  | 99, _, hM => by cases hM; exact ko_99
  | 100, _, hM => by cases hM; exact ko_100
  | 101, _, hM => by cases hM; exact ko_101
  | 102, _, hM => by cases hM; exact ko_102
  | 103, _, hM => by cases hM; exact ko_103
  | 104, _, hM => by cases hM; exact ko_104
  | 105, _, hM => by cases hM; exact ko_105
  | 106, _, hM => by cases hM; exact ko_106
  | 107, _, hM => by cases hM; exact ko_107
  | 108, _, hM => by cases hM; exact ko_108
  | 109, _, hM => by cases hM; exact ko_109
  | 110, _, hM => by cases hM; exact ko_110
  | 111, _, hM => by cases hM; exact ko_111
  | 112, _, hM => by cases hM; exact ko_112
  | 113, _, hM => by cases hM; exact ko_113
  | 114, _, hM => by cases hM; exact ko_114
  | 115, _, hM => by cases hM; exact ko_115
  | n + 116, hk, _ => absurd hk (by omega)
end
section
/-! STEPS OF A RUN, goal first -/
section MMS
variable {G : List mm_M} {scr : mm_X} {k pc nx i a n : Nat} {M : mm_M} {L : mm_L} {st r : List Value} {h h1 : mm_H} {res : Option Value × mm_H} {tg : List Nat}
theorem mm_E.s {x : mm_I} {pc' : Nat} {L' : mm_L} {st' : List Value} {h' : mm_H} (hM : mm_nth G k = some M) (hI : mm_nth M.1 pc = some (some x)) (hr : mm_ret M.2.2.2 x.1 st = none) (hx : ∀ call, mm_ex call scr M.2.1 x.1 x.2.1 x.2.2 L st h = some (pc', L', st', h')) (he : mm_E G scr k pc' L' st' h' res) : mm_E G scr k pc L st h res := by
  obtain ⟨n, hn⟩ := he
  refine ⟨n + 1, ?_⟩
  rw [mm_run]
  simp only [hM, hI, hr, hx]
  exact hn
theorem mm_E.gf {ci j : Nat} {ty : Option FieldType} {fs : List Value} {v : Value} (hM : mm_nth G k = some M) (hI : mm_nth M.1 pc = some (some (.getfield i, nx, tg))) (hp : mm_look M.2.1 i = some (.inl (ci, j, ty))) (hc : mm_nth h a = some (.inr (ci, fs))) (hf : mm_nth fs j = some v) (he : mm_E G scr k nx L (v :: r) h res) : mm_E G scr k pc L (.ref a :: r) h res := by
  refine mm_E.s hM hI rfl (fun call => ?_) he
  simp only [mm_ex, hp, mm_gfd, hc, Nat.beq_refl, hf, mm_go]
theorem mm_E.pfi {ci j : Nat} {fs fs' : List Value} {x : Int32} (hM : mm_nth G k = some M) (hI : mm_nth M.1 pc = some (some (.putfield i, nx, tg))) (hp : mm_look M.2.1 i = some (.inl (ci, j, some .int))) (hc : mm_nth h a = some (.inr (ci, fs))) (hf : mm_put fs j (.int x) = some fs') (hh : mm_put h a (.inr (ci, fs')) = some h1) (he : mm_E G scr k nx L r h1 res) : mm_E G scr k pc L (.int x :: .ref a :: r) h res := by
  refine mm_E.s hM hI rfl (fun call => ?_) he
  simp only [mm_ex, hp, mm_pfd, mm_pfd1, hc, Nat.beq_refl, hf, mm_goH, hh, mm_go]
theorem mm_E.pfl {ci j : Nat} {fs fs' : List Value} {x : Int64} (hM : mm_nth G k = some M) (hI : mm_nth M.1 pc = some (some (.putfield i, nx, tg))) (hp : mm_look M.2.1 i = some (.inl (ci, j, some .long))) (hc : mm_nth h a = some (.inr (ci, fs))) (hf : mm_put fs j (.long x) = some fs') (hh : mm_put h a (.inr (ci, fs')) = some h1) (he : mm_E G scr k nx L r h1 res) : mm_E G scr k pc L (.long x :: .ref a :: r) h res := by
  refine mm_E.s hM hI rfl (fun call => ?_) he
  simp only [mm_ex, hp, mm_pfd, mm_pfd1, hc, Nat.beq_refl, hf, mm_goH, hh, mm_go]
theorem mm_E.ia {f : Nat → Int32} {j : Int32} {v : Int32} (hM : mm_nth G k = some M) (hI : mm_nth M.1 pc = some (some (.iaload, nx, tg))) (hc : mm_nth h a = some (.inl (.int, n, .inl f))) (hj : 0 ≤ j.toInt ∧ j.toInt < (n : Int)) (hv : f j.toNatClampNeg = v) (he : mm_E G scr k nx L (.int v :: r) h res) : mm_E G scr k pc L (.int j :: .ref a :: r) h res := by
  subst hv
  refine mm_E.s hM hI rfl (fun call => ?_) he
  simp only [mm_ex, mm_iald, hc, if_pos hj, mm_go]
theorem mm_E.xa {f : Nat → Int32} {j : Int32} {v : Int32} {b : Nat} (hM : mm_nth G k = some M) (hI : mm_nth M.1 pc = some (some (.iaload, nx, tg))) (hj : 0 ≤ j.toInt ∧ j.toInt < (n : Int)) (hv : f j.toNatClampNeg = v) (he : mm_E G (some (n, f)) k nx L (.int v :: r) h res) : mm_E G (some (n, f)) k pc L (.int j :: .retAddr b :: r) h res := by
  subst hv
  refine mm_E.s hM hI rfl (fun call => ?_) he
  simp only [mm_ex, mm_iald, if_pos hj, mm_go]
theorem mm_E.la {f : Nat → Int64} {j : Int32} {v : Int64} (hM : mm_nth G k = some M) (hI : mm_nth M.1 pc = some (some (.laload, nx, tg))) (hc : mm_nth h a = some (.inl (.long, n, .inr (.inl f)))) (hj : 0 ≤ j.toInt ∧ j.toInt < (n : Int)) (hv : f j.toNatClampNeg = v) (he : mm_E G scr k nx L (.long v :: r) h res) : mm_E G scr k pc L (.int j :: .ref a :: r) h res := by
  subst hv
  refine mm_E.s hM hI rfl (fun call => ?_) he
  simp only [mm_ex, mm_lald, hc, if_pos hj, mm_go]
theorem mm_E.za {f : Nat → Int32} {j : Int32} {v : Int32} (hM : mm_nth G k = some M) (hI : mm_nth M.1 pc = some (some (.baload, nx, tg))) (hc : mm_nth h a = some (.inl (.boolean, n, .inl f))) (hj : 0 ≤ j.toInt ∧ j.toInt < (n : Int)) (hv : f j.toNatClampNeg = v) (he : mm_E G scr k nx L (.int v :: r) h res) : mm_E G scr k pc L (.int j :: .ref a :: r) h res := by
  subst hv
  refine mm_E.s hM hI rfl (fun call => ?_) he
  simp only [mm_ex, mm_zald, hc, if_pos hj, mm_go]
theorem mm_E.is {f : Nat → Int32} {j x : Int32} (hM : mm_nth G k = some M) (hI : mm_nth M.1 pc = some (some (.iastore, nx, tg))) (hc : mm_nth h a = some (.inl (.int, n, .inl f))) (hj : 0 ≤ j.toInt ∧ j.toInt < (n : Int)) (hh : mm_put h a (.inl (.int, n, .inl (upd f j.toNatClampNeg x))) = some h1) (he : mm_E G scr k nx L r h1 res) : mm_E G scr k pc L (.int x :: .int j :: .ref a :: r) h res := by
  refine mm_E.s hM hI rfl (fun call => ?_) he
  simp only [mm_ex, mm_iast, hc, if_pos hj, mm_goH, hh, mm_go]
theorem mm_E.ls {f : Nat → Int64} {j : Int32} {x : Int64} (hM : mm_nth G k = some M) (hI : mm_nth M.1 pc = some (some (.lastore, nx, tg))) (hc : mm_nth h a = some (.inl (.long, n, .inr (.inl f)))) (hj : 0 ≤ j.toInt ∧ j.toInt < (n : Int)) (hh : mm_put h a (.inl (.long, n, .inr (.inl (vp_updL f j.toNatClampNeg x)))) = some h1) (he : mm_E G scr k nx L r h1 res) : mm_E G scr k pc L (.long x :: .int j :: .ref a :: r) h res := by
  refine mm_E.s hM hI rfl (fun call => ?_) he
  simp only [mm_ex, mm_last, hc, if_pos hj, mm_goH, hh, mm_go]
theorem mm_E.zs {f : Nat → Int32} {j x : Int32} (hM : mm_nth G k = some M) (hI : mm_nth M.1 pc = some (some (.bastore, nx, tg))) (hc : mm_nth h a = some (.inl (.boolean, n, .inl f))) (hj : 0 ≤ j.toInt ∧ j.toInt < (n : Int)) (hh : mm_put h a (.inl (.boolean, n, .inl (upd f j.toNatClampNeg (vp_nar .boolean x)))) = some h1) (he : mm_E G scr k nx L r h1 res) : mm_E G scr k pc L (.int x :: .int j :: .ref a :: r) h res := by
  refine mm_E.s hM hI rfl (fun call => ?_) he
  simp only [mm_ex, mm_zast, hc, if_pos hj, mm_goH, hh, mm_go]
theorem mm_E.al {ty : FieldType} {y : (Nat → Int32) ⊕ (Nat → Int64) ⊕ (Nat → UInt32) ⊕ (Nat → UInt64) ⊕ (Nat → Option Nat)} (hM : mm_nth G k = some M) (hI : mm_nth M.1 pc = some (some (.arraylength, nx, tg))) (hc : mm_nth h a = some (.inl (ty, n, y))) (he : mm_E G scr k nx L (.int (nI n) :: r) h res) : mm_E G scr k pc L (.ref a :: r) h res := by
  refine mm_E.s hM hI rfl (fun call => ?_) he
  simp only [mm_ex, mm_len, hc, mm_go, nI]
theorem mm_E.iv {j np ci b : Nat} {fs As : List Value} {v : Option Value} (hM : mm_nth G k = some M) (hI : mm_nth M.1 pc = some (some (.invokevirtual i, nx, tg))) (hp : mm_look M.2.1 i = some (.inr (.inr (.inl (j, np, some ci))))) (ht : mm_take np [] st = some (As, .ref b :: r)) (hc : mm_nth h b = some (.inr (ci, fs))) (h8 : Nat.ble (mm_cat r) 8 = true) (hE : mm_EC G j (.ref b :: As) h (v, h1)) (he : mm_E G scr k nx L (v.toList ++ r) h1 res) : mm_E G scr k pc L st h res := by
  refine mm_E.call (x := (.invokevirtual i, nx, tg)) (j := j) (As := .ref b :: As) (v := v) (h1 := h1) hM hI rfl (fun call hcall => ?_) hE he
  simp only [mm_ex, hp, mm_ivv, ht, mm_cv1, hc, Nat.beq_refl, h8, hcall]
  cases v <;> rfl
theorem mm_E.ic {j np : Nat} {As : List Value} {v : Option Value} (hM : mm_nth G k = some M) (hI : mm_nth M.1 pc = some (some (.invokestatic i, nx, tg))) (hp : mm_look M.2.1 i = some (.inr (.inr (.inl (j, np, none))))) (ht : mm_take np [] st = some (As, r)) (h8 : Nat.ble (mm_cat r) 8 = true) (hE : mm_EC G j As h (v, h1)) (he : mm_E G scr k nx L (v.toList ++ r) h1 res) : mm_E G scr k pc L st h res := by
  refine mm_E.call (x := (.invokestatic i, nx, tg)) (j := j) (As := As) (v := v) (h1 := h1) hM hI rfl (fun call hcall => ?_) hE he
  simp only [mm_ex, hp, mm_ivs, ht, mm_cs1, h8, hcall]
  cases v <;> rfl
end MMS
theorem mm_bd {j n : Nat} (h : j < n) (hn : n < 2 ^ 31) : 0 ≤ (nI j).toInt ∧ (nI j).toInt < (n : Int) := by
  rw [nI_toInt (by omega)]
  omega
theorem mm_put_some {α : Type} : ∀ (l : List α) (i : Nat) (v : α), i < l.length → mm_put l i v = some (l.set i v)
  | [], i, v, h => by simp at h
  | x :: l, 0, v, h => by simp [mm_put]
  | x :: l, i + 1, v, h => by
    simp only [mm_put]
    rw [mm_put_some l i v (by simpa using h)]
    simp
theorem mm_nth_lt {α : Type} {l : List α} {i : Nat} {x : α} (h : mm_nth l i = some x) : i < l.length := by
  rw [mm_nth_eq] at h
  exact (List.getElem?_eq_some_iff.mp h).1
theorem mm_nth_set {α : Type} {l : List α} {i : Nat} {v : α} (h : i < l.length) : mm_nth (l.set i v) i = some v := by
  rw [mm_nth_eq]
  simp [h]
theorem mm_nth_set_ne {α : Type} {l : List α} {i j : Nat} {v : α} (h : i ≠ j) : mm_nth (l.set i v) j = mm_nth l j := by
  rw [mm_nth_eq, mm_nth_eq, List.getElem?_set, if_neg h]
theorem mm_cl {j : Nat} (h : j < 2 ^ 31) : (nI j).toNatClampNeg = j := nI_clamp h
end
section
/-- Arrays.fill over ints -/
def x_fill (f : Nat → Int32) (v : Int32) (i : Nat) : Nat → Int32 := fun j => if j < i then v else f j
theorem x_fill_s (f : Nat → Int32) (v : Int32) (i : Nat) : upd (x_fill f v i) i v = x_fill f v (i + 1) := by
  funext j
  unfold upd x_fill
  by_cases h1 : j = i
  · subst h1
    simp
  · by_cases h2 : j < i
    · have h3 : j < i + 1 := by omega
      simp [h1, h2, h3]
    · have h3 : ¬ j < i + 1 := by omega
      simp [h1, h2, h3]
set_option maxRecDepth 100000 in
theorem x_fill_loop {h : mm_H} {a n : Nat} {v : Int32} {f : Nat → Int32} (hn : n < 2 ^ 31) (ha : a < h.length) : ∀ (d i : Nat), i + d = n → ∀ g, g = x_fill f v i → mm_E kM none 2 5 [some (.ref a), some (.int v), some (.int (nI i)), some (.int (nI n))] [] (h.set a (.inl (.int, n, .inl g))) (none, h.set a (.inl (.int, n, .inl (x_fill f v n)))) := by
  intro d
  induction d with
  | zero =>
    intro i hi g hg
    have : i = n := by omega
    subst this
    subst hg
    refine mm_E.s rfl rfl rfl (fun _ => rfl) ?_
    refine mm_E.s rfl rfl rfl (fun _ => rfl) ?_
    refine mm_E.s rfl rfl rfl (fun _ => if_pos (nI_le (Nat.le_refl i) hn)) ?_
    exact mm_E.ret rfl rfl rfl
  | succ d ih =>
    intro i hi g hg
    refine mm_E.s rfl rfl rfl (fun _ => rfl) ?_
    refine mm_E.s rfl rfl rfl (fun _ => rfl) ?_
    refine mm_E.s rfl rfl rfl (fun _ => if_neg (nI_ge (by omega) hn)) ?_
    refine mm_E.s rfl rfl rfl (fun _ => rfl) ?_
    refine mm_E.s rfl rfl rfl (fun _ => rfl) ?_
    refine mm_E.s rfl rfl rfl (fun _ => rfl) ?_
    refine mm_E.is rfl rfl (mm_nth_set ha) (mm_bd (by omega) hn) (mm_put_some _ _ _ (by simpa using ha)) ?_
    refine mm_E.s rfl rfl rfl (fun _ => rfl) ?_
    refine mm_E.s rfl rfl rfl (fun _ => rfl) ?_
    rw [List.set_set, mm_cl (by omega)]
    have e := ih (i + 1) (by omega) (upd g i v) (by rw [hg]; exact x_fill_s f v i)
    rw [← nI_1] at e
    exact e
end
section
/-! MAKING CELLS: rows in the small machine's words, for methods that make cells -/
def mc_v (N : Nat) (v : Value) : Bool := match v with
  | .ref j => Nat.ble (j + 1) N
  | _ => true
def mc_l (N : Nat) : mm_L → Bool
  | [] => true
  | some v :: t => mc_v N v && mc_l N t
  | none :: t => mc_l N t
def mc_s (N : Nat) : List Value → Bool
  | [] => true
  | v :: t => mc_v N v && mc_s N t
def mc_h (N : Nat) : mm_H → Bool
  | [] => true
  | .inl _ :: t => mc_h N t
  | .inr x :: t => mc_s N x.2 && mc_h N t
def mc_ok (N : Nat) (L : mm_L) (st : List Value) (h : mm_H) : Bool := mc_l N L && (mc_s N st && mc_h N h)
section MCW
variable {ρ ρ' : Nat → Nat} {b N : Nat}
theorem mc_v_eq (ha : ∀ j, j < N → ρ' j = ρ j) {v : Value} (h : mc_v N v = true) : mm_cv ρ' b v = mm_cv ρ b v := by
  cases v with
  | ref j =>
    have : j < N := Nat.le_of_ble_eq_true h
    simp only [mm_cv, ha j this]
  | _ => rfl
theorem mc_l_eq (ha : ∀ j, j < N → ρ' j = ρ j) : ∀ {L : mm_L}, mc_l N L = true → ∀ (i : Nat) (v : Value), L[i]? = some (some v) → mm_cv ρ' b v = mm_cv ρ b v
  | [], _, i, v, hi => by simp at hi
  | some w :: t, h, i, v, hi => by
    simp only [mc_l, Bool.and_eq_true] at h
    cases i with
    | zero =>
      have e : w = v := by simpa using hi
      subst e
      exact mc_v_eq ha h.1
    | succ i => exact mc_l_eq ha h.2 i v (by simpa using hi)
  | none :: t, h, i, v, hi => by
    simp only [mc_l] at h
    cases i with
    | zero => simp at hi
    | succ i => exact mc_l_eq ha h i v (by simpa using hi)
theorem mc_s_eq (ha : ∀ j, j < N → ρ' j = ρ j) : ∀ {st : List Value}, mc_s N st = true → st.map (mm_cv ρ' b) = st.map (mm_cv ρ b)
  | [], _ => rfl
  | v :: t, h => by
    simp only [mc_s, Bool.and_eq_true] at h
    simp only [List.map_cons]
    rw [mc_v_eq ha h.1, mc_s_eq ha h.2]
theorem mc_h_eq {κ κ' : Nat → ClassId} (ha : ∀ j, j < N → ρ' j = ρ j) : ∀ {h : mm_H}, mc_h N h = true → ∀ (i : Nat) (c : mm_C), h[i]? = some c → ρ' i = ρ i → κ' i = κ i → mm_co ρ' κ' b i c = mm_co ρ κ b i c
  | [], _, i, c, hi, _, _ => by simp at hi
  | .inl x :: t, h, i, c, hi, e1, e2 => by
    simp only [mc_h] at h
    cases i with
    | zero =>
      have e : Sum.inl x = c := by simpa using hi
      subst e
      simp only [mm_co, e1, e2]
    | succ i =>
      have z : t[i]? = some c := by simpa using hi
      cases c with
      | inl y => simp only [mm_co, e1, e2]
      | inr y =>
        have q := mc_h_mem h i y z
        simp only [mm_co, e1, mc_s_eq ha q]
  | .inr x :: t, h, i, c, hi, e1, e2 => by
    simp only [mc_h, Bool.and_eq_true] at h
    cases i with
    | zero =>
      have e : Sum.inr x = c := by simpa using hi
      subst e
      simp only [mm_co, e1, mc_s_eq ha h.1]
    | succ i =>
      have z : t[i]? = some c := by simpa using hi
      cases c with
      | inl y => simp only [mm_co, e1, e2]
      | inr y =>
        have q := mc_h_mem h.2 i y z
        simp only [mm_co, e1, mc_s_eq ha q]
where
  mc_h_mem : ∀ {h : mm_H}, mc_h N h = true → ∀ (i : Nat) (y : Nat × List Value), h[i]? = some (.inr y) → mc_s N y.2 = true
  | [], _, i, y, hi => by simp at hi
  | .inl x :: t, h, i, y, hi => by
    simp only [mc_h] at h
    cases i with
    | zero => simp at hi
    | succ i => exact mc_h_mem h i y (by simpa using hi)
  | .inr x :: t, h, i, y, hi => by
    simp only [mc_h, Bool.and_eq_true] at h
    cases i with
    | zero =>
      have e : x = y := by simpa using hi
      subst e
      exact h.1
    | succ i => exact mc_h_mem h.2 i y (by simpa using hi)
theorem mc_rep_eq {κ κ' : Nat → ClassId} {h : mm_H} (hl : h.length = N) (ha : ∀ j, j < N → ρ' j = ρ j ∧ κ' j = κ j) (hh : mc_h N h = true) : mm_rep ρ' κ' b h = mm_rep ρ κ b h := by
  apply List.ext_getElem?
  intro i
  unfold mm_rep
  rw [List.getElem?_mapIdx, List.getElem?_mapIdx]
  cases hi : h[i]? with
  | none => rfl
  | some c =>
    have hlt : i < N := by rw [← hl]; exact (List.getElem?_eq_some_iff.mp hi).1
    simp only [Option.map_some]
    rw [mc_h_eq (fun j hj => (ha j hj).1) hh i c hi (ha i hlt).1 (ha i hlt).2]
theorem mc_rep_app {κ : Nat → ClassId} (h : mm_H) (c : mm_C) : mm_rep ρ κ b (h ++ [c]) = mm_rep ρ κ b h ++ [mm_co ρ κ b h.length c] := by
  unfold mm_rep
  rw [List.mapIdx_append]
  simp
theorem mc_loc_eq {nL : Nat} {ls : Array Slot} {L : mm_L} (ha : ∀ j, j < N → ρ' j = ρ j) (hL : mc_l N L = true) (h : mm_loc ρ b nL ls L) : mm_loc ρ' b nL ls L := ⟨h.1, h.2.1, h.2.2.1, fun i v hi => by rw [mc_l_eq ha hL i v hi]; exact h.2.2.2 i v hi⟩
end MCW
/-- one more address, one more kind -/
def mc_up {α : Type} (f : Nat → α) (N : Nat) (x : α) : Nat → α := fun j => if j = N then x else f j
theorem mc_up_lt {α : Type} {f : Nat → α} {N j : Nat} {x : α} (h : j < N) : mc_up f N x j = f j := by
  unfold mc_up
  rw [if_neg (by omega)]
theorem mc_up_at {α : Type} {f : Nat → α} {N : Nat} {x : α} : mc_up f N x N = x := by
  unfold mc_up
  rw [if_pos rfl]
/-- the state of a method that makes cells, whatever the addresses -/
def mc_J (p : Program) (l : Launch) (e : Env) (R : Room) (s : State) (m : MethodId) (args : Array Value) (below : List Frame) (meth : Method) (c : Code) (Q : State → Prop) (D : va_G) (A : Nat → Prop) (b nL N0 : Nat) (ρ0 : Nat → Nat) (κ0 : Nat → ClassId) (cells slots pc : Nat) (L : mm_L) (st : List Value) (h : mm_H) : Prop :=
  cells ≤ R.cells → slots ≤ R.slots → ∀ (ρ : Nat → Nat) (κ : Nat → ClassId) (H : Heap) (locs : List Loc) (ls : Array Slot), (∀ j, j < N0 → ρ j = ρ0 j ∧ κ j = κ0 j) → N0 ≤ h.length → mm_At D kl A ρ κ b nL s H locs ls L h → W p l e R s m args below meth c H locs cells slots Q (F0 m pc ls (st.map (mm_cv ρ b)))
def mc_Post (D : va_G) (ρ : Nat → Nat) (κ : Nat → ClassId) (b : Nat) (h h1 : mm_H) (sz : Nat) : Array Value → State → Outcome → State → Prop := fun _ st oc t => oc = .returned none ∧ (∃ (ρ' : Nat → Nat) (κ' : Nat → ClassId), (∀ j, j < h.length → ρ' j = ρ j ∧ κ' j = κ j) ∧ va_P D kl (mm_rep ρ' κ' b h1) t.heap ∧ mm_ty κ' h1 t ∧ va_D (va_A (mm_rep ρ κ b h) sz) (mm_rep ρ' κ' b h1)) ∧ va_F (va_A (mm_rep ρ κ b h) sz) st t
/-- what is fixed in it -/
abbrev mc_C (p : Program) (R : Room) (s : State) (m : MethodId) (args : Array Value) (c : Code) (D : va_G) (A : Nat → Prop) (nL : Nat) (own : String) (cc : ByteArray) (Ts : List Cond) (M : mm_M) : Prop := p.tables.exec = Jvm.exec ∧ c.code = cc ∧ c.maxLocals = nL ∧ s.vm.findClass own = some m.cls ∧ (∀ w ∈ Ts, w.before args s = true) ∧ va_K D kl [] s ∧ mm_nw kNW s ∧ (∀ q, s.heap.size ≤ q → A q) ∧ mm_okW kM kY kWS kR kl 116 kNW own cc Ts R M
section MCJ
variable {p : Program} {l : Launch} {e : Env} {R : Room} {s : State} {m : MethodId} {args : Array Value} {below : List Frame} {meth : Method} {c : Code} {Q : State → Prop} {D : va_G} {A : Nat → Prop} {b nL N0 : Nat} {ρ0 : Nat → Nat} {κ0 : Nat → ClassId} {cells slots pc nx : Nat} {L L' : mm_L} {st st' r : List Value} {h h' : mm_H} {own : String} {cc : ByteArray} {Ts : List Cond} {M : mm_M} {tg : List Nat}
theorem mc_step {x : mm_I} {pc' : Nat} (C : mc_C p R s m args c D A nL own cc Ts M) (hI : mm_nth M.1 pc = some (some x)) (hx : ∀ call, mm_ex call none M.2.1 x.1 x.2.1 x.2.2 L st h = some (pc', L', st', h')) (hn : h'.length = h.length) (k : mc_J p l e R s m args below meth c Q D A b nL N0 ρ0 κ0 cells slots pc' L' st' h') : mc_J p l e R s m args below meth c Q D A b nL N0 ρ0 κ0 cells slots pc L st h := by
  intro c1 c2 ρ κ H locs ls hag hN hA
  obtain ⟨C1, C2, C3, C4, C5, C6, C7, C8, C9⟩ := C
  exact mm_step kM kY kWS kR kB kl 116 kNW (call := fun _ _ _ => none) (scr := none) (X := (pc', L', st', h')) C1 C2 C3 C4 C5 C6 C7 C8 ⟨c1, c2⟩ ko_all C9.2 (fun n f hf => by cases hf) (fun _ _ _ _ _ _ _ _ hc => by cases hc) (C9.1 pc x hI) (hx _) hA (fun H2 locs2 ls2 hA2 => k c1 c2 ρ κ H2 locs2 ls2 hag (by rw [hn]; exact hN) hA2)
theorem mc_stat {i j np : Nat} {As : List Value} {v : Option Value} (C : mc_C p R s m args c D A nL own cc Ts M) (hI : mm_nth M.1 pc = some (some (.invokestatic i, nx, tg))) (hp : mm_look M.2.1 i = some (.inr (.inr (.inl (j, np, none))))) (ht : mm_take np [] st = some (As, r)) (h8 : Nat.ble (mm_cat r) 8 = true) (hE : mm_EC kM j As h (v, h')) (hn : h'.length = h.length) (k : mc_J p l e R s m args below meth c Q D A b nL N0 ρ0 κ0 cells slots nx L (v.toList ++ r) h') : mc_J p l e R s m args below meth c Q D A b nL N0 ρ0 κ0 cells slots pc L st h := by
  intro c1 c2 ρ κ H locs ls hag hN hA
  obtain ⟨C1, C2, C3, C4, C5, C6, C7, C8, C9⟩ := C
  obtain ⟨Mj, e1, e2, n, e3⟩ := hE
  refine mm_step kM kY kWS kR kB kl 116 kNW (call := mm_cal kM (fun j L g => mm_run kM n none j 0 L [] g)) (scr := none) (ins := .invokestatic i) (nx := nx) (tg := tg) (X := (nx, L, v.toList ++ r, h')) C1 C2 C3 C4 C5 C6 C7 C8 ⟨c1, c2⟩ ko_all C9.2 (fun n f hf => by cases hf) ?_ (C9.1 pc _ hI) ?_ hA (fun H2 locs2 ls2 hA2 => k c1 c2 ρ κ H2 locs2 ls2 hag (by rw [hn]; exact hN) hA2)
  · intro k2 M2 As2 v2 h2 sz hk2 hM2 hc2
    simp only [mm_cal, hM2] at hc2
    split at hc2
    · rename_i eble
      exact mm_Met kM kY kWS kR kB kl 116 kNW l ko_all n k2 M2 As2 h v2 h2 sz hk2 hM2 (Nat.le_of_ble_eq_true eble) hc2
    · cases hc2
  · simp only [mm_ex, hp, mm_ivs, ht, mm_cs1, h8, mm_cal, e1, e2, e3]
    cases v <;> rfl
theorem mc_newa {aty : ArrayType} {ty : FieldType} {a0 : vp_A} {n : Int32} {N N1 : Nat} (C : mc_C p R s m args c D A nL own cc Ts M) (hI : mm_nth M.1 pc = some (some (.newarray aty, nx, tg))) (hty : newarray.typeOf aty = ty) (hw : Cond.arrayClass ty ∈ Ts) (hz : ∀ cA : ClassId, vp_cell cA a0 = arrV cA N (fun _ => defaultValue ty)) (hn : ¬ n < 0) (hN : n.toNatClampNeg = N) (hby : N * componentBytes ty ≤ 536870912) (hl : h.length = N1) (hc : cells + 1 ≤ R.cells) (hs : slots + N ≤ R.slots) (hwf : mc_ok N1 L r h = true) (hh : h ++ [.inl (ty, a0)] = h') (k : mc_J p l e R s m args below meth c Q D A b nL N0 ρ0 κ0 (cells + 1) (slots + N) nx L (.ref N1 :: r) h') : mc_J p l e R s m args below meth c Q D A b nL N0 ρ0 κ0 cells slots pc L (.int n :: r) h := by
  intro c1 c2 ρ κ H locs ls hag hN0 hA
  obtain ⟨C1, C2, C3, C4, C5, C6, C7, C8, C9⟩ := C
  obtain ⟨hd, rfl, -⟩ := mm_chk_sp (C9.1 pc _ hI)
  obtain ⟨hP, hD, hT, hS, hloc⟩ := hA
  simp only [mc_ok, Bool.and_eq_true] at hwf
  subst hh
  refine va_newa (atype := aty) (N' := N) (a0 := a0) C1 C2 (by rw [hty]; exact C5 _ hw) hty C6 hP hD hS C8 hz hn hN hby hc hs hd (fun q cA H1 hK1 hP1 hD1 hS1 => ?_)
  have hag' : ∀ j, j < N1 → mc_up ρ N1 q j = ρ j ∧ mc_up κ N1 cA j = κ j := fun j hj => ⟨mc_up_lt hj, mc_up_lt hj⟩
  have er : mm_rep (mc_up ρ N1 q) (mc_up κ N1 cA) b (h ++ [.inl (ty, a0)]) = mm_rep ρ κ b h ++ [(q, .inl (cA, a0))] := by
    rw [mc_rep_app, mc_rep_eq hl hag' hwf.2.2, hl]
    simp only [mm_co, mc_up_at]
  have es : ((.ref N1 :: r : List Value)).map (mm_cv (mc_up ρ N1 q) b) = .ref q :: r.map (mm_cv ρ b) := by
    simp only [List.map_cons, mm_cv, mc_up_at]
    rw [mc_s_eq (fun j hj => (hag' j hj).1) hwf.2.1]
  have z := k hc hs (mc_up ρ N1 q) (mc_up κ N1 cA) H1 locs ls (fun j hj => by
    have hj1 : j < N1 := by omega
    exact ⟨(hag' j hj1).1.trans (hag j hj).1, (hag' j hj1).2.trans (hag j hj).2⟩) (by simp; omega) ⟨by rw [er]; exact hP1, by rw [er]; exact hD1, fun i ty' x hi => by
      rw [List.getElem?_append] at hi
      split at hi
      · rename_i hlt
        rw [(hag' i (by omega)).2]
        exact hT i ty' x hi
      · rename_i hlt
        have : i = h.length := by
          rcases Nat.lt_or_ge (h.length) i with q1 | q1
          · rw [show i - h.length = (i - h.length - 1) + 1 by omega] at hi
            simp at hi
          · omega
        subst this
        simp at hi
        obtain ⟨rfl, rfl⟩ := hi
        rw [hl, mc_up_at]
        exact hK1.2 0 (cA, ty) rfl, hS1, mc_loc_eq (fun j hj => (hag' j hj).1) hwf.1 hloc⟩
  rw [es] at z
  exact z
theorem mc_new {i ci N N1 : Nat} {Cn : String} {T : u_T} {ty : Nat → FieldType} {fs : List Value} (C : mc_C p R s m args c D A nL own cc Ts M) (hI : mm_nth M.1 pc = some (some (.new i, nx, tg))) (hcl : kl[ci]? = some (Cn, T, N)) (hin : ∀ w ∈ u_ws Cn T N, w ∈ Ts) (hty : ∀ k, k < N → parseFieldDescriptor (T k).2.2.1 = some (ty k)) (w1 : Cond.classLink own i Cn ∈ Ts) (w2 : Cond.instantiable Cn N ∈ Ts) (w3 : Cond.initialized Cn ∈ Ts) (hfs : ∀ j, j < N → defaultValue (ty j) = vp_V fs j) (hfs0 : ∀ z : Nat → Nat, fs.map (mm_cv z b) = fs) (hl : h.length = N1) (hc : cells + 1 ≤ R.cells) (hs : slots + N ≤ R.slots) (hwf : mc_ok N1 L st h = true) (hh : h ++ [.inr (ci, fs)] = h') (k : mc_J p l e R s m args below meth c Q D A b nL N0 ρ0 κ0 (cells + 1) (slots + N) nx L (.ref N1 :: st) h') : mc_J p l e R s m args below meth c Q D A b nL N0 ρ0 κ0 cells slots pc L st h := by
  intro c1 c2 ρ κ H locs ls hag hN0 hA
  obtain ⟨C1, C2, C3, C4, C5, C6, C7, C8, C9⟩ := C
  obtain ⟨hd, rfl, -⟩ := mm_chk_sp (C9.1 pc _ hI)
  obtain ⟨hP, hD, hT, hS, hloc⟩ := hA
  simp only [mc_ok, Bool.and_eq_true] at hwf
  subst hh
  refine va_new (fs := fs) C1 C2 C5 hin ty hty C4 (C5 _ w1) (C5 _ w2) (C5 _ w3) C6 hP hD hS C8 hcl hfs hc hs hd (fun q H1 hP1 hD1 hS1 => ?_)
  have hag' : ∀ j, j < N1 → mc_up ρ N1 q j = ρ j ∧ κ j = κ j := fun j hj => ⟨mc_up_lt hj, rfl⟩
  have er : mm_rep (mc_up ρ N1 q) κ b (h ++ [.inr (ci, fs)]) = mm_rep ρ κ b h ++ [(q, .inr (ci, fs))] := by
    rw [mc_rep_app, mc_rep_eq hl hag' hwf.2.2, hl]
    simp only [mm_co, mc_up_at, hfs0]
  have es : ((.ref N1 :: st : List Value)).map (mm_cv (mc_up ρ N1 q) b) = .ref q :: st.map (mm_cv ρ b) := by
    simp only [List.map_cons, mm_cv, mc_up_at]
    rw [mc_s_eq (fun j hj => (hag' j hj).1) hwf.2.1]
  have z := k hc hs (mc_up ρ N1 q) κ H1 locs ls (fun j hj => by
    have hj1 : j < N1 := by omega
    exact ⟨(hag' j hj1).1.trans (hag j hj).1, (hag j hj).2⟩) (by simp; omega) ⟨by rw [er]; exact hP1, by rw [er]; exact hD1, fun i ty' x hi => by
      rw [List.getElem?_append] at hi
      split at hi
      · exact hT i ty' x hi
      · rename_i hlt
        rcases Nat.lt_or_ge (h.length) i with q1 | q1
        · rw [show i - h.length = (i - h.length - 1) + 1 by omega] at hi
          simp at hi
        · have : i = h.length := by omega
          subst this
          simp at hi, hS1, mc_loc_eq (fun j hj => (hag' j hj).1) hwf.1 hloc⟩
  rw [es] at z
  exact z
theorem mc_putr {i a x ci j N : Nat} {Cn : String} {T : u_T} {ty0 : Nat → FieldType} {ty : FieldType} {fs fs' : List Value} (C : mc_C p R s m args c D A nL own cc Ts M) (hname : meth.name = "<init>") (hI : mm_nth M.1 pc = some (some (.putfield i, nx, tg))) (hcl : kl[ci]? = some (Cn, T, N)) (hj : j < N) (hin : ∀ w ∈ u_ws Cn T N, w ∈ Ts) (hty : ∀ k, k < N → parseFieldDescriptor (T k).2.2.1 = some (ty0 k)) (hnm : ∀ a, a < N → ∀ b, b < N → a ≠ b → (T a).2.1 ≠ (T b).2.1) (hw : Cond.fieldLink own i (T j).1 (T j).2.1 (T j).2.2.1 ∈ Ts) (hfin : (T j).2.2.2 = true) (hdecl : (T j).1 = own) (hd2 : parseFieldDescriptor (T j).2.2.1 = some ty) (hfit : ∀ q : Nat, narrow ty (.ref q) = .ref q ∧ fits ty (.ref q) = true) (hc : mm_nth h a = some (.inr (ci, fs))) (hf : mm_put fs j (.ref x) = some fs') (hh : mm_put h a (.inr (ci, fs')) = some h') (k : mc_J p l e R s m args below meth c Q D A b nL N0 ρ0 κ0 cells slots nx L r h') : mc_J p l e R s m args below meth c Q D A b nL N0 ρ0 κ0 cells slots pc L (.ref x :: .ref a :: r) h := by
  intro c1 c2 ρ κ H locs ls hag hN0 hA
  obtain ⟨C1, C2, C3, C4, C5, C6, C7, C8, C9⟩ := C
  obtain ⟨hd, rfl, -⟩ := mm_chk_sp (C9.1 pc _ hI)
  obtain ⟨hP, hD, hT, hS, hloc⟩ := hA
  obtain ⟨hlt, rfl⟩ := mm_put_eq hf
  obtain ⟨-, rfl⟩ := mm_put_eq hh
  have ec : mm_co ρ κ b a (.inr (ci, fs.set j (.ref x))) = (ρ a, .inr (ci, (fs.map (mm_cv ρ b)).set j (.ref (ρ x)))) := by simp [mm_co, List.map_set, mm_cv]
  refine va_putF C1 C2 C5 hin ty0 hty hnm C4 C6 hP hD hS _ (mm_rep_at hc) hcl j hj (C5 _ hw) (fun _ h9 => h9) hfin hname hdecl hd2 (hfit _).1 (hfit _).2 (by rw [List.length_map]; exact hlt) hd (fun H1 locs1 hP1 hD1 hS1 => k c1 c2 ρ κ H1 locs1 ls hag (by rw [List.length_set]; exact hN0) ⟨?_, ?_, mm_ty_setr hT, hS1, hloc⟩)
  · rw [mm_rep_set, ec]
    exact hP1
  · rw [mm_rep_set, ec]
    exact hD1
theorem mc_obj {i a : Nat} (C : mc_C p R s m args c D A nL own cc Ts M) (hI : mm_nth M.1 pc = some (some (.invokespecial i, nx, tg))) (w1 : Cond.methodLink own i Lib.objectInit ∈ Ts) (w2 : Cond.instanceMethod Lib.objectInit ∈ Ts) (w3 : Cond.code Lib.objectInit ⟨#[0xb1]⟩ 1 none ∈ Ts) (hfr : 1 ≤ R.frames) (hlo : 20 ≤ R.locals) (h8 : Nat.ble (mm_cat r) 8 = true) (k : mc_J p l e R s m args below meth c Q D A b nL N0 ρ0 κ0 cells slots nx L r h) : mc_J p l e R s m args below meth c Q D A b nL N0 ρ0 κ0 cells slots pc L (.ref a :: r) h := by
  intro c1 c2 ρ κ H locs ls hag hN0 hA
  obtain ⟨C1, C2, C3, C4, C5, C6, C7, C8, C9⟩ := C
  obtain ⟨hd, rfl, -⟩ := mm_chk_sp (C9.1 pc _ hI)
  have h8' := lv_room (m := m) (pc := pc) (ls := ls) (rest := ((.ref a :: r : List Value)).map (mm_cv ρ b)) (st := r.map (mm_cv ρ b)) (by rw [mm_cat_sum]; exact Nat.le_of_ble_eq_true h8)
  refine W.objInit (g := F0 m pc ls ((.ref a :: r : List Value).map (mm_cv ρ b))) (a := ρ a) (rest := r.map (mm_cv ρ b)) C1 C2 C4 (C5 _ w1) (C5 _ w2) (C5 _ w3) rfl (by rw [C3]; exact hA.2.2.2.2.1) rfl hd hfr (by omega) ?_
  exact k c1 c2 ρ κ H locs ls hag hN0 hA
theorem mc_ret {h0 : mm_H} (C : mc_C p R s m args c D A nL own cc Ts M) (hI : mm_nth M.1 pc = some (some (.return_, nx, tg))) (hr : meth.sig.returnType = none) (hlocks : meth.locks = false) (hA : A = va_A (mm_rep ρ0 κ0 b h0) s.heap.size) : mc_J p l e R s m args below meth c (MQ below (mc_Post D ρ0 κ0 b h0 h s.heap.size) args s cells slots (va_A (mm_rep ρ0 κ0 b h0) s.heap.size)) D A b nL h0.length ρ0 κ0 cells slots pc L [] h := by
  intro c1 c2 ρ κ H locs ls hag hN0 hAt
  obtain ⟨C1, C2, C3, C4, C5, C6, C7, C8, C9⟩ := C
  obtain ⟨hd, rfl, -⟩ := mm_chk_sp (C9.1 pc _ hI)
  obtain ⟨hP, hD, hT, hS, hloc⟩ := hAt
  subst hA
  exact W.vret C1 C2 hr (fun t ht hW => ⟨rfl, ⟨ρ, κ, hag, by rw [ht]; exact hP, mm_ty_moved hW.alike hT, hD⟩, hS.F ht⟩) hS.2.2 hd
theorem mc_init {i a N1 mc ms ml : Nat} {y : MethodName} {bytes : ByteArray} {rm : Room} {h1 : mm_H} (C : mc_C p R s m args c D A nL own cc Ts M) (hI : mm_nth M.1 pc = some (some (.invokespecial i, nx, tg))) (hM : ∀ (ρ : Nat → Nat) (κ : Nat → ClassId) (sz : Nat), Met l y (Cond.code y bytes ml none :: kG) rm (va_Pc ([Value.ref a].map (mm_cv ρ b)) (mm_Pre kNW D kl ρ κ b h sz)) (mc_Post D ρ κ b h h1 sz) mc ms (va_A (mm_rep ρ κ b h) sz)) (hG : GoodIn Ts (Cond.code y bytes ml none :: kG)) (w1 : Cond.initialized y.cls ∈ Ts) (w2 : Cond.methodLink own i y ∈ Ts) (w3 : Cond.instanceMethod y ∈ Ts) (hy : y.name = "<init>") (hd2 : y.cls ≠ "java/lang/invoke/MethodHandle" ∧ y.cls ≠ "java/lang/invoke/VarHandle" ∧ (parseMethodDescriptor y.desc).map (fun d => d.parameters.length) = some 0) (hR : rm.frames + 1 ≤ R.frames ∧ 8 + (ml + 11) + rm.locals ≤ R.locals) (hrc : rm.cells = mc) (hrs : rm.slots = ms) (hc : cells + mc ≤ R.cells) (hs : slots + ms ≤ R.slots) (h8 : Nat.ble (mm_cat r) 8 = true) (hl : h.length = N1) (hwf : mc_ok N1 L r h = true) (hle : h.length ≤ h1.length) (k : mc_J p l e R s m args below meth c Q D A b nL N0 ρ0 κ0 (cells + mc) (slots + ms) nx L r h1) : mc_J p l e R s m args below meth c Q D A b nL N0 ρ0 κ0 cells slots pc L (.ref a :: r) h := by
  intro c1 c2 ρ κ H locs ls hag hN0 hAt
  obtain ⟨C1, C2, C3, C4, C5, C6, C7, C8, C9⟩ := C
  obtain ⟨hd, rfl, -⟩ := mm_chk_sp (C9.1 pc _ hI)
  obtain ⟨hP, hD, hT, hS, hloc⟩ := hAt
  simp only [mc_ok, Bool.and_eq_true] at hwf
  have run := va_runI (p := p) (l := l) (e := e) (R := R) (s := s) (m := m) (args := args) (below := below) (meth := meth) (c := c) (H := H) (locs := locs) (cells := cells) (slots := slots) (As := []) (rest := r.map (mm_cv ρ b)) (b := ρ a) (g := F0 m pc ls ((.ref a :: r : List Value).map (mm_cv ρ b))) (nL := nL) (Ts := Ts) (own := own) ⟨C1, C2, C3, C4, C5⟩ (hM ρ κ H.size) (cwI 0 C5 hG rfl hrc hrs (C5 _ w1) (C5 _ w2) (C5 _ w3) hy hd2 hR)
    ⟨mm_blind, fun U hU hW => ⟨rfl, by rw [hU], by rw [hU]; exact hP, va_K.moved hW.alike C6, mm_nw_warm hW C7, mm_ty_moved hW.alike hT, hD.weaken (fun _ _ _ _ => trivial)⟩⟩ rfl rfl hloc.1 rfl (lv_room (by rw [mm_cat_sum]; exact Nat.le_of_ble_eq_true h8)) hd ⟨hc, hs⟩
  intro T hTT X
  obtain ⟨v', st₀, t, T', L1, q0, X', hL, e1, e2, ⟨hv, ⟨ρ', κ', ha, hP1, hT1, hD1⟩, hz, hk⟩, sto⟩ := run T hTT X
  have hv : v' = none := by cases hv; rfl
  subst hv
  rw [q0] at hz hk
  have hF : ∀ q, va_A (mm_rep ρ κ b h) H.size q → A q := fun q hq => by
    rcases hq with ⟨k, x, hk⟩ | hq
    · exact hD.2 k _ hk
    · exact C8 q (Nat.le_trans hS.1 hq)
  have hal : s.vm.Alike t.vm := by rw [← e2]; exact X'.warmed.alike
  have z := k hc hs ρ' κ' T'.heap (locs ++ L1) ls (fun j hj => ⟨(ha j (by omega)).1.trans (hag j hj).1, (ha j (by omega)).2.trans (hag j hj).2⟩) (by omega) ⟨by rw [e1]; exact hP1, hD1.weaken (fun _ _ _ z => hF _ z), mm_ty_moved hal.symm hT1, ⟨Nat.le_trans hS.1 (by rw [e1]; exact hz), fun q h1 h2 => by rw [e1, hk q (Nat.lt_of_lt_of_le h1 hS.1) (fun z => h2 (hF q z))]; exact hS.2.1 q h1 h2, fun q hq => by
      rcases List.mem_append.mp hq with h | h
      · exact hS.2.2 q h
      · exact hF _ (hL q h)⟩, mc_loc_eq (fun j hj => (ha j (by omega)).1) (N := N1) hwf.1 hloc⟩
  rw [mc_s_eq (N := N1) (fun j hj => (ha j (by omega)).1) hwf.2.1] at z
  obtain ⟨t2, a1, b1⟩ := z T' rfl X'
  exact ⟨t2, sto t2 a1, b1⟩
end MCJ
theorem mc_Met {l : Launch} {D : va_G} {b : Nat} {ρ : Nat → Nat} {κ : Nat → ClassId} {sz a mc ms ml : Nat} {y : MethodName} {bytes : ByteArray} {rm : Room} {M : mm_M} {h h1 : mm_H} {L0 : mm_L} (hpl : plainName y.cls = true) (hML : M.2.2.1 = ml) (hlay : 1 ≤ ml) (hL0 : mm_pad [some (.ref a)] ml = L0) (hokW : mm_okW kM kY kWS kR kl 116 kNW y.cls bytes (Cond.code y bytes ml none :: kG) rm M) (hname : y.name = "<init>")
    (body : ∀ {p : Program} {e : Env} {s : State} {m : MethodId} {args : Array Value} {below : List Frame} {meth : Method} {c : Code} {A : Nat → Prop}, mc_C p rm s m args c D A ml y.cls bytes (Cond.code y bytes ml none :: kG) M → meth.name = "<init>" → meth.sig.returnType = none → meth.locks = false → A = va_A (mm_rep ρ κ b h) s.heap.size → mc_J p l e rm s m args below meth c (MQ below (mc_Post D ρ κ b h h1 s.heap.size) args s mc ms (va_A (mm_rep ρ κ b h) s.heap.size)) D A b ml h.length ρ κ 0 0 0 L0 [] h) : Met l y (Cond.code y bytes ml none :: kG) rm (va_Pc ([Value.ref a].map (mm_cv ρ b)) (mm_Pre kNW D kl ρ κ b h sz)) (mc_Post D ρ κ b h h1 sz) mc ms (va_A (mm_rep ρ κ b h) sz) := by
  refine Met.ofW (cc := bytes) (maxL := ml) (ret := none) hpl rfl ?_
  intro p e s m args below meth c s₁ B hml hv
  obtain ⟨rfl, hsz, hP, hK, hNW, hT, hD0⟩ := hv
  subst hsz
  have hts := atoms_spec (ws := Cond.code y bytes ml none :: kG) B.pre
  have hown : s.vm.findClass y.cls = some m.cls := findClass_of_methodNamed B.named
  have hin : meth.name = y.name := (name_of_methodNamed B.named B.method).1
  have hl := lv_entry ([Value.ref a].map (mm_cv ρ b)) (n := ml) (by rw [mm_lay_sl]; exact hlay)
  rw [lg_entry_eq]
  generalize (lg_sl ([Value.ref a].map (mm_cv ρ b)) ++ List.replicate (ml - (lg_sl ([Value.ref a].map (mm_cv ρ b))).length) Slot.unset).toArray = ls at hl ⊢
  have hloc : mm_loc ρ b ml ls (mm_pad (mm_lay [.ref a]) ml) := ⟨hl.1, mm_pad_len _ _ hlay, hl.2.1, fun i w hi => by
    have z := hl.2.2 _ (mm_lay_get ρ b [.ref a] 0 i w (mm_pad_get _ _ _ _ hi))
    simpa using z⟩
  have hloc : mm_loc ρ b ml ls L0 := by rw [← hL0]; exact hloc
  exact body ⟨B.exec, B.bytes, hml, hown, hts, hK, hNW, fun q hq => Or.inr hq, hokW⟩ (by rw [hin, hname]) B.returns B.notSynchronized rfl (Nat.zero_le _) (Nat.zero_le _) ρ κ s.heap [] ls (fun _ _ => ⟨rfl, rfl⟩) (Nat.le_refl _) ⟨hP, hD0.self, hT, va_S.rf, hloc⟩
end
section
abbrev zi (n : Nat) : mm_C := .inl (.int, n, .inl (fun _ => 0))
abbrev zl (n : Nat) : mm_C := .inl (.long, n, .inr (.inl (fun _ => 0)))
abbrev zb (n : Nat) : mm_C := .inl (.boolean, n, .inl (fun _ => 0))
def x_idn (t : Nat) : Nat → Int32 := fun j => if j < t then nI j else 0
theorem x_idn_0 : x_idn 0 = fun _ => 0 := by
  funext j
  simp [x_idn]
theorem x_idn_s (i : Nat) : upd (x_idn i) i (nI i) = x_idn (i + 1) := by
  funext j
  unfold upd x_idn
  by_cases h1 : j = i
  · subst h1
    simp
  · by_cases h2 : j < i
    · have h3 : j < i + 1 := by omega
      simp [h1, h2, h3]
    · have h3 : ¬ j < i + 1 := by omega
      simp [h1, h2, h3]
set_option maxRecDepth 100000 in
theorem x_fill_EC {h : mm_H} {a n : Nat} {v : Int32} {f : Nat → Int32} (hc : mm_nth h a = some (.inl (.int, n, .inl f))) (hn : n < 2 ^ 31) : mm_EC kM 2 [.ref a, .int v] h (none, h.set a (.inl (.int, n, .inl (x_fill f v n)))) := by
  refine ⟨kq_2, rfl, rfl, ?_⟩
  refine mm_E.s rfl rfl rfl (fun _ => rfl) ?_
  refine mm_E.s rfl rfl rfl (fun _ => rfl) ?_
  refine mm_E.s rfl rfl rfl (fun _ => rfl) ?_
  refine mm_E.al rfl rfl hc ?_
  refine mm_E.s rfl rfl rfl (fun _ => rfl) ?_
  have ha := mm_nth_lt hc
  have e0 : h.set a (.inl (.int, n, .inl f)) = h := by
    apply List.ext_getElem?
    intro j
    rw [List.getElem?_set]
    by_cases hj : a = j
    · subst hj
      rw [mm_nth_eq] at hc
      rw [if_pos rfl, if_pos ha, hc]
    · simp [hj]
  have z := x_fill_loop (v := v) (f := f) hn ha n 0 (by omega) f (by funext j; simp [x_fill])
  rw [e0, nI_0] at z
  exact z
theorem mc_eqh {p : Program} {l : Launch} {e : Env} {R : Room} {s : State} {m : MethodId} {args : Array Value} {below : List Frame} {meth : Method} {c : Code} {Q : State → Prop} {D : va_G} {A : Nat → Prop} {b nL N0 : Nat} {ρ0 : Nat → Nat} {κ0 : Nat → ClassId} {cells slots pc : Nat} {L : mm_L} {st : List Value} {h h' : mm_H} (he : h = h') (k : mc_J p l e R s m args below meth c Q D A b nL N0 ρ0 κ0 cells slots pc L st h') : mc_J p l e R s m args below meth c Q D A b nL N0 ρ0 κ0 cells slots pc L st h := he ▸ k
theorem kobjI : Cond.instanceMethod Lib.objectInit ∈ kG := kG_mem 61 (by decide +kernel) (by decide +kernel)
theorem kobjC : Cond.code Lib.objectInit ⟨#[0xb1]⟩ 1 none ∈ kG := kG_mem 62 (by decide +kernel) (by decide +kernel)
theorem karrInt : Cond.arrayClass .int ∈ kG := kG_mem 88 (by decide +kernel) (by decide +kernel)
theorem karrLong : Cond.arrayClass .long ∈ kG := kG_mem 140 (by decide +kernel) (by decide +kernel)
theorem karrBool : Cond.arrayClass .boolean ∈ kG := kG_mem 486 (by decide +kernel) (by decide +kernel)
theorem kl_HoleCounter_1 : Cond.methodLink "HoleCounter" 1 Lib.objectInit ∈ kG := kG_mem 60 (by decide +kernel) (by decide +kernel)
theorem kl_HoleCounter_Complex_3 : Cond.methodLink "HoleCounter$Complex" 3 Lib.objectInit ∈ kG := kG_mem 68 (by decide +kernel) (by decide +kernel)
theorem kl_HoleCounter_Grid_3 : Cond.methodLink "HoleCounter$Grid" 3 Lib.objectInit ∈ kG := kG_mem 94 (by decide +kernel) (by decide +kernel)
theorem kl_HoleCounter_Span_3 : Cond.methodLink "HoleCounter$Span" 3 Lib.objectInit ∈ kG := kG_mem 135 (by decide +kernel) (by decide +kernel)
theorem kl_HoleCounterModel_1 : Cond.methodLink "HoleCounterModel" 1 Lib.objectInit ∈ kG := kG_mem 439 (by decide +kernel) (by decide +kernel)
def kyi0 : MethodName := ⟨"HoleCounter$Complex", "<init>", "()V"⟩
theorem kwi0 : Cond.code kyi0 prog_2_method_1_code 1 none ∈ kG := kG_mem 67 (by decide +kernel) (by decide +kernel)
theorem ksi0 : Cond.instanceMethod kyi0 ∈ kG := kG_mem 66 (by decide +kernel) (by decide +kernel)
theorem kinst0 : Cond.instantiable "HoleCounter$Complex" 5 ∈ kG := kG_mem 64 (by decide +kernel) (by decide +kernel)
theorem kl_HoleCounter_9 : Cond.methodLink "HoleCounter" 9 kyi0 ∈ kG := kG_mem 65 (by decide +kernel) (by decide +kernel)
def kyi1 : MethodName := ⟨"HoleCounter$Grid", "<init>", "()V"⟩
theorem kwi1 : Cond.code kyi1 prog_3_method_1_code 1 none ∈ kG := kG_mem 93 (by decide +kernel) (by decide +kernel)
theorem ksi1 : Cond.instanceMethod kyi1 ∈ kG := kG_mem 92 (by decide +kernel) (by decide +kernel)
theorem kinst1 : Cond.instantiable "HoleCounter$Grid" 11 ∈ kG := kG_mem 90 (by decide +kernel) (by decide +kernel)
theorem kl_HoleCounter_25 : Cond.methodLink "HoleCounter" 25 kyi1 ∈ kG := kG_mem 91 (by decide +kernel) (by decide +kernel)
def kyi2 : MethodName := ⟨"HoleCounter$Span", "<init>", "()V"⟩
theorem kwi2 : Cond.code kyi2 prog_4_method_1_code 1 none ∈ kG := kG_mem 134 (by decide +kernel) (by decide +kernel)
theorem ksi2 : Cond.instanceMethod kyi2 ∈ kG := kG_mem 133 (by decide +kernel) (by decide +kernel)
theorem kinst2 : Cond.instantiable "HoleCounter$Span" 1 ∈ kG := kG_mem 131 (by decide +kernel) (by decide +kernel)
theorem kl_HoleCounter_32 : Cond.methodLink "HoleCounter" 32 kyi2 ∈ kG := kG_mem 132 (by decide +kernel) (by decide +kernel)
def kyi3 : MethodName := ⟨"HoleCounter", "<init>", "()V"⟩
theorem kwi3 : Cond.code kyi3 prog_1_method_1_code 2 none ∈ kG := kG_mem 59 (by decide +kernel) (by decide +kernel)
theorem ksi3 : Cond.instanceMethod kyi3 ∈ kG := kG_mem 58 (by decide +kernel) (by decide +kernel)
theorem kinst3 : Cond.instantiable "HoleCounter" 7 ∈ kG := kG_mem 56 (by decide +kernel) (by decide +kernel)
theorem kl_HoleCounterLaw_9 : Cond.methodLink "HoleCounterLaw" 9 kyi3 ∈ kG := kG_mem 57 (by decide +kernel) (by decide +kernel)
def kyi4 : MethodName := ⟨"HoleCounterModel", "<init>", "()V"⟩
theorem kwi4 : Cond.code kyi4 prog_6_method_1_code 2 none ∈ kG := kG_mem 438 (by decide +kernel) (by decide +kernel)
theorem ksi4 : Cond.instanceMethod kyi4 ∈ kG := kG_mem 437 (by decide +kernel) (by decide +kernel)
theorem kinst4 : Cond.instantiable "HoleCounterModel" 15 ∈ kG := kG_mem 435 (by decide +kernel) (by decide +kernel)
theorem kl_HoleCounterLaw_12 : Cond.methodLink "HoleCounterLaw" 12 kyi4 ∈ kG := kG_mem 436 (by decide +kernel) (by decide +kernel)
theorem kcl_HoleCounterLaw_7 : Cond.classLink "HoleCounterLaw" 7 "HoleCounter" ∈ kG := kG_mem 55 (by decide +kernel) (by decide +kernel)
theorem kcl_HoleCounter_7 : Cond.classLink "HoleCounter" 7 "HoleCounter$Complex" ∈ kG := kG_mem 63 (by decide +kernel) (by decide +kernel)
theorem kcl_HoleCounter_23 : Cond.classLink "HoleCounter" 23 "HoleCounter$Grid" ∈ kG := kG_mem 89 (by decide +kernel) (by decide +kernel)
theorem kcl_HoleCounter_30 : Cond.classLink "HoleCounter" 30 "HoleCounter$Span" ∈ kG := kG_mem 130 (by decide +kernel) (by decide +kernel)
theorem kcl_HoleCounterLaw_10 : Cond.classLink "HoleCounterLaw" 10 "HoleCounterModel" ∈ kG := kG_mem 434 (by decide +kernel) (by decide +kernel)
def kti_0 : List (Option mm_I) := [some (.aload_n 0, 1, []), some (.invokespecial 3, 4, []), none, none, some (.aload_n 0, 5, []), some (.sipush 256, 8, []), none, none, some (.newarray .int, 10, []), none, some (.putfield 9, 13, []), none, none, some (.aload_n 0, 14, []), some (.getfield 9, 17, []), none, none, some (.iconst (-1), 18, []), some (.invokestatic 15, 21, []), none, none, some (.aload_n 0, 22, []), some (.sipush 256, 25, []), none, none, some (.newarray .int, 27, []), none, some (.putfield 21, 30, []), none, none, some (.aload_n 0, 31, []), some (.iconst 4, 32, []), some (.newarray .int, 34, []), none, some (.putfield 24, 37, []), none, none, some (.aload_n 0, 38, []), some (.bipush 96, 40, []), none, some (.newarray .int, 42, []), none, some (.putfield 27, 45, []), none, none, some (.aload_n 0, 46, []), some (.iconst 4, 47, []), some (.newarray .int, 49, []), none, some (.putfield 30, 52, []), none, none, some (.return_, 53, [])]
theorem khi_0 : mm_all prog_2_method_1_code kti_0 0 = true := by decide +kernel
def kpi_0 : List (Nat × mm_K) := [(9, .inl (0, 0, none)), (15, .inr (.inr (.inl (2, 2, none)))), (21, .inl (0, 1, none)), (24, .inl (0, 2, none)), (27, .inl (0, 3, none)), (30, .inl (0, 4, none))]
def kqi_0 : mm_M := (kti_0, kpi_0, 1, none)
def kri_0 : Room := { frames := 1, cells := 5, slots := 616, locals := 23 }
theorem koi_0 : mm_okW kM kY kWS kR kl 116 kNW kyi0.cls prog_2_method_1_code (Cond.code kyi0 prog_2_method_1_code 1 none :: kG) kri_0 kqi_0 := by
  have hT : ∀ w ∈ kG, w ∈ Cond.code kyi0 prog_2_method_1_code 1 none :: kG := fun w h => List.mem_cons_of_mem _ h
  exact ⟨mm_all_sp khi_0, mm_pool_sp (P := kWord kyi0.cls (Cond.code kyi0 prog_2_method_1_code 1 none :: kG) kri_0) (l := kpi_0) (List.forall_mem_cons.mpr ⟨kd_HoleCounter_Complex_9 hT _, List.forall_mem_cons.mpr ⟨kd_HoleCounter_Complex_15 hT (by decide +kernel), List.forall_mem_cons.mpr ⟨kd_HoleCounter_Complex_21 hT _, List.forall_mem_cons.mpr ⟨kd_HoleCounter_Complex_24 hT _, List.forall_mem_cons.mpr ⟨kd_HoleCounter_Complex_27 hT _, List.forall_mem_cons.mpr ⟨kd_HoleCounter_Complex_30 hT _, fun _ h => absurd h List.not_mem_nil⟩⟩⟩⟩⟩⟩)⟩
def kti_1 : List (Option mm_I) := [some (.aload_n 0, 1, []), some (.invokespecial 3, 4, []), none, none, some (.aload_n 0, 5, []), some (.sipush 2304, 8, []), none, none, some (.newarray .int, 10, []), none, some (.putfield 11, 13, []), none, none, some (.aload_n 0, 14, []), some (.sipush 2304, 17, []), none, none, some (.newarray .int, 19, []), none, some (.putfield 15, 22, []), none, none, some (.aload_n 0, 23, []), some (.bipush 31, 25, []), none, some (.newarray .int, 27, []), none, some (.putfield 18, 30, []), none, none, some (.aload_n 0, 31, []), some (.bipush 48, 33, []), none, some (.newarray .int, 35, []), none, some (.putfield 21, 38, []), none, none, some (.aload_n 0, 39, []), some (.bipush 10, 41, []), none, some (.newarray .int, 43, []), none, some (.putfield 24, 46, []), none, none, some (.aload_n 0, 47, []), some (.bipush 10, 49, []), none, some (.newarray .int, 51, []), none, some (.putfield 27, 54, []), none, none, some (.aload_n 0, 55, []), some (.ldc 30, 57, []), none, some (.putfield 31, 60, []), none, none, some (.return_, 61, [])]
theorem khi_1 : mm_all prog_3_method_1_code kti_1 0 = true := by decide +kernel
def kpi_1 : List (Nat × mm_K) := [(11, .inl (1, 0, none)), (15, .inl (1, 1, none)), (18, .inl (1, 2, none)), (21, .inl (1, 3, none)), (24, .inl (1, 4, none)), (27, .inl (1, 5, none)), (30, .inr (.inl (.int 2147483647))), (31, .inl (1, 8, some .int))]
def kqi_1 : mm_M := (kti_1, kpi_1, 1, none)
def kri_1 : Room := { frames := 1, cells := 6, slots := 4707, locals := 20 }
theorem koi_1 : mm_okW kM kY kWS kR kl 116 kNW kyi1.cls prog_3_method_1_code (Cond.code kyi1 prog_3_method_1_code 1 none :: kG) kri_1 kqi_1 := by
  have hT : ∀ w ∈ kG, w ∈ Cond.code kyi1 prog_3_method_1_code 1 none :: kG := fun w h => List.mem_cons_of_mem _ h
  exact ⟨mm_all_sp khi_1, mm_pool_sp (P := kWord kyi1.cls (Cond.code kyi1 prog_3_method_1_code 1 none :: kG) kri_1) (l := kpi_1) (List.forall_mem_cons.mpr ⟨kd_HoleCounter_Grid_11 hT _, List.forall_mem_cons.mpr ⟨kd_HoleCounter_Grid_15 hT _, List.forall_mem_cons.mpr ⟨kd_HoleCounter_Grid_18 hT _, List.forall_mem_cons.mpr ⟨kd_HoleCounter_Grid_21 hT _, List.forall_mem_cons.mpr ⟨kd_HoleCounter_Grid_24 hT _, List.forall_mem_cons.mpr ⟨kd_HoleCounter_Grid_27 hT _, List.forall_mem_cons.mpr ⟨hT _ kl_HoleCounter_Grid_30, List.forall_mem_cons.mpr ⟨kd_HoleCounter_Grid_31 hT _, fun _ h => absurd h List.not_mem_nil⟩⟩⟩⟩⟩⟩⟩⟩)⟩
def kti_2 : List (Option mm_I) := [some (.aload_n 0, 1, []), some (.invokespecial 3, 4, []), none, none, some (.aload_n 0, 5, []), some (.bipush 24, 7, []), none, some (.newarray .long, 9, []), none, some (.putfield 9, 12, []), none, none, some (.return_, 13, [])]
theorem khi_2 : mm_all prog_4_method_1_code kti_2 0 = true := by decide +kernel
def kpi_2 : List (Nat × mm_K) := [(9, .inl (2, 0, none))]
def kqi_2 : mm_M := (kti_2, kpi_2, 1, none)
def kri_2 : Room := { frames := 1, cells := 1, slots := 24, locals := 20 }
theorem koi_2 : mm_okW kM kY kWS kR kl 116 kNW kyi2.cls prog_4_method_1_code (Cond.code kyi2 prog_4_method_1_code 1 none :: kG) kri_2 kqi_2 := by
  have hT : ∀ w ∈ kG, w ∈ Cond.code kyi2 prog_4_method_1_code 1 none :: kG := fun w h => List.mem_cons_of_mem _ h
  exact ⟨mm_all_sp khi_2, mm_pool_sp (P := kWord kyi2.cls (Cond.code kyi2 prog_4_method_1_code 1 none :: kG) kri_2) (l := kpi_2) (List.forall_mem_cons.mpr ⟨kd_HoleCounter_Span_9 hT _, fun _ h => absurd h List.not_mem_nil⟩)⟩
def kti_3 : List (Option mm_I) := [some (.aload_n 0, 1, []), some (.invokespecial 1, 4, []), none, none, some (.aload_n 0, 5, []), some (.new 7, 8, []), none, none, some (.dup, 9, []), some (.invokespecial 9, 12, []), none, none, some (.putfield 10, 15, []), none, none, some (.aload_n 0, 16, []), some (.new 7, 19, []), none, none, some (.dup, 20, []), some (.invokespecial 9, 23, []), none, none, some (.putfield 16, 26, []), none, none, some (.aload_n 0, 27, []), some (.bipush 8, 29, []), none, some (.newarray .int, 31, []), none, some (.putfield 19, 34, []), none, none, some (.iconst 0, 35, []), some (.istore_n 1, 36, []), some (.iload_n 1, 37, []), some (.bipush 8, 39, []), none, some (.if_icmp .ge 16, 42, [55]), none, none, some (.aload_n 0, 43, []), some (.getfield 19, 46, []), none, none, some (.iload_n 1, 47, []), some (.iload_n 1, 48, []), some (.iastore, 49, []), some (.iinc 1 1, 52, []), none, none, some (.goto (-16), 55, [36]), none, none, some (.aload_n 0, 56, []), some (.new 23, 59, []), none, none, some (.dup, 60, []), some (.invokespecial 25, 63, []), none, none, some (.putfield 26, 66, []), none, none, some (.aload_n 0, 67, []), some (.new 30, 70, []), none, none, some (.dup, 71, []), some (.invokespecial 32, 74, []), none, none, some (.putfield 33, 77, []), none, none, some (.aload_n 0, 78, []), some (.bipush 24, 80, []), none, some (.newarray .int, 82, []), none, some (.putfield 37, 85, []), none, none, some (.aload_n 0, 86, []), some (.bipush 24, 88, []), none, some (.newarray .int, 90, []), none, some (.putfield 40, 93, []), none, none, some (.return_, 94, [])]
theorem khi_3 : mm_all prog_1_method_1_code kti_3 0 = true := by decide +kernel
def kpi_3 : List (Nat × mm_K) := [(10, .inl (3, 0, none)), (16, .inl (3, 1, none)), (19, .inl (3, 2, none)), (26, .inl (3, 3, none)), (33, .inl (3, 4, none)), (37, .inl (3, 5, none)), (40, .inl (3, 6, none))]
def kqi_3 : mm_M := (kti_3, kpi_3, 2, none)
def kri_3 : Room := { frames := 2, cells := 24, slots := 6041, locals := 43 }
theorem koi_3 : mm_okW kM kY kWS kR kl 116 kNW kyi3.cls prog_1_method_1_code (Cond.code kyi3 prog_1_method_1_code 2 none :: kG) kri_3 kqi_3 := by
  have hT : ∀ w ∈ kG, w ∈ Cond.code kyi3 prog_1_method_1_code 2 none :: kG := fun w h => List.mem_cons_of_mem _ h
  exact ⟨mm_all_sp khi_3, mm_pool_sp (P := kWord kyi3.cls (Cond.code kyi3 prog_1_method_1_code 2 none :: kG) kri_3) (l := kpi_3) (List.forall_mem_cons.mpr ⟨kd_HoleCounter_10 hT _, List.forall_mem_cons.mpr ⟨kd_HoleCounter_16 hT _, List.forall_mem_cons.mpr ⟨kd_HoleCounter_19 hT _, List.forall_mem_cons.mpr ⟨kd_HoleCounter_26 hT _, List.forall_mem_cons.mpr ⟨kd_HoleCounter_33 hT _, List.forall_mem_cons.mpr ⟨kd_HoleCounter_37 hT _, List.forall_mem_cons.mpr ⟨kd_HoleCounter_40 hT _, fun _ h => absurd h List.not_mem_nil⟩⟩⟩⟩⟩⟩⟩)⟩
def kti_4 : List (Option mm_I) := [some (.aload_n 0, 1, []), some (.invokespecial 1, 4, []), none, none, some (.aload_n 0, 5, []), some (.sipush 512, 8, []), none, none, some (.newarray .boolean, 10, []), none, some (.putfield 7, 13, []), none, none, some (.aload_n 0, 14, []), some (.sipush 512, 17, []), none, none, some (.newarray .int, 19, []), none, some (.putfield 13, 22, []), none, none, some (.aload_n 0, 23, []), some (.bipush 8, 25, []), none, some (.newarray .int, 27, []), none, some (.putfield 17, 30, []), none, none, some (.aload_n 0, 31, []), some (.sipush 2304, 34, []), none, none, some (.newarray .long, 36, []), none, some (.putfield 20, 39, []), none, none, some (.aload_n 0, 40, []), some (.sipush 2304, 43, []), none, none, some (.newarray .long, 45, []), none, some (.putfield 24, 48, []), none, none, some (.aload_n 0, 49, []), some (.bipush 48, 51, []), none, some (.newarray .long, 53, []), none, some (.putfield 27, 56, []), none, none, some (.aload_n 0, 57, []), some (.bipush 24, 59, []), none, some (.newarray .int, 61, []), none, some (.putfield 30, 64, []), none, none, some (.aload_n 0, 65, []), some (.bipush 24, 67, []), none, some (.newarray .int, 69, []), none, some (.putfield 33, 72, []), none, none, some (.aload_n 0, 73, []), some (.bipush 24, 75, []), none, some (.newarray .int, 77, []), none, some (.putfield 36, 80, []), none, none, some (.aload_n 0, 81, []), some (.bipush 24, 83, []), none, some (.newarray .int, 85, []), none, some (.putfield 39, 88, []), none, none, some (.aload_n 0, 89, []), some (.bipush 24, 91, []), none, some (.newarray .int, 93, []), none, some (.putfield 42, 96, []), none, none, some (.iconst 0, 97, []), some (.istore_n 1, 98, []), some (.iload_n 1, 99, []), some (.bipush 8, 101, []), none, some (.if_icmp .ge 16, 104, [117]), none, none, some (.aload_n 0, 105, []), some (.getfield 17, 108, []), none, none, some (.iload_n 1, 109, []), some (.iload_n 1, 110, []), some (.iastore, 111, []), some (.iinc 1 1, 114, []), none, none, some (.goto (-16), 117, [98]), none, none, some (.return_, 118, [])]
theorem khi_4 : mm_all prog_6_method_1_code kti_4 0 = true := by decide +kernel
def kpi_4 : List (Nat × mm_K) := [(7, .inl (4, 0, none)), (13, .inl (4, 1, none)), (17, .inl (4, 2, none)), (20, .inl (4, 5, none)), (24, .inl (4, 6, none)), (27, .inl (4, 8, none)), (30, .inl (4, 9, none)), (33, .inl (4, 10, none)), (36, .inl (4, 12, none)), (39, .inl (4, 13, none)), (42, .inl (4, 14, none))]
def kqi_4 : mm_M := (kti_4, kpi_4, 2, none)
def kri_4 : Room := { frames := 1, cells := 11, slots := 5808, locals := 20 }
theorem koi_4 : mm_okW kM kY kWS kR kl 116 kNW kyi4.cls prog_6_method_1_code (Cond.code kyi4 prog_6_method_1_code 2 none :: kG) kri_4 kqi_4 := by
  have hT : ∀ w ∈ kG, w ∈ Cond.code kyi4 prog_6_method_1_code 2 none :: kG := fun w h => List.mem_cons_of_mem _ h
  exact ⟨mm_all_sp khi_4, mm_pool_sp (P := kWord kyi4.cls (Cond.code kyi4 prog_6_method_1_code 2 none :: kG) kri_4) (l := kpi_4) (List.forall_mem_cons.mpr ⟨kd_HoleCounterModel_7 hT _, List.forall_mem_cons.mpr ⟨kd_HoleCounterModel_13 hT _, List.forall_mem_cons.mpr ⟨kd_HoleCounterModel_17 hT _, List.forall_mem_cons.mpr ⟨kd_HoleCounterModel_20 hT _, List.forall_mem_cons.mpr ⟨kd_HoleCounterModel_24 hT _, List.forall_mem_cons.mpr ⟨kd_HoleCounterModel_27 hT _, List.forall_mem_cons.mpr ⟨kd_HoleCounterModel_30 hT _, List.forall_mem_cons.mpr ⟨kd_HoleCounterModel_33 hT _, List.forall_mem_cons.mpr ⟨kd_HoleCounterModel_36 hT _, List.forall_mem_cons.mpr ⟨kd_HoleCounterModel_39 hT _, List.forall_mem_cons.mpr ⟨kd_HoleCounterModel_42 hT _, fun _ h => absurd h List.not_mem_nil⟩⟩⟩⟩⟩⟩⟩⟩⟩⟩⟩)⟩
end
section
set_option maxHeartbeats 4000000 in
set_option maxRecDepth 100000 in
theorem c_hc_0 (l : Launch) (D : va_G) (b : Nat) : ∀ (ρ : Nat → Nat) (κ : Nat → ClassId) (sz : Nat), Met l kyi0 (Cond.code kyi0 prog_2_method_1_code 1 none :: kG) kri_0 (va_Pc ([Value.ref 1].map (mm_cv ρ b)) (mm_Pre kNW D kl ρ κ b [.inr (3, [.null, .null, .null, .null, .null, .null, .null]), .inr (0, [.null, .null, .null, .null, .null])] sz)) (mc_Post D ρ κ b [.inr (3, [.null, .null, .null, .null, .null, .null, .null]), .inr (0, [.null, .null, .null, .null, .null])] [.inr (3, [.null, .null, .null, .null, .null, .null, .null]), .inr (0, [.ref 2, .ref 3, .ref 4, .ref 5, .ref 6]), .inl (.int, 256, .inl (x_fill (fun _ => 0) (-1) 256)), zi 256, zi 4, zi 96, zi 4] sz) 5 616 (va_A (mm_rep ρ κ b [.inr (3, [.null, .null, .null, .null, .null, .null, .null]), .inr (0, [.null, .null, .null, .null, .null])]) sz) := by
  intro ρ κ sz
  refine mc_Met (M := kqi_0) (L0 := [some (.ref 1)]) (by decide +kernel) rfl (by decide) rfl koi_0 rfl ?_
  intro p e s m args below meth c A C hname hr hlocks hA
  have hT : ∀ w ∈ kG, w ∈ Cond.code kyi0 prog_2_method_1_code 1 none :: kG := fun w h => List.mem_cons_of_mem _ h
  refine mc_step C rfl (fun _ => rfl) rfl ?_
  refine mc_obj C rfl (hT _ kl_HoleCounter_Complex_3) (hT _ kobjI) (hT _ kobjC) (by decide) (by decide) rfl ?_
  refine mc_step C rfl (fun _ => rfl) rfl ?_
  refine mc_step C rfl (fun _ => rfl) rfl ?_
  refine mc_newa (ty := .int) (a0 := (256, .inl (fun _ => 0))) (N := 256) (N1 := 2) C rfl rfl (hT _ karrInt) (fun _ => rfl) (by decide) (by decide) (by decide) rfl (by decide) (by decide) rfl rfl ?_
  refine mc_putr (ci := 0) (j := 0) (N := 5) (Cn := kc0) (T := kf0) (ty0 := kt0) (ty := .array .int) C hname rfl rfl (by decide) (fun w h => hT w (kiG0 w h)) kto0 kn0 (hT _ kl_HoleCounter_Complex_9) rfl rfl (by decide +kernel) (fun _ => ⟨rfl, rfl⟩) rfl rfl rfl ?_
  refine mc_step C rfl (fun _ => rfl) rfl ?_
  refine mc_step C rfl (fun _ => rfl) rfl ?_
  refine mc_step C rfl (fun _ => rfl) rfl ?_
  refine mc_stat (j := 2) (np := 2) (v := none) (h' := [.inr (3, [.null, .null, .null, .null, .null, .null, .null]), .inr (0, [.ref 2, .null, .null, .null, .null]), .inl (.int, 256, .inl (x_fill (fun _ => 0) (-1) 256))]) C rfl rfl rfl rfl (x_fill_EC rfl (by decide)) rfl ?_
  refine mc_step C rfl (fun _ => rfl) rfl ?_
  refine mc_step C rfl (fun _ => rfl) rfl ?_
  refine mc_newa (ty := .int) (a0 := (256, .inl (fun _ => 0))) (N := 256) (N1 := 3) C rfl rfl (hT _ karrInt) (fun _ => rfl) (by decide) (by decide) (by decide) rfl (by decide) (by decide) rfl rfl ?_
  refine mc_putr (ci := 0) (j := 1) (N := 5) (Cn := kc0) (T := kf0) (ty0 := kt0) (ty := .array .int) C hname rfl rfl (by decide) (fun w h => hT w (kiG0 w h)) kto0 kn0 (hT _ kl_HoleCounter_Complex_21) rfl rfl (by decide +kernel) (fun _ => ⟨rfl, rfl⟩) rfl rfl rfl ?_
  refine mc_step C rfl (fun _ => rfl) rfl ?_
  refine mc_step C rfl (fun _ => rfl) rfl ?_
  refine mc_newa (ty := .int) (a0 := (4, .inl (fun _ => 0))) (N := 4) (N1 := 4) C rfl rfl (hT _ karrInt) (fun _ => rfl) (by decide) (by decide) (by decide) rfl (by decide) (by decide) rfl rfl ?_
  refine mc_putr (ci := 0) (j := 2) (N := 5) (Cn := kc0) (T := kf0) (ty0 := kt0) (ty := .array .int) C hname rfl rfl (by decide) (fun w h => hT w (kiG0 w h)) kto0 kn0 (hT _ kl_HoleCounter_Complex_24) rfl rfl (by decide +kernel) (fun _ => ⟨rfl, rfl⟩) rfl rfl rfl ?_
  refine mc_step C rfl (fun _ => rfl) rfl ?_
  refine mc_step C rfl (fun _ => rfl) rfl ?_
  refine mc_newa (ty := .int) (a0 := (96, .inl (fun _ => 0))) (N := 96) (N1 := 5) C rfl rfl (hT _ karrInt) (fun _ => rfl) (by decide) (by decide) (by decide) rfl (by decide) (by decide) rfl rfl ?_
  refine mc_putr (ci := 0) (j := 3) (N := 5) (Cn := kc0) (T := kf0) (ty0 := kt0) (ty := .array .int) C hname rfl rfl (by decide) (fun w h => hT w (kiG0 w h)) kto0 kn0 (hT _ kl_HoleCounter_Complex_27) rfl rfl (by decide +kernel) (fun _ => ⟨rfl, rfl⟩) rfl rfl rfl ?_
  refine mc_step C rfl (fun _ => rfl) rfl ?_
  refine mc_step C rfl (fun _ => rfl) rfl ?_
  refine mc_newa (ty := .int) (a0 := (4, .inl (fun _ => 0))) (N := 4) (N1 := 6) C rfl rfl (hT _ karrInt) (fun _ => rfl) (by decide) (by decide) (by decide) rfl (by decide) (by decide) rfl rfl ?_
  refine mc_putr (ci := 0) (j := 4) (N := 5) (Cn := kc0) (T := kf0) (ty0 := kt0) (ty := .array .int) C hname rfl rfl (by decide) (fun w h => hT w (kiG0 w h)) kto0 kn0 (hT _ kl_HoleCounter_Complex_30) rfl rfl (by decide +kernel) (fun _ => ⟨rfl, rfl⟩) rfl rfl rfl ?_
  exact mc_ret C rfl hr hlocks hA
set_option maxHeartbeats 4000000 in
set_option maxRecDepth 100000 in
theorem c_hc_1 (l : Launch) (D : va_G) (b : Nat) : ∀ (ρ : Nat → Nat) (κ : Nat → ClassId) (sz : Nat), Met l kyi0 (Cond.code kyi0 prog_2_method_1_code 1 none :: kG) kri_0 (va_Pc ([Value.ref 7].map (mm_cv ρ b)) (mm_Pre kNW D kl ρ κ b [.inr (3, [.ref 1, .null, .null, .null, .null, .null, .null]), .inr (0, [.ref 2, .ref 3, .ref 4, .ref 5, .ref 6]), .inl (.int, 256, .inl (x_fill (fun _ => 0) (-1) 256)), zi 256, zi 4, zi 96, zi 4, .inr (0, [.null, .null, .null, .null, .null])] sz)) (mc_Post D ρ κ b [.inr (3, [.ref 1, .null, .null, .null, .null, .null, .null]), .inr (0, [.ref 2, .ref 3, .ref 4, .ref 5, .ref 6]), .inl (.int, 256, .inl (x_fill (fun _ => 0) (-1) 256)), zi 256, zi 4, zi 96, zi 4, .inr (0, [.null, .null, .null, .null, .null])] [.inr (3, [.ref 1, .null, .null, .null, .null, .null, .null]), .inr (0, [.ref 2, .ref 3, .ref 4, .ref 5, .ref 6]), .inl (.int, 256, .inl (x_fill (fun _ => 0) (-1) 256)), zi 256, zi 4, zi 96, zi 4, .inr (0, [.ref 8, .ref 9, .ref 10, .ref 11, .ref 12]), .inl (.int, 256, .inl (x_fill (fun _ => 0) (-1) 256)), zi 256, zi 4, zi 96, zi 4] sz) 5 616 (va_A (mm_rep ρ κ b [.inr (3, [.ref 1, .null, .null, .null, .null, .null, .null]), .inr (0, [.ref 2, .ref 3, .ref 4, .ref 5, .ref 6]), .inl (.int, 256, .inl (x_fill (fun _ => 0) (-1) 256)), zi 256, zi 4, zi 96, zi 4, .inr (0, [.null, .null, .null, .null, .null])]) sz) := by
  intro ρ κ sz
  refine mc_Met (M := kqi_0) (L0 := [some (.ref 7)]) (by decide +kernel) rfl (by decide) rfl koi_0 rfl ?_
  intro p e s m args below meth c A C hname hr hlocks hA
  have hT : ∀ w ∈ kG, w ∈ Cond.code kyi0 prog_2_method_1_code 1 none :: kG := fun w h => List.mem_cons_of_mem _ h
  refine mc_step C rfl (fun _ => rfl) rfl ?_
  refine mc_obj C rfl (hT _ kl_HoleCounter_Complex_3) (hT _ kobjI) (hT _ kobjC) (by decide) (by decide) rfl ?_
  refine mc_step C rfl (fun _ => rfl) rfl ?_
  refine mc_step C rfl (fun _ => rfl) rfl ?_
  refine mc_newa (ty := .int) (a0 := (256, .inl (fun _ => 0))) (N := 256) (N1 := 8) C rfl rfl (hT _ karrInt) (fun _ => rfl) (by decide) (by decide) (by decide) rfl (by decide) (by decide) rfl rfl ?_
  refine mc_putr (ci := 0) (j := 0) (N := 5) (Cn := kc0) (T := kf0) (ty0 := kt0) (ty := .array .int) C hname rfl rfl (by decide) (fun w h => hT w (kiG0 w h)) kto0 kn0 (hT _ kl_HoleCounter_Complex_9) rfl rfl (by decide +kernel) (fun _ => ⟨rfl, rfl⟩) rfl rfl rfl ?_
  refine mc_step C rfl (fun _ => rfl) rfl ?_
  refine mc_step C rfl (fun _ => rfl) rfl ?_
  refine mc_step C rfl (fun _ => rfl) rfl ?_
  refine mc_stat (j := 2) (np := 2) (v := none) (h' := [.inr (3, [.ref 1, .null, .null, .null, .null, .null, .null]), .inr (0, [.ref 2, .ref 3, .ref 4, .ref 5, .ref 6]), .inl (.int, 256, .inl (x_fill (fun _ => 0) (-1) 256)), zi 256, zi 4, zi 96, zi 4, .inr (0, [.ref 8, .null, .null, .null, .null]), .inl (.int, 256, .inl (x_fill (fun _ => 0) (-1) 256))]) C rfl rfl rfl rfl (x_fill_EC rfl (by decide)) rfl ?_
  refine mc_step C rfl (fun _ => rfl) rfl ?_
  refine mc_step C rfl (fun _ => rfl) rfl ?_
  refine mc_newa (ty := .int) (a0 := (256, .inl (fun _ => 0))) (N := 256) (N1 := 9) C rfl rfl (hT _ karrInt) (fun _ => rfl) (by decide) (by decide) (by decide) rfl (by decide) (by decide) rfl rfl ?_
  refine mc_putr (ci := 0) (j := 1) (N := 5) (Cn := kc0) (T := kf0) (ty0 := kt0) (ty := .array .int) C hname rfl rfl (by decide) (fun w h => hT w (kiG0 w h)) kto0 kn0 (hT _ kl_HoleCounter_Complex_21) rfl rfl (by decide +kernel) (fun _ => ⟨rfl, rfl⟩) rfl rfl rfl ?_
  refine mc_step C rfl (fun _ => rfl) rfl ?_
  refine mc_step C rfl (fun _ => rfl) rfl ?_
  refine mc_newa (ty := .int) (a0 := (4, .inl (fun _ => 0))) (N := 4) (N1 := 10) C rfl rfl (hT _ karrInt) (fun _ => rfl) (by decide) (by decide) (by decide) rfl (by decide) (by decide) rfl rfl ?_
  refine mc_putr (ci := 0) (j := 2) (N := 5) (Cn := kc0) (T := kf0) (ty0 := kt0) (ty := .array .int) C hname rfl rfl (by decide) (fun w h => hT w (kiG0 w h)) kto0 kn0 (hT _ kl_HoleCounter_Complex_24) rfl rfl (by decide +kernel) (fun _ => ⟨rfl, rfl⟩) rfl rfl rfl ?_
  refine mc_step C rfl (fun _ => rfl) rfl ?_
  refine mc_step C rfl (fun _ => rfl) rfl ?_
  refine mc_newa (ty := .int) (a0 := (96, .inl (fun _ => 0))) (N := 96) (N1 := 11) C rfl rfl (hT _ karrInt) (fun _ => rfl) (by decide) (by decide) (by decide) rfl (by decide) (by decide) rfl rfl ?_
  refine mc_putr (ci := 0) (j := 3) (N := 5) (Cn := kc0) (T := kf0) (ty0 := kt0) (ty := .array .int) C hname rfl rfl (by decide) (fun w h => hT w (kiG0 w h)) kto0 kn0 (hT _ kl_HoleCounter_Complex_27) rfl rfl (by decide +kernel) (fun _ => ⟨rfl, rfl⟩) rfl rfl rfl ?_
  refine mc_step C rfl (fun _ => rfl) rfl ?_
  refine mc_step C rfl (fun _ => rfl) rfl ?_
  refine mc_newa (ty := .int) (a0 := (4, .inl (fun _ => 0))) (N := 4) (N1 := 12) C rfl rfl (hT _ karrInt) (fun _ => rfl) (by decide) (by decide) (by decide) rfl (by decide) (by decide) rfl rfl ?_
  refine mc_putr (ci := 0) (j := 4) (N := 5) (Cn := kc0) (T := kf0) (ty0 := kt0) (ty := .array .int) C hname rfl rfl (by decide) (fun w h => hT w (kiG0 w h)) kto0 kn0 (hT _ kl_HoleCounter_Complex_30) rfl rfl (by decide +kernel) (fun _ => ⟨rfl, rfl⟩) rfl rfl rfl ?_
  exact mc_ret C rfl hr hlocks hA
set_option maxHeartbeats 4000000 in
set_option maxRecDepth 100000 in
theorem c_hc_2 (l : Launch) (D : va_G) (b : Nat) : ∀ (ρ : Nat → Nat) (κ : Nat → ClassId) (sz : Nat), Met l kyi1 (Cond.code kyi1 prog_3_method_1_code 1 none :: kG) kri_1 (va_Pc ([Value.ref 14].map (mm_cv ρ b)) (mm_Pre kNW D kl ρ κ b [.inr (3, [.ref 1, .ref 7, .ref 13, .null, .null, .null, .null]), .inr (0, [.ref 2, .ref 3, .ref 4, .ref 5, .ref 6]), .inl (.int, 256, .inl (x_fill (fun _ => 0) (-1) 256)), zi 256, zi 4, zi 96, zi 4, .inr (0, [.ref 8, .ref 9, .ref 10, .ref 11, .ref 12]), .inl (.int, 256, .inl (x_fill (fun _ => 0) (-1) 256)), zi 256, zi 4, zi 96, zi 4, .inl (.int, 8, .inl (x_idn 8)), .inr (1, [.null, .null, .null, .null, .null, .null, .int 0, .int 0, .int 0, .long 0, .int 0])] sz)) (mc_Post D ρ κ b [.inr (3, [.ref 1, .ref 7, .ref 13, .null, .null, .null, .null]), .inr (0, [.ref 2, .ref 3, .ref 4, .ref 5, .ref 6]), .inl (.int, 256, .inl (x_fill (fun _ => 0) (-1) 256)), zi 256, zi 4, zi 96, zi 4, .inr (0, [.ref 8, .ref 9, .ref 10, .ref 11, .ref 12]), .inl (.int, 256, .inl (x_fill (fun _ => 0) (-1) 256)), zi 256, zi 4, zi 96, zi 4, .inl (.int, 8, .inl (x_idn 8)), .inr (1, [.null, .null, .null, .null, .null, .null, .int 0, .int 0, .int 0, .long 0, .int 0])] [.inr (3, [.ref 1, .ref 7, .ref 13, .null, .null, .null, .null]), .inr (0, [.ref 2, .ref 3, .ref 4, .ref 5, .ref 6]), .inl (.int, 256, .inl (x_fill (fun _ => 0) (-1) 256)), zi 256, zi 4, zi 96, zi 4, .inr (0, [.ref 8, .ref 9, .ref 10, .ref 11, .ref 12]), .inl (.int, 256, .inl (x_fill (fun _ => 0) (-1) 256)), zi 256, zi 4, zi 96, zi 4, .inl (.int, 8, .inl (x_idn 8)), .inr (1, [.ref 15, .ref 16, .ref 17, .ref 18, .ref 19, .ref 20, .int 0, .int 0, .int 2147483647, .long 0, .int 0]), zi 2304, zi 2304, zi 31, zi 48, zi 10, zi 10] sz) 6 4707 (va_A (mm_rep ρ κ b [.inr (3, [.ref 1, .ref 7, .ref 13, .null, .null, .null, .null]), .inr (0, [.ref 2, .ref 3, .ref 4, .ref 5, .ref 6]), .inl (.int, 256, .inl (x_fill (fun _ => 0) (-1) 256)), zi 256, zi 4, zi 96, zi 4, .inr (0, [.ref 8, .ref 9, .ref 10, .ref 11, .ref 12]), .inl (.int, 256, .inl (x_fill (fun _ => 0) (-1) 256)), zi 256, zi 4, zi 96, zi 4, .inl (.int, 8, .inl (x_idn 8)), .inr (1, [.null, .null, .null, .null, .null, .null, .int 0, .int 0, .int 0, .long 0, .int 0])]) sz) := by
  intro ρ κ sz
  refine mc_Met (M := kqi_1) (L0 := [some (.ref 14)]) (by decide +kernel) rfl (by decide) rfl koi_1 rfl ?_
  intro p e s m args below meth c A C hname hr hlocks hA
  have hT : ∀ w ∈ kG, w ∈ Cond.code kyi1 prog_3_method_1_code 1 none :: kG := fun w h => List.mem_cons_of_mem _ h
  refine mc_step C rfl (fun _ => rfl) rfl ?_
  refine mc_obj C rfl (hT _ kl_HoleCounter_Grid_3) (hT _ kobjI) (hT _ kobjC) (by decide) (by decide) rfl ?_
  refine mc_step C rfl (fun _ => rfl) rfl ?_
  refine mc_step C rfl (fun _ => rfl) rfl ?_
  refine mc_newa (ty := .int) (a0 := (2304, .inl (fun _ => 0))) (N := 2304) (N1 := 15) C rfl rfl (hT _ karrInt) (fun _ => rfl) (by decide) (by decide) (by decide) rfl (by decide) (by decide) rfl rfl ?_
  refine mc_putr (ci := 1) (j := 0) (N := 11) (Cn := kc1) (T := kf1) (ty0 := kt1) (ty := .array .int) C hname rfl rfl (by decide) (fun w h => hT w (kiG1 w h)) kto1 kn1 (hT _ kl_HoleCounter_Grid_11) rfl rfl (by decide +kernel) (fun _ => ⟨rfl, rfl⟩) rfl rfl rfl ?_
  refine mc_step C rfl (fun _ => rfl) rfl ?_
  refine mc_step C rfl (fun _ => rfl) rfl ?_
  refine mc_newa (ty := .int) (a0 := (2304, .inl (fun _ => 0))) (N := 2304) (N1 := 16) C rfl rfl (hT _ karrInt) (fun _ => rfl) (by decide) (by decide) (by decide) rfl (by decide) (by decide) rfl rfl ?_
  refine mc_putr (ci := 1) (j := 1) (N := 11) (Cn := kc1) (T := kf1) (ty0 := kt1) (ty := .array .int) C hname rfl rfl (by decide) (fun w h => hT w (kiG1 w h)) kto1 kn1 (hT _ kl_HoleCounter_Grid_15) rfl rfl (by decide +kernel) (fun _ => ⟨rfl, rfl⟩) rfl rfl rfl ?_
  refine mc_step C rfl (fun _ => rfl) rfl ?_
  refine mc_step C rfl (fun _ => rfl) rfl ?_
  refine mc_newa (ty := .int) (a0 := (31, .inl (fun _ => 0))) (N := 31) (N1 := 17) C rfl rfl (hT _ karrInt) (fun _ => rfl) (by decide) (by decide) (by decide) rfl (by decide) (by decide) rfl rfl ?_
  refine mc_putr (ci := 1) (j := 2) (N := 11) (Cn := kc1) (T := kf1) (ty0 := kt1) (ty := .array .int) C hname rfl rfl (by decide) (fun w h => hT w (kiG1 w h)) kto1 kn1 (hT _ kl_HoleCounter_Grid_18) rfl rfl (by decide +kernel) (fun _ => ⟨rfl, rfl⟩) rfl rfl rfl ?_
  refine mc_step C rfl (fun _ => rfl) rfl ?_
  refine mc_step C rfl (fun _ => rfl) rfl ?_
  refine mc_newa (ty := .int) (a0 := (48, .inl (fun _ => 0))) (N := 48) (N1 := 18) C rfl rfl (hT _ karrInt) (fun _ => rfl) (by decide) (by decide) (by decide) rfl (by decide) (by decide) rfl rfl ?_
  refine mc_putr (ci := 1) (j := 3) (N := 11) (Cn := kc1) (T := kf1) (ty0 := kt1) (ty := .array .int) C hname rfl rfl (by decide) (fun w h => hT w (kiG1 w h)) kto1 kn1 (hT _ kl_HoleCounter_Grid_21) rfl rfl (by decide +kernel) (fun _ => ⟨rfl, rfl⟩) rfl rfl rfl ?_
  refine mc_step C rfl (fun _ => rfl) rfl ?_
  refine mc_step C rfl (fun _ => rfl) rfl ?_
  refine mc_newa (ty := .int) (a0 := (10, .inl (fun _ => 0))) (N := 10) (N1 := 19) C rfl rfl (hT _ karrInt) (fun _ => rfl) (by decide) (by decide) (by decide) rfl (by decide) (by decide) rfl rfl ?_
  refine mc_putr (ci := 1) (j := 4) (N := 11) (Cn := kc1) (T := kf1) (ty0 := kt1) (ty := .array .int) C hname rfl rfl (by decide) (fun w h => hT w (kiG1 w h)) kto1 kn1 (hT _ kl_HoleCounter_Grid_24) rfl rfl (by decide +kernel) (fun _ => ⟨rfl, rfl⟩) rfl rfl rfl ?_
  refine mc_step C rfl (fun _ => rfl) rfl ?_
  refine mc_step C rfl (fun _ => rfl) rfl ?_
  refine mc_newa (ty := .int) (a0 := (10, .inl (fun _ => 0))) (N := 10) (N1 := 20) C rfl rfl (hT _ karrInt) (fun _ => rfl) (by decide) (by decide) (by decide) rfl (by decide) (by decide) rfl rfl ?_
  refine mc_putr (ci := 1) (j := 5) (N := 11) (Cn := kc1) (T := kf1) (ty0 := kt1) (ty := .array .int) C hname rfl rfl (by decide) (fun w h => hT w (kiG1 w h)) kto1 kn1 (hT _ kl_HoleCounter_Grid_27) rfl rfl (by decide +kernel) (fun _ => ⟨rfl, rfl⟩) rfl rfl rfl ?_
  refine mc_step C rfl (fun _ => rfl) rfl ?_
  refine mc_step C rfl (fun _ => rfl) rfl ?_
  refine mc_step C rfl (fun _ => rfl) rfl ?_
  exact mc_ret C rfl hr hlocks hA
set_option maxHeartbeats 4000000 in
set_option maxRecDepth 100000 in
theorem c_hc_3 (l : Launch) (D : va_G) (b : Nat) : ∀ (ρ : Nat → Nat) (κ : Nat → ClassId) (sz : Nat), Met l kyi2 (Cond.code kyi2 prog_4_method_1_code 1 none :: kG) kri_2 (va_Pc ([Value.ref 21].map (mm_cv ρ b)) (mm_Pre kNW D kl ρ κ b [.inr (3, [.ref 1, .ref 7, .ref 13, .ref 14, .null, .null, .null]), .inr (0, [.ref 2, .ref 3, .ref 4, .ref 5, .ref 6]), .inl (.int, 256, .inl (x_fill (fun _ => 0) (-1) 256)), zi 256, zi 4, zi 96, zi 4, .inr (0, [.ref 8, .ref 9, .ref 10, .ref 11, .ref 12]), .inl (.int, 256, .inl (x_fill (fun _ => 0) (-1) 256)), zi 256, zi 4, zi 96, zi 4, .inl (.int, 8, .inl (x_idn 8)), .inr (1, [.ref 15, .ref 16, .ref 17, .ref 18, .ref 19, .ref 20, .int 0, .int 0, .int 2147483647, .long 0, .int 0]), zi 2304, zi 2304, zi 31, zi 48, zi 10, zi 10, .inr (2, [.null])] sz)) (mc_Post D ρ κ b [.inr (3, [.ref 1, .ref 7, .ref 13, .ref 14, .null, .null, .null]), .inr (0, [.ref 2, .ref 3, .ref 4, .ref 5, .ref 6]), .inl (.int, 256, .inl (x_fill (fun _ => 0) (-1) 256)), zi 256, zi 4, zi 96, zi 4, .inr (0, [.ref 8, .ref 9, .ref 10, .ref 11, .ref 12]), .inl (.int, 256, .inl (x_fill (fun _ => 0) (-1) 256)), zi 256, zi 4, zi 96, zi 4, .inl (.int, 8, .inl (x_idn 8)), .inr (1, [.ref 15, .ref 16, .ref 17, .ref 18, .ref 19, .ref 20, .int 0, .int 0, .int 2147483647, .long 0, .int 0]), zi 2304, zi 2304, zi 31, zi 48, zi 10, zi 10, .inr (2, [.null])] [.inr (3, [.ref 1, .ref 7, .ref 13, .ref 14, .null, .null, .null]), .inr (0, [.ref 2, .ref 3, .ref 4, .ref 5, .ref 6]), .inl (.int, 256, .inl (x_fill (fun _ => 0) (-1) 256)), zi 256, zi 4, zi 96, zi 4, .inr (0, [.ref 8, .ref 9, .ref 10, .ref 11, .ref 12]), .inl (.int, 256, .inl (x_fill (fun _ => 0) (-1) 256)), zi 256, zi 4, zi 96, zi 4, .inl (.int, 8, .inl (x_idn 8)), .inr (1, [.ref 15, .ref 16, .ref 17, .ref 18, .ref 19, .ref 20, .int 0, .int 0, .int 2147483647, .long 0, .int 0]), zi 2304, zi 2304, zi 31, zi 48, zi 10, zi 10, .inr (2, [.ref 22]), zl 24] sz) 1 24 (va_A (mm_rep ρ κ b [.inr (3, [.ref 1, .ref 7, .ref 13, .ref 14, .null, .null, .null]), .inr (0, [.ref 2, .ref 3, .ref 4, .ref 5, .ref 6]), .inl (.int, 256, .inl (x_fill (fun _ => 0) (-1) 256)), zi 256, zi 4, zi 96, zi 4, .inr (0, [.ref 8, .ref 9, .ref 10, .ref 11, .ref 12]), .inl (.int, 256, .inl (x_fill (fun _ => 0) (-1) 256)), zi 256, zi 4, zi 96, zi 4, .inl (.int, 8, .inl (x_idn 8)), .inr (1, [.ref 15, .ref 16, .ref 17, .ref 18, .ref 19, .ref 20, .int 0, .int 0, .int 2147483647, .long 0, .int 0]), zi 2304, zi 2304, zi 31, zi 48, zi 10, zi 10, .inr (2, [.null])]) sz) := by
  intro ρ κ sz
  refine mc_Met (M := kqi_2) (L0 := [some (.ref 21)]) (by decide +kernel) rfl (by decide) rfl koi_2 rfl ?_
  intro p e s m args below meth c A C hname hr hlocks hA
  have hT : ∀ w ∈ kG, w ∈ Cond.code kyi2 prog_4_method_1_code 1 none :: kG := fun w h => List.mem_cons_of_mem _ h
  refine mc_step C rfl (fun _ => rfl) rfl ?_
  refine mc_obj C rfl (hT _ kl_HoleCounter_Span_3) (hT _ kobjI) (hT _ kobjC) (by decide) (by decide) rfl ?_
  refine mc_step C rfl (fun _ => rfl) rfl ?_
  refine mc_step C rfl (fun _ => rfl) rfl ?_
  refine mc_newa (ty := .long) (a0 := (24, .inr (.inl (fun _ => 0)))) (N := 24) (N1 := 22) C rfl rfl (hT _ karrLong) (fun _ => rfl) (by decide) (by decide) (by decide) rfl (by decide) (by decide) rfl rfl ?_
  refine mc_putr (ci := 2) (j := 0) (N := 1) (Cn := kc2) (T := kf2) (ty0 := kt2) (ty := .array .long) C hname rfl rfl (by decide) (fun w h => hT w (kiG2 w h)) kto2 kn2 (hT _ kl_HoleCounter_Span_9) rfl rfl (by decide +kernel) (fun _ => ⟨rfl, rfl⟩) rfl rfl rfl ?_
  exact mc_ret C rfl hr hlocks hA
set_option maxHeartbeats 4000000 in
set_option maxRecDepth 100000 in
theorem c_hc (l : Launch) (D : va_G) (b : Nat) : ∀ (ρ : Nat → Nat) (κ : Nat → ClassId) (sz : Nat), Met l kyi3 (Cond.code kyi3 prog_1_method_1_code 2 none :: kG) kri_3 (va_Pc ([Value.ref 0].map (mm_cv ρ b)) (mm_Pre kNW D kl ρ κ b [.inr (3, [.null, .null, .null, .null, .null, .null, .null])] sz)) (mc_Post D ρ κ b [.inr (3, [.null, .null, .null, .null, .null, .null, .null])] [.inr (3, [.ref 1, .ref 7, .ref 13, .ref 14, .ref 21, .ref 23, .ref 24]), .inr (0, [.ref 2, .ref 3, .ref 4, .ref 5, .ref 6]), .inl (.int, 256, .inl (x_fill (fun _ => 0) (-1) 256)), zi 256, zi 4, zi 96, zi 4, .inr (0, [.ref 8, .ref 9, .ref 10, .ref 11, .ref 12]), .inl (.int, 256, .inl (x_fill (fun _ => 0) (-1) 256)), zi 256, zi 4, zi 96, zi 4, .inl (.int, 8, .inl (x_idn 8)), .inr (1, [.ref 15, .ref 16, .ref 17, .ref 18, .ref 19, .ref 20, .int 0, .int 0, .int 2147483647, .long 0, .int 0]), zi 2304, zi 2304, zi 31, zi 48, zi 10, zi 10, .inr (2, [.ref 22]), zl 24, zi 24, zi 24] sz) 24 6041 (va_A (mm_rep ρ κ b [.inr (3, [.null, .null, .null, .null, .null, .null, .null])]) sz) := by
  intro ρ κ sz
  refine mc_Met (M := kqi_3) (L0 := [some (.ref 0), none]) (by decide +kernel) rfl (by decide) rfl koi_3 rfl ?_
  intro p e s m args below meth c A C hname hr hlocks hA
  have hT : ∀ w ∈ kG, w ∈ Cond.code kyi3 prog_1_method_1_code 2 none :: kG := fun w h => List.mem_cons_of_mem _ h
  refine mc_step C rfl (fun _ => rfl) rfl ?_
  refine mc_obj C rfl (hT _ kl_HoleCounter_1) (hT _ kobjI) (hT _ kobjC) (by decide) (by decide) rfl ?_
  refine mc_step C rfl (fun _ => rfl) rfl ?_
  refine mc_new (ci := 0) (N := 5) (N1 := 1) (Cn := kc0) (T := kf0) (ty := kt0) (fs := [.null, .null, .null, .null, .null]) C rfl rfl (fun w h => hT w (kiG0 w h)) kto0 (hT _ kcl_HoleCounter_7) (hT _ kinst0) (hT _ kini_HoleCounter_Complex) (by decide +kernel) (fun _ => rfl) rfl (by decide) (by decide) rfl rfl ?_
  refine mc_step C rfl (fun _ => rfl) rfl ?_
  refine mc_init (a := 1) (N1 := 2) (mc := 5) (ms := 616) (ml := 1) (y := kyi0) (bytes := prog_2_method_1_code) (rm := kri_0) (h1 := [.inr (3, [.null, .null, .null, .null, .null, .null, .null]), .inr (0, [.ref 2, .ref 3, .ref 4, .ref 5, .ref 6]), .inl (.int, 256, .inl (x_fill (fun _ => 0) (-1) 256)), zi 256, zi 4, zi 96, zi 4]) C rfl (c_hc_0 l D b) (kG_N hT kwi0) (hT _ kini_HoleCounter_Complex) (hT _ kl_HoleCounter_9) (hT _ ksi0) rfl ⟨by decide, by decide, by decide +kernel⟩ ⟨by decide, by decide⟩ rfl rfl (by decide) (by decide) rfl rfl rfl (by decide) ?_
  refine mc_putr (ci := 3) (j := 0) (N := 7) (Cn := kc3) (T := kf3) (ty0 := kt3) (ty := .object "HoleCounter$Complex") C hname rfl rfl (by decide) (fun w h => hT w (kiG3 w h)) kto3 kn3 (hT _ kl_HoleCounter_10) rfl rfl (by decide +kernel) (fun _ => ⟨rfl, rfl⟩) rfl rfl rfl ?_
  refine mc_step C rfl (fun _ => rfl) rfl ?_
  refine mc_new (ci := 0) (N := 5) (N1 := 7) (Cn := kc0) (T := kf0) (ty := kt0) (fs := [.null, .null, .null, .null, .null]) C rfl rfl (fun w h => hT w (kiG0 w h)) kto0 (hT _ kcl_HoleCounter_7) (hT _ kinst0) (hT _ kini_HoleCounter_Complex) (by decide +kernel) (fun _ => rfl) rfl (by decide) (by decide) rfl rfl ?_
  refine mc_step C rfl (fun _ => rfl) rfl ?_
  refine mc_init (a := 7) (N1 := 8) (mc := 5) (ms := 616) (ml := 1) (y := kyi0) (bytes := prog_2_method_1_code) (rm := kri_0) (h1 := [.inr (3, [.ref 1, .null, .null, .null, .null, .null, .null]), .inr (0, [.ref 2, .ref 3, .ref 4, .ref 5, .ref 6]), .inl (.int, 256, .inl (x_fill (fun _ => 0) (-1) 256)), zi 256, zi 4, zi 96, zi 4, .inr (0, [.ref 8, .ref 9, .ref 10, .ref 11, .ref 12]), .inl (.int, 256, .inl (x_fill (fun _ => 0) (-1) 256)), zi 256, zi 4, zi 96, zi 4]) C rfl (c_hc_1 l D b) (kG_N hT kwi0) (hT _ kini_HoleCounter_Complex) (hT _ kl_HoleCounter_9) (hT _ ksi0) rfl ⟨by decide, by decide, by decide +kernel⟩ ⟨by decide, by decide⟩ rfl rfl (by decide) (by decide) rfl rfl rfl (by decide) ?_
  refine mc_putr (ci := 3) (j := 1) (N := 7) (Cn := kc3) (T := kf3) (ty0 := kt3) (ty := .object "HoleCounter$Complex") C hname rfl rfl (by decide) (fun w h => hT w (kiG3 w h)) kto3 kn3 (hT _ kl_HoleCounter_16) rfl rfl (by decide +kernel) (fun _ => ⟨rfl, rfl⟩) rfl rfl rfl ?_
  refine mc_step C rfl (fun _ => rfl) rfl ?_
  refine mc_step C rfl (fun _ => rfl) rfl ?_
  refine mc_newa (ty := .int) (a0 := (8, .inl (fun _ => 0))) (N := 8) (N1 := 13) C rfl rfl (hT _ karrInt) (fun _ => rfl) (by decide) (by decide) (by decide) rfl (by decide) (by decide) rfl rfl ?_
  refine mc_putr (ci := 3) (j := 2) (N := 7) (Cn := kc3) (T := kf3) (ty0 := kt3) (ty := .array .int) C hname rfl rfl (by decide) (fun w h => hT w (kiG3 w h)) kto3 kn3 (hT _ kl_HoleCounter_19) rfl rfl (by decide +kernel) (fun _ => ⟨rfl, rfl⟩) rfl rfl rfl ?_
  refine mc_step C rfl (fun _ => rfl) rfl ?_
  refine mc_step C rfl (fun _ => rfl) rfl ?_
  have e0 : ([.inr (3, [.ref 1, .ref 7, .ref 13, .null, .null, .null, .null]), .inr (0, [.ref 2, .ref 3, .ref 4, .ref 5, .ref 6]), .inl (.int, 256, .inl (x_fill (fun _ => 0) (-1) 256)), zi 256, zi 4, zi 96, zi 4, .inr (0, [.ref 8, .ref 9, .ref 10, .ref 11, .ref 12]), .inl (.int, 256, .inl (x_fill (fun _ => 0) (-1) 256)), zi 256, zi 4, zi 96, zi 4, zi 8] : mm_H) = (fun t : Nat => ([.inr (3, [.ref 1, .ref 7, .ref 13, .null, .null, .null, .null]), .inr (0, [.ref 2, .ref 3, .ref 4, .ref 5, .ref 6]), .inl (.int, 256, .inl (x_fill (fun _ => 0) (-1) 256)), zi 256, zi 4, zi 96, zi 4, .inr (0, [.ref 8, .ref 9, .ref 10, .ref 11, .ref 12]), .inl (.int, 256, .inl (x_fill (fun _ => 0) (-1) 256)), zi 256, zi 4, zi 96, zi 4, .inl (.int, 8, .inl (x_idn t))] : mm_H)) 0 := by
    show _ = ([.inr (3, [.ref 1, .ref 7, .ref 13, .null, .null, .null, .null]), .inr (0, [.ref 2, .ref 3, .ref 4, .ref 5, .ref 6]), .inl (.int, 256, .inl (x_fill (fun _ => 0) (-1) 256)), zi 256, zi 4, zi 96, zi 4, .inr (0, [.ref 8, .ref 9, .ref 10, .ref 11, .ref 12]), .inl (.int, 256, .inl (x_fill (fun _ => 0) (-1) 256)), zi 256, zi 4, zi 96, zi 4, .inl (.int, 8, .inl (x_idn 0))] : mm_H)
    rw [x_idn_0]
  refine mc_eqh e0 ?_
  have loop : ∀ (cells slots : Nat), mc_J p l e kri_3 s m args below meth c (MQ below (mc_Post D ρ κ b [.inr (3, [.null, .null, .null, .null, .null, .null, .null])] [.inr (3, [.ref 1, .ref 7, .ref 13, .ref 14, .ref 21, .ref 23, .ref 24]), .inr (0, [.ref 2, .ref 3, .ref 4, .ref 5, .ref 6]), .inl (.int, 256, .inl (x_fill (fun _ => 0) (-1) 256)), zi 256, zi 4, zi 96, zi 4, .inr (0, [.ref 8, .ref 9, .ref 10, .ref 11, .ref 12]), .inl (.int, 256, .inl (x_fill (fun _ => 0) (-1) 256)), zi 256, zi 4, zi 96, zi 4, .inl (.int, 8, .inl (x_idn 8)), .inr (1, [.ref 15, .ref 16, .ref 17, .ref 18, .ref 19, .ref 20, .int 0, .int 0, .int 2147483647, .long 0, .int 0]), zi 2304, zi 2304, zi 31, zi 48, zi 10, zi 10, .inr (2, [.ref 22]), zl 24, zi 24, zi 24] s.heap.size) args s 24 6041 (va_A (mm_rep ρ κ b [.inr (3, [.null, .null, .null, .null, .null, .null, .null])]) s.heap.size)) D A b 2 (List.length (α := mm_C) [.inr (3, [.null, .null, .null, .null, .null, .null, .null])]) ρ κ cells slots 55 [some (.ref 0), some (.int (nI 8))] [] [.inr (3, [.ref 1, .ref 7, .ref 13, .null, .null, .null, .null]), .inr (0, [.ref 2, .ref 3, .ref 4, .ref 5, .ref 6]), .inl (.int, 256, .inl (x_fill (fun _ => 0) (-1) 256)), zi 256, zi 4, zi 96, zi 4, .inr (0, [.ref 8, .ref 9, .ref 10, .ref 11, .ref 12]), .inl (.int, 256, .inl (x_fill (fun _ => 0) (-1) 256)), zi 256, zi 4, zi 96, zi 4, .inl (.int, 8, .inl (x_idn 8))] → ∀ (d t : Nat), t + d = 8 → mc_J p l e kri_3 s m args below meth c (MQ below (mc_Post D ρ κ b [.inr (3, [.null, .null, .null, .null, .null, .null, .null])] [.inr (3, [.ref 1, .ref 7, .ref 13, .ref 14, .ref 21, .ref 23, .ref 24]), .inr (0, [.ref 2, .ref 3, .ref 4, .ref 5, .ref 6]), .inl (.int, 256, .inl (x_fill (fun _ => 0) (-1) 256)), zi 256, zi 4, zi 96, zi 4, .inr (0, [.ref 8, .ref 9, .ref 10, .ref 11, .ref 12]), .inl (.int, 256, .inl (x_fill (fun _ => 0) (-1) 256)), zi 256, zi 4, zi 96, zi 4, .inl (.int, 8, .inl (x_idn 8)), .inr (1, [.ref 15, .ref 16, .ref 17, .ref 18, .ref 19, .ref 20, .int 0, .int 0, .int 2147483647, .long 0, .int 0]), zi 2304, zi 2304, zi 31, zi 48, zi 10, zi 10, .inr (2, [.ref 22]), zl 24, zi 24, zi 24] s.heap.size) args s 24 6041 (va_A (mm_rep ρ κ b [.inr (3, [.null, .null, .null, .null, .null, .null, .null])]) s.heap.size)) D A b 2 (List.length (α := mm_C) [.inr (3, [.null, .null, .null, .null, .null, .null, .null])]) ρ κ cells slots 36 [some (.ref 0), some (.int (nI t))] [] ((fun t : Nat => ([.inr (3, [.ref 1, .ref 7, .ref 13, .null, .null, .null, .null]), .inr (0, [.ref 2, .ref 3, .ref 4, .ref 5, .ref 6]), .inl (.int, 256, .inl (x_fill (fun _ => 0) (-1) 256)), zi 256, zi 4, zi 96, zi 4, .inr (0, [.ref 8, .ref 9, .ref 10, .ref 11, .ref 12]), .inl (.int, 256, .inl (x_fill (fun _ => 0) (-1) 256)), zi 256, zi 4, zi 96, zi 4, .inl (.int, 8, .inl (x_idn t))] : mm_H)) t) := by
    intro cells slots after d
    induction d with
    | zero =>
      intro t ht
      have : t = 8 := by omega
      subst this
      refine mc_step C rfl (fun _ => rfl) rfl ?_
      refine mc_step C rfl (fun _ => rfl) rfl ?_
      refine mc_step C rfl (fun _ => rfl) rfl ?_
      exact after
    | succ d ih =>
      intro t ht
      refine mc_step C rfl (fun _ => rfl) rfl ?_
      refine mc_step C rfl (fun _ => rfl) rfl ?_
      refine mc_step C rfl (fun _ => if_neg (nI_ge (a := t) (b := 8) (by omega) (by decide))) rfl ?_
      refine mc_step C rfl (fun _ => rfl) rfl ?_
      refine mc_step C rfl (fun _ => rfl) rfl ?_
      refine mc_step C rfl (fun _ => rfl) rfl ?_
      refine mc_step C rfl (fun _ => rfl) rfl ?_
      refine mc_step C rfl (fun _ => if_pos (mm_bd (by omega) (by decide))) rfl ?_
      refine mc_step C rfl (fun _ => rfl) rfl ?_
      refine mc_step C rfl (fun _ => rfl) rfl ?_
      have z := ih (t + 1) (by omega)
      rw [← nI_1] at z
      refine mc_eqh ?_ z
      show _ = (fun t : Nat => ([.inr (3, [.ref 1, .ref 7, .ref 13, .null, .null, .null, .null]), .inr (0, [.ref 2, .ref 3, .ref 4, .ref 5, .ref 6]), .inl (.int, 256, .inl (x_fill (fun _ => 0) (-1) 256)), zi 256, zi 4, zi 96, zi 4, .inr (0, [.ref 8, .ref 9, .ref 10, .ref 11, .ref 12]), .inl (.int, 256, .inl (x_fill (fun _ => 0) (-1) 256)), zi 256, zi 4, zi 96, zi 4, .inl (.int, 8, .inl (x_idn t))] : mm_H)) (t + 1)
      simp only [← x_idn_s]
      rw [mm_cl (by omega)]
  refine loop _ _ ?_ 8 0 rfl
  refine mc_step C rfl (fun _ => rfl) rfl ?_
  refine mc_new (ci := 1) (N := 11) (N1 := 14) (Cn := kc1) (T := kf1) (ty := kt1) (fs := [.null, .null, .null, .null, .null, .null, .int 0, .int 0, .int 0, .long 0, .int 0]) C rfl rfl (fun w h => hT w (kiG1 w h)) kto1 (hT _ kcl_HoleCounter_23) (hT _ kinst1) (hT _ kini_HoleCounter_Grid) (by decide +kernel) (fun _ => rfl) rfl (by decide) (by decide) rfl rfl ?_
  refine mc_step C rfl (fun _ => rfl) rfl ?_
  refine mc_init (a := 14) (N1 := 15) (mc := 6) (ms := 4707) (ml := 1) (y := kyi1) (bytes := prog_3_method_1_code) (rm := kri_1) (h1 := [.inr (3, [.ref 1, .ref 7, .ref 13, .null, .null, .null, .null]), .inr (0, [.ref 2, .ref 3, .ref 4, .ref 5, .ref 6]), .inl (.int, 256, .inl (x_fill (fun _ => 0) (-1) 256)), zi 256, zi 4, zi 96, zi 4, .inr (0, [.ref 8, .ref 9, .ref 10, .ref 11, .ref 12]), .inl (.int, 256, .inl (x_fill (fun _ => 0) (-1) 256)), zi 256, zi 4, zi 96, zi 4, .inl (.int, 8, .inl (x_idn 8)), .inr (1, [.ref 15, .ref 16, .ref 17, .ref 18, .ref 19, .ref 20, .int 0, .int 0, .int 2147483647, .long 0, .int 0]), zi 2304, zi 2304, zi 31, zi 48, zi 10, zi 10]) C rfl (c_hc_2 l D b) (kG_N hT kwi1) (hT _ kini_HoleCounter_Grid) (hT _ kl_HoleCounter_25) (hT _ ksi1) rfl ⟨by decide, by decide, by decide +kernel⟩ ⟨by decide, by decide⟩ rfl rfl (by decide) (by decide) rfl rfl rfl (by decide) ?_
  refine mc_putr (ci := 3) (j := 3) (N := 7) (Cn := kc3) (T := kf3) (ty0 := kt3) (ty := .object "HoleCounter$Grid") C hname rfl rfl (by decide) (fun w h => hT w (kiG3 w h)) kto3 kn3 (hT _ kl_HoleCounter_26) rfl rfl (by decide +kernel) (fun _ => ⟨rfl, rfl⟩) rfl rfl rfl ?_
  refine mc_step C rfl (fun _ => rfl) rfl ?_
  refine mc_new (ci := 2) (N := 1) (N1 := 21) (Cn := kc2) (T := kf2) (ty := kt2) (fs := [.null]) C rfl rfl (fun w h => hT w (kiG2 w h)) kto2 (hT _ kcl_HoleCounter_30) (hT _ kinst2) (hT _ kini_HoleCounter_Span) (by decide +kernel) (fun _ => rfl) rfl (by decide) (by decide) rfl rfl ?_
  refine mc_step C rfl (fun _ => rfl) rfl ?_
  refine mc_init (a := 21) (N1 := 22) (mc := 1) (ms := 24) (ml := 1) (y := kyi2) (bytes := prog_4_method_1_code) (rm := kri_2) (h1 := [.inr (3, [.ref 1, .ref 7, .ref 13, .ref 14, .null, .null, .null]), .inr (0, [.ref 2, .ref 3, .ref 4, .ref 5, .ref 6]), .inl (.int, 256, .inl (x_fill (fun _ => 0) (-1) 256)), zi 256, zi 4, zi 96, zi 4, .inr (0, [.ref 8, .ref 9, .ref 10, .ref 11, .ref 12]), .inl (.int, 256, .inl (x_fill (fun _ => 0) (-1) 256)), zi 256, zi 4, zi 96, zi 4, .inl (.int, 8, .inl (x_idn 8)), .inr (1, [.ref 15, .ref 16, .ref 17, .ref 18, .ref 19, .ref 20, .int 0, .int 0, .int 2147483647, .long 0, .int 0]), zi 2304, zi 2304, zi 31, zi 48, zi 10, zi 10, .inr (2, [.ref 22]), zl 24]) C rfl (c_hc_3 l D b) (kG_N hT kwi2) (hT _ kini_HoleCounter_Span) (hT _ kl_HoleCounter_32) (hT _ ksi2) rfl ⟨by decide, by decide, by decide +kernel⟩ ⟨by decide, by decide⟩ rfl rfl (by decide) (by decide) rfl rfl rfl (by decide) ?_
  refine mc_putr (ci := 3) (j := 4) (N := 7) (Cn := kc3) (T := kf3) (ty0 := kt3) (ty := .object "HoleCounter$Span") C hname rfl rfl (by decide) (fun w h => hT w (kiG3 w h)) kto3 kn3 (hT _ kl_HoleCounter_33) rfl rfl (by decide +kernel) (fun _ => ⟨rfl, rfl⟩) rfl rfl rfl ?_
  refine mc_step C rfl (fun _ => rfl) rfl ?_
  refine mc_step C rfl (fun _ => rfl) rfl ?_
  refine mc_newa (ty := .int) (a0 := (24, .inl (fun _ => 0))) (N := 24) (N1 := 23) C rfl rfl (hT _ karrInt) (fun _ => rfl) (by decide) (by decide) (by decide) rfl (by decide) (by decide) rfl rfl ?_
  refine mc_putr (ci := 3) (j := 5) (N := 7) (Cn := kc3) (T := kf3) (ty0 := kt3) (ty := .array .int) C hname rfl rfl (by decide) (fun w h => hT w (kiG3 w h)) kto3 kn3 (hT _ kl_HoleCounter_37) rfl rfl (by decide +kernel) (fun _ => ⟨rfl, rfl⟩) rfl rfl rfl ?_
  refine mc_step C rfl (fun _ => rfl) rfl ?_
  refine mc_step C rfl (fun _ => rfl) rfl ?_
  refine mc_newa (ty := .int) (a0 := (24, .inl (fun _ => 0))) (N := 24) (N1 := 24) C rfl rfl (hT _ karrInt) (fun _ => rfl) (by decide) (by decide) (by decide) rfl (by decide) (by decide) rfl rfl ?_
  refine mc_putr (ci := 3) (j := 6) (N := 7) (Cn := kc3) (T := kf3) (ty0 := kt3) (ty := .array .int) C hname rfl rfl (by decide) (fun w h => hT w (kiG3 w h)) kto3 kn3 (hT _ kl_HoleCounter_40) rfl rfl (by decide +kernel) (fun _ => ⟨rfl, rfl⟩) rfl rfl rfl ?_
  exact mc_ret C rfl hr hlocks hA
set_option maxHeartbeats 4000000 in
set_option maxRecDepth 100000 in
theorem c_mo (l : Launch) (D : va_G) (b : Nat) : ∀ (ρ : Nat → Nat) (κ : Nat → ClassId) (sz : Nat), Met l kyi4 (Cond.code kyi4 prog_6_method_1_code 2 none :: kG) kri_4 (va_Pc ([Value.ref 25].map (mm_cv ρ b)) (mm_Pre kNW D kl ρ κ b [.inr (3, [.ref 1, .ref 7, .ref 13, .ref 14, .ref 21, .ref 23, .ref 24]), .inr (0, [.ref 2, .ref 3, .ref 4, .ref 5, .ref 6]), .inl (.int, 256, .inl (x_fill (fun _ => 0) (-1) 256)), zi 256, zi 4, zi 96, zi 4, .inr (0, [.ref 8, .ref 9, .ref 10, .ref 11, .ref 12]), .inl (.int, 256, .inl (x_fill (fun _ => 0) (-1) 256)), zi 256, zi 4, zi 96, zi 4, .inl (.int, 8, .inl (x_idn 8)), .inr (1, [.ref 15, .ref 16, .ref 17, .ref 18, .ref 19, .ref 20, .int 0, .int 0, .int 2147483647, .long 0, .int 0]), zi 2304, zi 2304, zi 31, zi 48, zi 10, zi 10, .inr (2, [.ref 22]), zl 24, zi 24, zi 24, .inr (4, [.null, .null, .null, .int 0, .int 0, .null, .null, .int 0, .null, .null, .null, .int 0, .null, .null, .null])] sz)) (mc_Post D ρ κ b [.inr (3, [.ref 1, .ref 7, .ref 13, .ref 14, .ref 21, .ref 23, .ref 24]), .inr (0, [.ref 2, .ref 3, .ref 4, .ref 5, .ref 6]), .inl (.int, 256, .inl (x_fill (fun _ => 0) (-1) 256)), zi 256, zi 4, zi 96, zi 4, .inr (0, [.ref 8, .ref 9, .ref 10, .ref 11, .ref 12]), .inl (.int, 256, .inl (x_fill (fun _ => 0) (-1) 256)), zi 256, zi 4, zi 96, zi 4, .inl (.int, 8, .inl (x_idn 8)), .inr (1, [.ref 15, .ref 16, .ref 17, .ref 18, .ref 19, .ref 20, .int 0, .int 0, .int 2147483647, .long 0, .int 0]), zi 2304, zi 2304, zi 31, zi 48, zi 10, zi 10, .inr (2, [.ref 22]), zl 24, zi 24, zi 24, .inr (4, [.null, .null, .null, .int 0, .int 0, .null, .null, .int 0, .null, .null, .null, .int 0, .null, .null, .null])] [.inr (3, [.ref 1, .ref 7, .ref 13, .ref 14, .ref 21, .ref 23, .ref 24]), .inr (0, [.ref 2, .ref 3, .ref 4, .ref 5, .ref 6]), .inl (.int, 256, .inl (x_fill (fun _ => 0) (-1) 256)), zi 256, zi 4, zi 96, zi 4, .inr (0, [.ref 8, .ref 9, .ref 10, .ref 11, .ref 12]), .inl (.int, 256, .inl (x_fill (fun _ => 0) (-1) 256)), zi 256, zi 4, zi 96, zi 4, .inl (.int, 8, .inl (x_idn 8)), .inr (1, [.ref 15, .ref 16, .ref 17, .ref 18, .ref 19, .ref 20, .int 0, .int 0, .int 2147483647, .long 0, .int 0]), zi 2304, zi 2304, zi 31, zi 48, zi 10, zi 10, .inr (2, [.ref 22]), zl 24, zi 24, zi 24, .inr (4, [.ref 26, .ref 27, .ref 28, .int 0, .int 0, .ref 29, .ref 30, .int 0, .ref 31, .ref 32, .ref 33, .int 0, .ref 34, .ref 35, .ref 36]), zb 512, zi 512, .inl (.int, 8, .inl (x_idn 8)), zl 2304, zl 2304, zl 48, zi 24, zi 24, zi 24, zi 24, zi 24] sz) 11 5808 (va_A (mm_rep ρ κ b [.inr (3, [.ref 1, .ref 7, .ref 13, .ref 14, .ref 21, .ref 23, .ref 24]), .inr (0, [.ref 2, .ref 3, .ref 4, .ref 5, .ref 6]), .inl (.int, 256, .inl (x_fill (fun _ => 0) (-1) 256)), zi 256, zi 4, zi 96, zi 4, .inr (0, [.ref 8, .ref 9, .ref 10, .ref 11, .ref 12]), .inl (.int, 256, .inl (x_fill (fun _ => 0) (-1) 256)), zi 256, zi 4, zi 96, zi 4, .inl (.int, 8, .inl (x_idn 8)), .inr (1, [.ref 15, .ref 16, .ref 17, .ref 18, .ref 19, .ref 20, .int 0, .int 0, .int 2147483647, .long 0, .int 0]), zi 2304, zi 2304, zi 31, zi 48, zi 10, zi 10, .inr (2, [.ref 22]), zl 24, zi 24, zi 24, .inr (4, [.null, .null, .null, .int 0, .int 0, .null, .null, .int 0, .null, .null, .null, .int 0, .null, .null, .null])]) sz) := by
  intro ρ κ sz
  refine mc_Met (M := kqi_4) (L0 := [some (.ref 25), none]) (by decide +kernel) rfl (by decide) rfl koi_4 rfl ?_
  intro p e s m args below meth c A C hname hr hlocks hA
  have hT : ∀ w ∈ kG, w ∈ Cond.code kyi4 prog_6_method_1_code 2 none :: kG := fun w h => List.mem_cons_of_mem _ h
  refine mc_step C rfl (fun _ => rfl) rfl ?_
  refine mc_obj C rfl (hT _ kl_HoleCounterModel_1) (hT _ kobjI) (hT _ kobjC) (by decide) (by decide) rfl ?_
  refine mc_step C rfl (fun _ => rfl) rfl ?_
  refine mc_step C rfl (fun _ => rfl) rfl ?_
  refine mc_newa (ty := .boolean) (a0 := (512, .inl (fun _ => 0))) (N := 512) (N1 := 26) C rfl rfl (hT _ karrBool) (fun _ => rfl) (by decide) (by decide) (by decide) rfl (by decide) (by decide) rfl rfl ?_
  refine mc_putr (ci := 4) (j := 0) (N := 15) (Cn := kc4) (T := kf4) (ty0 := kt4) (ty := .array .boolean) C hname rfl rfl (by decide) (fun w h => hT w (kiG4 w h)) kto4 kn4 (hT _ kl_HoleCounterModel_7) rfl rfl (by decide +kernel) (fun _ => ⟨rfl, rfl⟩) rfl rfl rfl ?_
  refine mc_step C rfl (fun _ => rfl) rfl ?_
  refine mc_step C rfl (fun _ => rfl) rfl ?_
  refine mc_newa (ty := .int) (a0 := (512, .inl (fun _ => 0))) (N := 512) (N1 := 27) C rfl rfl (hT _ karrInt) (fun _ => rfl) (by decide) (by decide) (by decide) rfl (by decide) (by decide) rfl rfl ?_
  refine mc_putr (ci := 4) (j := 1) (N := 15) (Cn := kc4) (T := kf4) (ty0 := kt4) (ty := .array .int) C hname rfl rfl (by decide) (fun w h => hT w (kiG4 w h)) kto4 kn4 (hT _ kl_HoleCounterModel_13) rfl rfl (by decide +kernel) (fun _ => ⟨rfl, rfl⟩) rfl rfl rfl ?_
  refine mc_step C rfl (fun _ => rfl) rfl ?_
  refine mc_step C rfl (fun _ => rfl) rfl ?_
  refine mc_newa (ty := .int) (a0 := (8, .inl (fun _ => 0))) (N := 8) (N1 := 28) C rfl rfl (hT _ karrInt) (fun _ => rfl) (by decide) (by decide) (by decide) rfl (by decide) (by decide) rfl rfl ?_
  refine mc_putr (ci := 4) (j := 2) (N := 15) (Cn := kc4) (T := kf4) (ty0 := kt4) (ty := .array .int) C hname rfl rfl (by decide) (fun w h => hT w (kiG4 w h)) kto4 kn4 (hT _ kl_HoleCounterModel_17) rfl rfl (by decide +kernel) (fun _ => ⟨rfl, rfl⟩) rfl rfl rfl ?_
  refine mc_step C rfl (fun _ => rfl) rfl ?_
  refine mc_step C rfl (fun _ => rfl) rfl ?_
  refine mc_newa (ty := .long) (a0 := (2304, .inr (.inl (fun _ => 0)))) (N := 2304) (N1 := 29) C rfl rfl (hT _ karrLong) (fun _ => rfl) (by decide) (by decide) (by decide) rfl (by decide) (by decide) rfl rfl ?_
  refine mc_putr (ci := 4) (j := 5) (N := 15) (Cn := kc4) (T := kf4) (ty0 := kt4) (ty := .array .long) C hname rfl rfl (by decide) (fun w h => hT w (kiG4 w h)) kto4 kn4 (hT _ kl_HoleCounterModel_20) rfl rfl (by decide +kernel) (fun _ => ⟨rfl, rfl⟩) rfl rfl rfl ?_
  refine mc_step C rfl (fun _ => rfl) rfl ?_
  refine mc_step C rfl (fun _ => rfl) rfl ?_
  refine mc_newa (ty := .long) (a0 := (2304, .inr (.inl (fun _ => 0)))) (N := 2304) (N1 := 30) C rfl rfl (hT _ karrLong) (fun _ => rfl) (by decide) (by decide) (by decide) rfl (by decide) (by decide) rfl rfl ?_
  refine mc_putr (ci := 4) (j := 6) (N := 15) (Cn := kc4) (T := kf4) (ty0 := kt4) (ty := .array .long) C hname rfl rfl (by decide) (fun w h => hT w (kiG4 w h)) kto4 kn4 (hT _ kl_HoleCounterModel_24) rfl rfl (by decide +kernel) (fun _ => ⟨rfl, rfl⟩) rfl rfl rfl ?_
  refine mc_step C rfl (fun _ => rfl) rfl ?_
  refine mc_step C rfl (fun _ => rfl) rfl ?_
  refine mc_newa (ty := .long) (a0 := (48, .inr (.inl (fun _ => 0)))) (N := 48) (N1 := 31) C rfl rfl (hT _ karrLong) (fun _ => rfl) (by decide) (by decide) (by decide) rfl (by decide) (by decide) rfl rfl ?_
  refine mc_putr (ci := 4) (j := 8) (N := 15) (Cn := kc4) (T := kf4) (ty0 := kt4) (ty := .array .long) C hname rfl rfl (by decide) (fun w h => hT w (kiG4 w h)) kto4 kn4 (hT _ kl_HoleCounterModel_27) rfl rfl (by decide +kernel) (fun _ => ⟨rfl, rfl⟩) rfl rfl rfl ?_
  refine mc_step C rfl (fun _ => rfl) rfl ?_
  refine mc_step C rfl (fun _ => rfl) rfl ?_
  refine mc_newa (ty := .int) (a0 := (24, .inl (fun _ => 0))) (N := 24) (N1 := 32) C rfl rfl (hT _ karrInt) (fun _ => rfl) (by decide) (by decide) (by decide) rfl (by decide) (by decide) rfl rfl ?_
  refine mc_putr (ci := 4) (j := 9) (N := 15) (Cn := kc4) (T := kf4) (ty0 := kt4) (ty := .array .int) C hname rfl rfl (by decide) (fun w h => hT w (kiG4 w h)) kto4 kn4 (hT _ kl_HoleCounterModel_30) rfl rfl (by decide +kernel) (fun _ => ⟨rfl, rfl⟩) rfl rfl rfl ?_
  refine mc_step C rfl (fun _ => rfl) rfl ?_
  refine mc_step C rfl (fun _ => rfl) rfl ?_
  refine mc_newa (ty := .int) (a0 := (24, .inl (fun _ => 0))) (N := 24) (N1 := 33) C rfl rfl (hT _ karrInt) (fun _ => rfl) (by decide) (by decide) (by decide) rfl (by decide) (by decide) rfl rfl ?_
  refine mc_putr (ci := 4) (j := 10) (N := 15) (Cn := kc4) (T := kf4) (ty0 := kt4) (ty := .array .int) C hname rfl rfl (by decide) (fun w h => hT w (kiG4 w h)) kto4 kn4 (hT _ kl_HoleCounterModel_33) rfl rfl (by decide +kernel) (fun _ => ⟨rfl, rfl⟩) rfl rfl rfl ?_
  refine mc_step C rfl (fun _ => rfl) rfl ?_
  refine mc_step C rfl (fun _ => rfl) rfl ?_
  refine mc_newa (ty := .int) (a0 := (24, .inl (fun _ => 0))) (N := 24) (N1 := 34) C rfl rfl (hT _ karrInt) (fun _ => rfl) (by decide) (by decide) (by decide) rfl (by decide) (by decide) rfl rfl ?_
  refine mc_putr (ci := 4) (j := 12) (N := 15) (Cn := kc4) (T := kf4) (ty0 := kt4) (ty := .array .int) C hname rfl rfl (by decide) (fun w h => hT w (kiG4 w h)) kto4 kn4 (hT _ kl_HoleCounterModel_36) rfl rfl (by decide +kernel) (fun _ => ⟨rfl, rfl⟩) rfl rfl rfl ?_
  refine mc_step C rfl (fun _ => rfl) rfl ?_
  refine mc_step C rfl (fun _ => rfl) rfl ?_
  refine mc_newa (ty := .int) (a0 := (24, .inl (fun _ => 0))) (N := 24) (N1 := 35) C rfl rfl (hT _ karrInt) (fun _ => rfl) (by decide) (by decide) (by decide) rfl (by decide) (by decide) rfl rfl ?_
  refine mc_putr (ci := 4) (j := 13) (N := 15) (Cn := kc4) (T := kf4) (ty0 := kt4) (ty := .array .int) C hname rfl rfl (by decide) (fun w h => hT w (kiG4 w h)) kto4 kn4 (hT _ kl_HoleCounterModel_39) rfl rfl (by decide +kernel) (fun _ => ⟨rfl, rfl⟩) rfl rfl rfl ?_
  refine mc_step C rfl (fun _ => rfl) rfl ?_
  refine mc_step C rfl (fun _ => rfl) rfl ?_
  refine mc_newa (ty := .int) (a0 := (24, .inl (fun _ => 0))) (N := 24) (N1 := 36) C rfl rfl (hT _ karrInt) (fun _ => rfl) (by decide) (by decide) (by decide) rfl (by decide) (by decide) rfl rfl ?_
  refine mc_putr (ci := 4) (j := 14) (N := 15) (Cn := kc4) (T := kf4) (ty0 := kt4) (ty := .array .int) C hname rfl rfl (by decide) (fun w h => hT w (kiG4 w h)) kto4 kn4 (hT _ kl_HoleCounterModel_42) rfl rfl (by decide +kernel) (fun _ => ⟨rfl, rfl⟩) rfl rfl rfl ?_
  refine mc_step C rfl (fun _ => rfl) rfl ?_
  refine mc_step C rfl (fun _ => rfl) rfl ?_
  have e0 : ([.inr (3, [.ref 1, .ref 7, .ref 13, .ref 14, .ref 21, .ref 23, .ref 24]), .inr (0, [.ref 2, .ref 3, .ref 4, .ref 5, .ref 6]), .inl (.int, 256, .inl (x_fill (fun _ => 0) (-1) 256)), zi 256, zi 4, zi 96, zi 4, .inr (0, [.ref 8, .ref 9, .ref 10, .ref 11, .ref 12]), .inl (.int, 256, .inl (x_fill (fun _ => 0) (-1) 256)), zi 256, zi 4, zi 96, zi 4, .inl (.int, 8, .inl (x_idn 8)), .inr (1, [.ref 15, .ref 16, .ref 17, .ref 18, .ref 19, .ref 20, .int 0, .int 0, .int 2147483647, .long 0, .int 0]), zi 2304, zi 2304, zi 31, zi 48, zi 10, zi 10, .inr (2, [.ref 22]), zl 24, zi 24, zi 24, .inr (4, [.ref 26, .ref 27, .ref 28, .int 0, .int 0, .ref 29, .ref 30, .int 0, .ref 31, .ref 32, .ref 33, .int 0, .ref 34, .ref 35, .ref 36]), zb 512, zi 512, zi 8, zl 2304, zl 2304, zl 48, zi 24, zi 24, zi 24, zi 24, zi 24] : mm_H) = (fun t : Nat => ([.inr (3, [.ref 1, .ref 7, .ref 13, .ref 14, .ref 21, .ref 23, .ref 24]), .inr (0, [.ref 2, .ref 3, .ref 4, .ref 5, .ref 6]), .inl (.int, 256, .inl (x_fill (fun _ => 0) (-1) 256)), zi 256, zi 4, zi 96, zi 4, .inr (0, [.ref 8, .ref 9, .ref 10, .ref 11, .ref 12]), .inl (.int, 256, .inl (x_fill (fun _ => 0) (-1) 256)), zi 256, zi 4, zi 96, zi 4, .inl (.int, 8, .inl (x_idn 8)), .inr (1, [.ref 15, .ref 16, .ref 17, .ref 18, .ref 19, .ref 20, .int 0, .int 0, .int 2147483647, .long 0, .int 0]), zi 2304, zi 2304, zi 31, zi 48, zi 10, zi 10, .inr (2, [.ref 22]), zl 24, zi 24, zi 24, .inr (4, [.ref 26, .ref 27, .ref 28, .int 0, .int 0, .ref 29, .ref 30, .int 0, .ref 31, .ref 32, .ref 33, .int 0, .ref 34, .ref 35, .ref 36]), zb 512, zi 512, .inl (.int, 8, .inl (x_idn t)), zl 2304, zl 2304, zl 48, zi 24, zi 24, zi 24, zi 24, zi 24] : mm_H)) 0 := by
    show _ = ([.inr (3, [.ref 1, .ref 7, .ref 13, .ref 14, .ref 21, .ref 23, .ref 24]), .inr (0, [.ref 2, .ref 3, .ref 4, .ref 5, .ref 6]), .inl (.int, 256, .inl (x_fill (fun _ => 0) (-1) 256)), zi 256, zi 4, zi 96, zi 4, .inr (0, [.ref 8, .ref 9, .ref 10, .ref 11, .ref 12]), .inl (.int, 256, .inl (x_fill (fun _ => 0) (-1) 256)), zi 256, zi 4, zi 96, zi 4, .inl (.int, 8, .inl (x_idn 8)), .inr (1, [.ref 15, .ref 16, .ref 17, .ref 18, .ref 19, .ref 20, .int 0, .int 0, .int 2147483647, .long 0, .int 0]), zi 2304, zi 2304, zi 31, zi 48, zi 10, zi 10, .inr (2, [.ref 22]), zl 24, zi 24, zi 24, .inr (4, [.ref 26, .ref 27, .ref 28, .int 0, .int 0, .ref 29, .ref 30, .int 0, .ref 31, .ref 32, .ref 33, .int 0, .ref 34, .ref 35, .ref 36]), zb 512, zi 512, .inl (.int, 8, .inl (x_idn 0)), zl 2304, zl 2304, zl 48, zi 24, zi 24, zi 24, zi 24, zi 24] : mm_H)
    rw [x_idn_0]
  refine mc_eqh e0 ?_
  have loop : ∀ (cells slots : Nat), mc_J p l e kri_4 s m args below meth c (MQ below (mc_Post D ρ κ b [.inr (3, [.ref 1, .ref 7, .ref 13, .ref 14, .ref 21, .ref 23, .ref 24]), .inr (0, [.ref 2, .ref 3, .ref 4, .ref 5, .ref 6]), .inl (.int, 256, .inl (x_fill (fun _ => 0) (-1) 256)), zi 256, zi 4, zi 96, zi 4, .inr (0, [.ref 8, .ref 9, .ref 10, .ref 11, .ref 12]), .inl (.int, 256, .inl (x_fill (fun _ => 0) (-1) 256)), zi 256, zi 4, zi 96, zi 4, .inl (.int, 8, .inl (x_idn 8)), .inr (1, [.ref 15, .ref 16, .ref 17, .ref 18, .ref 19, .ref 20, .int 0, .int 0, .int 2147483647, .long 0, .int 0]), zi 2304, zi 2304, zi 31, zi 48, zi 10, zi 10, .inr (2, [.ref 22]), zl 24, zi 24, zi 24, .inr (4, [.null, .null, .null, .int 0, .int 0, .null, .null, .int 0, .null, .null, .null, .int 0, .null, .null, .null])] [.inr (3, [.ref 1, .ref 7, .ref 13, .ref 14, .ref 21, .ref 23, .ref 24]), .inr (0, [.ref 2, .ref 3, .ref 4, .ref 5, .ref 6]), .inl (.int, 256, .inl (x_fill (fun _ => 0) (-1) 256)), zi 256, zi 4, zi 96, zi 4, .inr (0, [.ref 8, .ref 9, .ref 10, .ref 11, .ref 12]), .inl (.int, 256, .inl (x_fill (fun _ => 0) (-1) 256)), zi 256, zi 4, zi 96, zi 4, .inl (.int, 8, .inl (x_idn 8)), .inr (1, [.ref 15, .ref 16, .ref 17, .ref 18, .ref 19, .ref 20, .int 0, .int 0, .int 2147483647, .long 0, .int 0]), zi 2304, zi 2304, zi 31, zi 48, zi 10, zi 10, .inr (2, [.ref 22]), zl 24, zi 24, zi 24, .inr (4, [.ref 26, .ref 27, .ref 28, .int 0, .int 0, .ref 29, .ref 30, .int 0, .ref 31, .ref 32, .ref 33, .int 0, .ref 34, .ref 35, .ref 36]), zb 512, zi 512, .inl (.int, 8, .inl (x_idn 8)), zl 2304, zl 2304, zl 48, zi 24, zi 24, zi 24, zi 24, zi 24] s.heap.size) args s 11 5808 (va_A (mm_rep ρ κ b [.inr (3, [.ref 1, .ref 7, .ref 13, .ref 14, .ref 21, .ref 23, .ref 24]), .inr (0, [.ref 2, .ref 3, .ref 4, .ref 5, .ref 6]), .inl (.int, 256, .inl (x_fill (fun _ => 0) (-1) 256)), zi 256, zi 4, zi 96, zi 4, .inr (0, [.ref 8, .ref 9, .ref 10, .ref 11, .ref 12]), .inl (.int, 256, .inl (x_fill (fun _ => 0) (-1) 256)), zi 256, zi 4, zi 96, zi 4, .inl (.int, 8, .inl (x_idn 8)), .inr (1, [.ref 15, .ref 16, .ref 17, .ref 18, .ref 19, .ref 20, .int 0, .int 0, .int 2147483647, .long 0, .int 0]), zi 2304, zi 2304, zi 31, zi 48, zi 10, zi 10, .inr (2, [.ref 22]), zl 24, zi 24, zi 24, .inr (4, [.null, .null, .null, .int 0, .int 0, .null, .null, .int 0, .null, .null, .null, .int 0, .null, .null, .null])]) s.heap.size)) D A b 2 (List.length (α := mm_C) [.inr (3, [.ref 1, .ref 7, .ref 13, .ref 14, .ref 21, .ref 23, .ref 24]), .inr (0, [.ref 2, .ref 3, .ref 4, .ref 5, .ref 6]), .inl (.int, 256, .inl (x_fill (fun _ => 0) (-1) 256)), zi 256, zi 4, zi 96, zi 4, .inr (0, [.ref 8, .ref 9, .ref 10, .ref 11, .ref 12]), .inl (.int, 256, .inl (x_fill (fun _ => 0) (-1) 256)), zi 256, zi 4, zi 96, zi 4, .inl (.int, 8, .inl (x_idn 8)), .inr (1, [.ref 15, .ref 16, .ref 17, .ref 18, .ref 19, .ref 20, .int 0, .int 0, .int 2147483647, .long 0, .int 0]), zi 2304, zi 2304, zi 31, zi 48, zi 10, zi 10, .inr (2, [.ref 22]), zl 24, zi 24, zi 24, .inr (4, [.null, .null, .null, .int 0, .int 0, .null, .null, .int 0, .null, .null, .null, .int 0, .null, .null, .null])]) ρ κ cells slots 117 [some (.ref 25), some (.int (nI 8))] [] [.inr (3, [.ref 1, .ref 7, .ref 13, .ref 14, .ref 21, .ref 23, .ref 24]), .inr (0, [.ref 2, .ref 3, .ref 4, .ref 5, .ref 6]), .inl (.int, 256, .inl (x_fill (fun _ => 0) (-1) 256)), zi 256, zi 4, zi 96, zi 4, .inr (0, [.ref 8, .ref 9, .ref 10, .ref 11, .ref 12]), .inl (.int, 256, .inl (x_fill (fun _ => 0) (-1) 256)), zi 256, zi 4, zi 96, zi 4, .inl (.int, 8, .inl (x_idn 8)), .inr (1, [.ref 15, .ref 16, .ref 17, .ref 18, .ref 19, .ref 20, .int 0, .int 0, .int 2147483647, .long 0, .int 0]), zi 2304, zi 2304, zi 31, zi 48, zi 10, zi 10, .inr (2, [.ref 22]), zl 24, zi 24, zi 24, .inr (4, [.ref 26, .ref 27, .ref 28, .int 0, .int 0, .ref 29, .ref 30, .int 0, .ref 31, .ref 32, .ref 33, .int 0, .ref 34, .ref 35, .ref 36]), zb 512, zi 512, .inl (.int, 8, .inl (x_idn 8)), zl 2304, zl 2304, zl 48, zi 24, zi 24, zi 24, zi 24, zi 24] → ∀ (d t : Nat), t + d = 8 → mc_J p l e kri_4 s m args below meth c (MQ below (mc_Post D ρ κ b [.inr (3, [.ref 1, .ref 7, .ref 13, .ref 14, .ref 21, .ref 23, .ref 24]), .inr (0, [.ref 2, .ref 3, .ref 4, .ref 5, .ref 6]), .inl (.int, 256, .inl (x_fill (fun _ => 0) (-1) 256)), zi 256, zi 4, zi 96, zi 4, .inr (0, [.ref 8, .ref 9, .ref 10, .ref 11, .ref 12]), .inl (.int, 256, .inl (x_fill (fun _ => 0) (-1) 256)), zi 256, zi 4, zi 96, zi 4, .inl (.int, 8, .inl (x_idn 8)), .inr (1, [.ref 15, .ref 16, .ref 17, .ref 18, .ref 19, .ref 20, .int 0, .int 0, .int 2147483647, .long 0, .int 0]), zi 2304, zi 2304, zi 31, zi 48, zi 10, zi 10, .inr (2, [.ref 22]), zl 24, zi 24, zi 24, .inr (4, [.null, .null, .null, .int 0, .int 0, .null, .null, .int 0, .null, .null, .null, .int 0, .null, .null, .null])] [.inr (3, [.ref 1, .ref 7, .ref 13, .ref 14, .ref 21, .ref 23, .ref 24]), .inr (0, [.ref 2, .ref 3, .ref 4, .ref 5, .ref 6]), .inl (.int, 256, .inl (x_fill (fun _ => 0) (-1) 256)), zi 256, zi 4, zi 96, zi 4, .inr (0, [.ref 8, .ref 9, .ref 10, .ref 11, .ref 12]), .inl (.int, 256, .inl (x_fill (fun _ => 0) (-1) 256)), zi 256, zi 4, zi 96, zi 4, .inl (.int, 8, .inl (x_idn 8)), .inr (1, [.ref 15, .ref 16, .ref 17, .ref 18, .ref 19, .ref 20, .int 0, .int 0, .int 2147483647, .long 0, .int 0]), zi 2304, zi 2304, zi 31, zi 48, zi 10, zi 10, .inr (2, [.ref 22]), zl 24, zi 24, zi 24, .inr (4, [.ref 26, .ref 27, .ref 28, .int 0, .int 0, .ref 29, .ref 30, .int 0, .ref 31, .ref 32, .ref 33, .int 0, .ref 34, .ref 35, .ref 36]), zb 512, zi 512, .inl (.int, 8, .inl (x_idn 8)), zl 2304, zl 2304, zl 48, zi 24, zi 24, zi 24, zi 24, zi 24] s.heap.size) args s 11 5808 (va_A (mm_rep ρ κ b [.inr (3, [.ref 1, .ref 7, .ref 13, .ref 14, .ref 21, .ref 23, .ref 24]), .inr (0, [.ref 2, .ref 3, .ref 4, .ref 5, .ref 6]), .inl (.int, 256, .inl (x_fill (fun _ => 0) (-1) 256)), zi 256, zi 4, zi 96, zi 4, .inr (0, [.ref 8, .ref 9, .ref 10, .ref 11, .ref 12]), .inl (.int, 256, .inl (x_fill (fun _ => 0) (-1) 256)), zi 256, zi 4, zi 96, zi 4, .inl (.int, 8, .inl (x_idn 8)), .inr (1, [.ref 15, .ref 16, .ref 17, .ref 18, .ref 19, .ref 20, .int 0, .int 0, .int 2147483647, .long 0, .int 0]), zi 2304, zi 2304, zi 31, zi 48, zi 10, zi 10, .inr (2, [.ref 22]), zl 24, zi 24, zi 24, .inr (4, [.null, .null, .null, .int 0, .int 0, .null, .null, .int 0, .null, .null, .null, .int 0, .null, .null, .null])]) s.heap.size)) D A b 2 (List.length (α := mm_C) [.inr (3, [.ref 1, .ref 7, .ref 13, .ref 14, .ref 21, .ref 23, .ref 24]), .inr (0, [.ref 2, .ref 3, .ref 4, .ref 5, .ref 6]), .inl (.int, 256, .inl (x_fill (fun _ => 0) (-1) 256)), zi 256, zi 4, zi 96, zi 4, .inr (0, [.ref 8, .ref 9, .ref 10, .ref 11, .ref 12]), .inl (.int, 256, .inl (x_fill (fun _ => 0) (-1) 256)), zi 256, zi 4, zi 96, zi 4, .inl (.int, 8, .inl (x_idn 8)), .inr (1, [.ref 15, .ref 16, .ref 17, .ref 18, .ref 19, .ref 20, .int 0, .int 0, .int 2147483647, .long 0, .int 0]), zi 2304, zi 2304, zi 31, zi 48, zi 10, zi 10, .inr (2, [.ref 22]), zl 24, zi 24, zi 24, .inr (4, [.null, .null, .null, .int 0, .int 0, .null, .null, .int 0, .null, .null, .null, .int 0, .null, .null, .null])]) ρ κ cells slots 98 [some (.ref 25), some (.int (nI t))] [] ((fun t : Nat => ([.inr (3, [.ref 1, .ref 7, .ref 13, .ref 14, .ref 21, .ref 23, .ref 24]), .inr (0, [.ref 2, .ref 3, .ref 4, .ref 5, .ref 6]), .inl (.int, 256, .inl (x_fill (fun _ => 0) (-1) 256)), zi 256, zi 4, zi 96, zi 4, .inr (0, [.ref 8, .ref 9, .ref 10, .ref 11, .ref 12]), .inl (.int, 256, .inl (x_fill (fun _ => 0) (-1) 256)), zi 256, zi 4, zi 96, zi 4, .inl (.int, 8, .inl (x_idn 8)), .inr (1, [.ref 15, .ref 16, .ref 17, .ref 18, .ref 19, .ref 20, .int 0, .int 0, .int 2147483647, .long 0, .int 0]), zi 2304, zi 2304, zi 31, zi 48, zi 10, zi 10, .inr (2, [.ref 22]), zl 24, zi 24, zi 24, .inr (4, [.ref 26, .ref 27, .ref 28, .int 0, .int 0, .ref 29, .ref 30, .int 0, .ref 31, .ref 32, .ref 33, .int 0, .ref 34, .ref 35, .ref 36]), zb 512, zi 512, .inl (.int, 8, .inl (x_idn t)), zl 2304, zl 2304, zl 48, zi 24, zi 24, zi 24, zi 24, zi 24] : mm_H)) t) := by
    intro cells slots after d
    induction d with
    | zero =>
      intro t ht
      have : t = 8 := by omega
      subst this
      refine mc_step C rfl (fun _ => rfl) rfl ?_
      refine mc_step C rfl (fun _ => rfl) rfl ?_
      refine mc_step C rfl (fun _ => rfl) rfl ?_
      exact after
    | succ d ih =>
      intro t ht
      refine mc_step C rfl (fun _ => rfl) rfl ?_
      refine mc_step C rfl (fun _ => rfl) rfl ?_
      refine mc_step C rfl (fun _ => if_neg (nI_ge (a := t) (b := 8) (by omega) (by decide))) rfl ?_
      refine mc_step C rfl (fun _ => rfl) rfl ?_
      refine mc_step C rfl (fun _ => rfl) rfl ?_
      refine mc_step C rfl (fun _ => rfl) rfl ?_
      refine mc_step C rfl (fun _ => rfl) rfl ?_
      refine mc_step C rfl (fun _ => if_pos (mm_bd (by omega) (by decide))) rfl ?_
      refine mc_step C rfl (fun _ => rfl) rfl ?_
      refine mc_step C rfl (fun _ => rfl) rfl ?_
      have z := ih (t + 1) (by omega)
      rw [← nI_1] at z
      refine mc_eqh ?_ z
      show _ = (fun t : Nat => ([.inr (3, [.ref 1, .ref 7, .ref 13, .ref 14, .ref 21, .ref 23, .ref 24]), .inr (0, [.ref 2, .ref 3, .ref 4, .ref 5, .ref 6]), .inl (.int, 256, .inl (x_fill (fun _ => 0) (-1) 256)), zi 256, zi 4, zi 96, zi 4, .inr (0, [.ref 8, .ref 9, .ref 10, .ref 11, .ref 12]), .inl (.int, 256, .inl (x_fill (fun _ => 0) (-1) 256)), zi 256, zi 4, zi 96, zi 4, .inl (.int, 8, .inl (x_idn 8)), .inr (1, [.ref 15, .ref 16, .ref 17, .ref 18, .ref 19, .ref 20, .int 0, .int 0, .int 2147483647, .long 0, .int 0]), zi 2304, zi 2304, zi 31, zi 48, zi 10, zi 10, .inr (2, [.ref 22]), zl 24, zi 24, zi 24, .inr (4, [.ref 26, .ref 27, .ref 28, .int 0, .int 0, .ref 29, .ref 30, .int 0, .ref 31, .ref 32, .ref 33, .int 0, .ref 34, .ref 35, .ref 36]), zb 512, zi 512, .inl (.int, 8, .inl (x_idn t)), zl 2304, zl 2304, zl 48, zi 24, zi 24, zi 24, zi 24, zi 24] : mm_H)) (t + 1)
      simp only [← x_idn_s]
      rw [mm_cl (by omega)]
  refine loop _ _ ?_ 8 0 rfl
  exact mc_ret C rfl hr hlocks hA
end
section
/-! THE CLAIM OUT OF ONE WALK OF THE LAW'S BODY. Your part is whole_start (and what it stands on); all else here is the same for every law, but numbers. -/
def R_law : String := "HoleCounterLaw"
def lw_P (b : Addr) (xs : List Int32) (args : Array Value) (s : State) : Prop := args = #[.ref b] ∧ s.IntsAt b xs ∧ xs.length ≤ 5 ∧ (Jvm.Cond.and given_1 narrow_1).before args s = true
def lw_Q (_ : Array Value) (s : State) (o : Outcome) (t : State) : Prop := o = .returned (some (.int 1)) ∧ Framed s o t [] 37 11871
def lw_Z (below : List Frame) (a : Array Value) (s : State) : State → Prop := fun t => ∃ o, t.status = .running ∧ Ended t below o ∧ lw_Q a s o t
/-- the law's own end, with 1 on the stack, nothing written that was there before, its room as the claim has it -/
theorem lw_ret {p : Program} {l : Launch} {e : Env} {s : State} {m : MethodId} {below : List Frame} {meth : Method} {c : Code} {b : Nat} (hx : p.tables.exec = Jvm.exec) (hb : c.code = code) (hr : meth.sig.returnType = ret) (hlocks : meth.locks = false) {pc : Nat} {H : Heap} {ls : Array Slot} (hdg : decode code pc = .ok (.ireturn, 1)) : W p l e room_1 s m #[Value.ref b] below meth c H [] 37 11871 (lw_Z below #[Value.ref b] s) (F0 m pc ls [.int 1]) := by
  intro T hT X
  obtain ⟨fs, hret, hrun, hended, hW, hframe⟩ := X.leave (v := some (.int 1)) (hlocks := hlocks) (fun h => by rw [hr] at h; cases h)
  have hmeth' : T.vm.method? m = some meth := X.method'
  refine ⟨T.setFrames fs, ?_, .returned (some (.int 1)), hrun, hended, rfl, ⟨_, rfl⟩, hW, hframe⟩
  jvm_step X.here [X.here.top, hx, hb, hdg, hmeth', hr, ret, narrow_b1]
  (try refine ⟨rfl, ?_⟩); (try refine ⟨rfl, ?_⟩)
  first | (intro acts; rw [hret _ acts rfl rfl rfl]) | rw [hret _ _ rfl rfl rfl]
  exact Steps.refl _
/-- what holds at the law's entry: the machine, the code, the tables' words (any of lw_tbl by 'hts w (by decide +kernel)'), the script of L ints xs at the cell b, what the Statement gives of the start (any of its parts by flat_of_before) -/
def lw_At (p : Program) (s : State) (m : MethodId) (meth : Method) (c : Code) (b L : Nat) (xs : Nat → Int32) : Prop :=
  p.tables.exec = Jvm.exec ∧ c.code = code ∧ meth.sig.returnType = ret ∧ c.maxLocals = 4 ∧ s.vm.findClass R_law = some m.cls ∧ (∀ w ∈ lw_tbl, w.before #[Value.ref b] s = true) ∧ va_X b L xs s s.heap ∧ b < s.heap.size ∧ meth.locks = false ∧ (Jvm.Cond.and given_1 narrow_1).before #[Value.ref b] s = true
end
section
theorem mm_ret_z {ins : Jvm.ClassFile.Instr} {st : List Value} {v : Option Value} (h : mm_ret (some .boolean) ins st = some v) : ins = .ireturn ∧ ∃ x, st = [.int x] ∧ v = some (.int x) := by
  cases ins
  case ireturn =>
    refine ⟨rfl, ?_⟩
    cases st with
    | nil => exact nomatch (show (none : Option (Option Value)) = some v from h)
    | cons a t => cases a with
      | int x => cases t with
        | nil =>
          have h : (if vp_nar .boolean x = x then some (some (.int x)) else none) = some v := h
          split at h
          · cases h
            exact ⟨x, rfl, rfl⟩
          · cases h
        | cons b u => exact nomatch (show (none : Option (Option Value)) = some v from h)
      | _ => cases t <;> exact nomatch (show (none : Option (Option Value)) = some v from h)
  all_goals exact nomatch (show (none : Option (Option Value)) = some v from h)
/-- the cells behind both constructors -/
def k_h0 : mm_H := [.inr (3, [.ref 1, .ref 7, .ref 13, .ref 14, .ref 21, .ref 23, .ref 24]), .inr (0, [.ref 2, .ref 3, .ref 4, .ref 5, .ref 6]), .inl (.int, 256, .inl (x_fill (fun _ => 0) (-1) 256)), zi 256, zi 4, zi 96, zi 4, .inr (0, [.ref 8, .ref 9, .ref 10, .ref 11, .ref 12]), .inl (.int, 256, .inl (x_fill (fun _ => 0) (-1) 256)), zi 256, zi 4, zi 96, zi 4, .inl (.int, 8, .inl (x_idn 8)), .inr (1, [.ref 15, .ref 16, .ref 17, .ref 18, .ref 19, .ref 20, .int 0, .int 0, .int 2147483647, .long 0, .int 0]), zi 2304, zi 2304, zi 31, zi 48, zi 10, zi 10, .inr (2, [.ref 22]), zl 24, zi 24, zi 24, .inr (4, [.ref 26, .ref 27, .ref 28, .int 0, .int 0, .ref 29, .ref 30, .int 0, .ref 31, .ref 32, .ref 33, .int 0, .ref 34, .ref 35, .ref 36]), zb 512, zi 512, .inl (.int, 8, .inl (x_idn 8)), zl 2304, zl 2304, zl 48, zi 24, zi 24, zi 24, zi 24, zi 24]
set_option maxHeartbeats 4000000 in
set_option maxRecDepth 100000 in
/-- THE LAW, from its entry, out of a run of the small machine from the head of its loop -/
theorem whole_run {p : Program} {e : Env} {s : State} {m : MethodId} {below : List Frame} {meth : Method} {c : Code} (l : Launch) {b L : Nat} {xs : Nat → Int32} (C0 : lw_At p s m meth c b L xs) {h1 : mm_H} (hp : mm_E kM (some (L, xs)) 116 18 [some (.retAddr 0), some (.ref 0), some (.ref 25), some (.int 0)] [] k_h0 (some (.int 1), h1)) : W p l e room_1 s m #[Value.ref b] below meth c s.heap [] 0 0 (lw_Z below #[Value.ref b] s) (entryFrame m ([Value.ref b] : List Value).toArray 4) := by
  obtain ⟨hx, hb, hr, hml, hown, hts, hX, hbl, hlocks, hgv⟩ := id C0
  have hbA : ¬ (fun q : Nat => s.heap.size ≤ q) b := Nat.not_le.mpr hbl
  obtain ⟨c0, iS0, hKn0⟩ := u_known (C := kc0) (T := kf0) (N := 5) (n := 5) hts ki0 (hts (.instantiable kc0 5) (kG_in kinst0))
  obtain ⟨c1, iS1, hKn1⟩ := u_known (C := kc1) (T := kf1) (N := 11) (n := 11) hts ki1 (hts (.instantiable kc1 11) (kG_in kinst1))
  obtain ⟨c2, iS2, hKn2⟩ := u_known (C := kc2) (T := kf2) (N := 1) (n := 1) hts ki2 (hts (.instantiable kc2 1) (kG_in kinst2))
  obtain ⟨c3, iS3, hKn3⟩ := u_known (C := kc3) (T := kf3) (N := 7) (n := 7) hts ki3 (hts (.instantiable kc3 7) (kG_in kinst3))
  obtain ⟨c4, iS4, hKn4⟩ := u_known (C := kc4) (T := kf4) (N := 15) (n := 15) hts ki4 (hts (.instantiable kc4 15) (kG_in kinst4))
  obtain ⟨dC, dI, hKc⟩ : ∃ (dC : Nat → ClassId) (dI : Nat → Nat → Nat), ∀ (k : Nat) (q : vw_C), kl[k]? = some q → u_Kn s q.1 q.2.1 q.2.2 (dC k) (dI k) := by
    refine ⟨fun k => if k = 0 then c0 else if k = 1 then c1 else if k = 2 then c2 else if k = 3 then c3 else c4, fun k => if k = 0 then iS0 else if k = 1 then iS1 else if k = 2 then iS2 else if k = 3 then iS3 else iS4, ?_⟩
    intro k q hq
    match k, hq with
    | 0, hq => cases hq; exact hKn0
    | 1, hq => cases hq; exact hKn1
    | 2, hq => cases hq; exact hKn2
    | 3, hq => cases hq; exact hKn3
    | 4, hq => cases hq; exact hKn4
    | k + 5, hq => simp [kl] at hq
  have hK : va_K (dC, dI) kl [] s := ⟨hKc, fun k q h => by simp at h⟩
  have hNW : mm_nw kNW s := fun x hx => va_Nw.of rfl (hts _ (kNW_in x hx))
  have hT : ∀ w ∈ kG, w ∈ lw_tbl := fun w h => kG_in h
  have hown : s.vm.findClass "HoleCounterLaw" = some m.cls := hown
  have C : mc_C p room_1 s m #[Value.ref b] c (dC, dI) (fun q : Nat => s.heap.size ≤ q) 4 "HoleCounterLaw" code lw_tbl kq_116 := ⟨hx, hb, hml, hown, hts, hK, hNW, fun _ h => h, ko_law⟩
  have hl := lv_entry ([.ref b]) (n := 4) (Nat.le_of_ble_eq_true rfl)
  rw [lg_entry_eq]
  generalize (lg_sl ([.ref b]) ++ List.replicate (4 - (lg_sl ([.ref b])).length) Slot.unset).toArray = ls at hl ⊢
  have hl : lv_has ls 4 [(0, .ref b)] := hl
  have J : mc_J p l e room_1 s m #[Value.ref b] below meth c (lw_Z below #[Value.ref b] s) (dC, dI) (fun q : Nat => s.heap.size ≤ q) b 4 0 (fun _ => 0) (fun _ => 0) 0 0 0 [some (.retAddr 0), none, none, none] [] [] := by
    refine mc_new (ci := 3) (N := 7) (N1 := 0) (Cn := kc3) (T := kf3) (ty := kt3) (fs := [.null, .null, .null, .null, .null, .null, .null]) C rfl rfl (fun w h => hT w (kiG3 w h)) kto3 (hT _ kcl_HoleCounterLaw_7) (hT _ kinst3) (hT _ kini_HoleCounter) (by decide +kernel) (fun _ => rfl) rfl (by decide) (by decide) rfl rfl ?_
    refine mc_step C rfl (fun _ => rfl) rfl ?_
    refine mc_init (a := 0) (N1 := 1) (mc := 24) (ms := 6041) (ml := 2) (y := kyi3) (bytes := prog_1_method_1_code) (rm := kri_3) (h1 := [.inr (3, [.ref 1, .ref 7, .ref 13, .ref 14, .ref 21, .ref 23, .ref 24]), .inr (0, [.ref 2, .ref 3, .ref 4, .ref 5, .ref 6]), .inl (.int, 256, .inl (x_fill (fun _ => 0) (-1) 256)), zi 256, zi 4, zi 96, zi 4, .inr (0, [.ref 8, .ref 9, .ref 10, .ref 11, .ref 12]), .inl (.int, 256, .inl (x_fill (fun _ => 0) (-1) 256)), zi 256, zi 4, zi 96, zi 4, .inl (.int, 8, .inl (x_idn 8)), .inr (1, [.ref 15, .ref 16, .ref 17, .ref 18, .ref 19, .ref 20, .int 0, .int 0, .int 2147483647, .long 0, .int 0]), zi 2304, zi 2304, zi 31, zi 48, zi 10, zi 10, .inr (2, [.ref 22]), zl 24, zi 24, zi 24]) C rfl (c_hc l (dC, dI) b) (kG_N hT kwi3) (hT _ kini_HoleCounter) (hT _ kl_HoleCounterLaw_9) (hT _ ksi3) rfl ⟨by decide, by decide, by decide +kernel⟩ ⟨by decide, by decide⟩ rfl rfl (by decide) (by decide) rfl rfl rfl (by decide) ?_
    refine mc_step C rfl (fun _ => rfl) rfl ?_
    refine mc_new (ci := 4) (N := 15) (N1 := 25) (Cn := kc4) (T := kf4) (ty := kt4) (fs := [.null, .null, .null, .int 0, .int 0, .null, .null, .int 0, .null, .null, .null, .int 0, .null, .null, .null]) C rfl rfl (fun w h => hT w (kiG4 w h)) kto4 (hT _ kcl_HoleCounterLaw_10) (hT _ kinst4) (hT _ kini_HoleCounterModel) (by decide +kernel) (fun _ => rfl) rfl (by decide) (by decide) rfl rfl ?_
    refine mc_step C rfl (fun _ => rfl) rfl ?_
    refine mc_init (a := 25) (N1 := 26) (mc := 11) (ms := 5808) (ml := 2) (y := kyi4) (bytes := prog_6_method_1_code) (rm := kri_4) (h1 := [.inr (3, [.ref 1, .ref 7, .ref 13, .ref 14, .ref 21, .ref 23, .ref 24]), .inr (0, [.ref 2, .ref 3, .ref 4, .ref 5, .ref 6]), .inl (.int, 256, .inl (x_fill (fun _ => 0) (-1) 256)), zi 256, zi 4, zi 96, zi 4, .inr (0, [.ref 8, .ref 9, .ref 10, .ref 11, .ref 12]), .inl (.int, 256, .inl (x_fill (fun _ => 0) (-1) 256)), zi 256, zi 4, zi 96, zi 4, .inl (.int, 8, .inl (x_idn 8)), .inr (1, [.ref 15, .ref 16, .ref 17, .ref 18, .ref 19, .ref 20, .int 0, .int 0, .int 2147483647, .long 0, .int 0]), zi 2304, zi 2304, zi 31, zi 48, zi 10, zi 10, .inr (2, [.ref 22]), zl 24, zi 24, zi 24, .inr (4, [.ref 26, .ref 27, .ref 28, .int 0, .int 0, .ref 29, .ref 30, .int 0, .ref 31, .ref 32, .ref 33, .int 0, .ref 34, .ref 35, .ref 36]), zb 512, zi 512, .inl (.int, 8, .inl (x_idn 8)), zl 2304, zl 2304, zl 48, zi 24, zi 24, zi 24, zi 24, zi 24]) C rfl (c_mo l (dC, dI) b) (kG_N hT kwi4) (hT _ kini_HoleCounterModel) (hT _ kl_HoleCounterLaw_12) (hT _ ksi4) rfl ⟨by decide, by decide, by decide +kernel⟩ ⟨by decide, by decide⟩ rfl rfl (by decide) (by decide) rfl rfl rfl (by decide) ?_
    refine mc_step C rfl (fun _ => rfl) rfl ?_
    refine mc_step C rfl (fun _ => rfl) rfl ?_
    refine mc_step C rfl (fun _ => rfl) rfl ?_
    intro d1 d2 ρ κ H locs ls hag hN hA
    obtain ⟨n, hn⟩ := hp
    refine mm_W kM kY kWS kR kB kl 116 kNW l ko_all n (fun n' _ => mm_Met kM kY kWS kR kB kl 116 kNW l ko_all n') (scr := some (L, xs)) (A := fun q : Nat => s.heap.size ≤ q) (M := kq_116) hx hb hml hown hts hK hNW (fun _ h => h) ⟨d1, d2⟩ rfl ko_law (fun n f hf => by cases hf; exact ⟨hX, hbl, hbA⟩) ?_ 18 _ [] _ H locs ls hn hA
    intro pc nx tg ins st L2 H2 locs2 ls2 hc hret hA2
    obtain ⟨hd, -, -⟩ := mm_chk_sp hc
    have hret : mm_ret (some .boolean) ins st = some (some (.int 1)) := hret
    obtain ⟨rfl, x, rfl, ex⟩ := mm_ret_z hret
    cases ex
    refine va_forget (fun q hq => hA2.2.2.2.1.2.2 q hq) ?_
    refine W.widen (k := 37) (n := 11871) (by decide) (by decide) ?_
    exact lw_ret hx hb hr hlocks hd
  exact J (Nat.zero_le _) (Nat.zero_le _) (fun _ => 0) (fun _ => 0) s.heap [] ls (fun j hj => absurd hj (Nat.not_lt_zero j)) (Nat.le_refl _) ⟨fun k q h => by simp [mm_rep] at h, ⟨fun i j p q h => by simp [mm_rep] at h, fun k q h => by simp [mm_rep] at h⟩, fun i ty a h => by simp at h, va_S.rf, ⟨hl.1, rfl, hl.2.1, fun i v hi => by
    match i, hi with
    | 0, hi => cases hi; exact hl.2.2 (0, .ref b) List.mem_cons_self
    | 1, hi => cases hi
    | 2, hi => cases hi
    | 3, hi => cases hi
    | i + 4, hi => simp at hi⟩⟩
end
section
/-- a loop: t rounds are done -/
theorem mm_E.loop {G : List mm_M} {scr : mm_X} {k pc : Nat} {res : Option Value × mm_H} (L : Nat → mm_L) (h : Nat → mm_H) (n : Nat) (hend : mm_E G scr k pc (L n) [] (h n) res) (hs : ∀ t, t < n → mm_E G scr k pc (L (t + 1)) [] (h (t + 1)) res → mm_E G scr k pc (L t) [] (h t) res) : mm_E G scr k pc (L 0) [] (h 0) res := by
  have key : ∀ d, d ≤ n → mm_E G scr k pc (L (n - d)) [] (h (n - d)) res := by
    intro d
    induction d with
    | zero => intro _; exact hend
    | succ d ih =>
      intro hd
      have z := ih (by omega)
      have e : n - d = n - (d + 1) + 1 := by omega
      rw [e] at z
      exact hs _ (by omega) z
  have z := key n (Nat.le_refl n)
  rw [Nat.sub_self] at z
  exact z
theorem mm_E.ti {G : List mm_M} {scr : mm_X} {k pc : Nat} {L : mm_L} {r : List Value} {h : mm_H} {res : Option Value × mm_H} {x : Int32} (y : Int32) (e : x = y) (he : mm_E G scr k pc L (.int y :: r) h res) : mm_E G scr k pc L (.int x :: r) h res := by rw [e]; exact he
theorem mm_E.lc {G : List mm_M} {scr : mm_X} {k pc : Nat} {L : mm_L} {st : List Value} {h : mm_H} {res : Option Value × mm_H} (L' : mm_L) (e : L = L') (he : mm_E G scr k pc L' st h res) : mm_E G scr k pc L st h res := by rw [e]; exact he
theorem x_ix (c s : Nat) : (Int16.ofInt 256).toInt32 * nI c + nI s = nI (256 * c + s) := by
  rw [show ((Int16.ofInt 256).toInt32 : Int32) = nI 256 from rfl, pk_mul, nI_add]
theorem x_c01 {c : Int32} (h : c = 0 ∨ c = 1) : ∃ n : Nat, n < 2 ∧ c = nI n := by
  rcases h with rfl | rfl
  · exact ⟨0, by decide, rfl⟩
  · exact ⟨1, by decide, rfl⟩
theorem x_isC1 {h : mm_H} {c : Int32} (hc : c = 0 ∨ c = 1) : mm_EC kM 66 [.int c] h (some (.int 1), h) := by
  refine ⟨kq_66, rfl, rfl, ?_⟩
  by_cases h0 : c = 0
  · skip
    refine mm_E.s rfl rfl rfl (fun _ => rfl) ?_
    refine mm_E.s rfl rfl rfl (fun _ => if_pos h0) ?_
    refine mm_E.s rfl rfl rfl (fun _ => rfl) ?_
    refine mm_E.s rfl rfl rfl (fun _ => rfl) ?_
    exact mm_E.ret rfl rfl rfl
  · have h1 : c = 1 := hc.resolve_left h0
    refine mm_E.s rfl rfl rfl (fun _ => rfl) ?_
    refine mm_E.s rfl rfl rfl (fun _ => if_neg h0) ?_
    refine mm_E.s rfl rfl rfl (fun _ => rfl) ?_
    refine mm_E.s rfl rfl rfl (fun _ => rfl) ?_
    refine mm_E.s rfl rfl rfl (fun _ => if_pos h1) ?_
    refine mm_E.s rfl rfl rfl (fun _ => rfl) ?_
    refine mm_E.s rfl rfl rfl (fun _ => rfl) ?_
    exact mm_E.ret rfl rfl rfl
theorem x_isC0 {h : mm_H} {c : Int32} (hc : ¬ (c = 0 ∨ c = 1)) : mm_EC kM 66 [.int c] h (some (.int 0), h) := by
  refine ⟨kq_66, rfl, rfl, ?_⟩
  have h0 : ¬ c = 0 := fun q => hc (Or.inl q)
  have h1 : ¬ c = 1 := fun q => hc (Or.inr q)
  refine mm_E.s rfl rfl rfl (fun _ => rfl) ?_
  refine mm_E.s rfl rfl rfl (fun _ => if_neg h0) ?_
  refine mm_E.s rfl rfl rfl (fun _ => rfl) ?_
  refine mm_E.s rfl rfl rfl (fun _ => rfl) ?_
  refine mm_E.s rfl rfl rfl (fun _ => if_neg h1) ?_
  refine mm_E.s rfl rfl rfl (fun _ => rfl) ?_
  exact mm_E.ret rfl rfl rfl

theorem x_isD1 {h : mm_H} {k : Int32} (h0 : ¬ k < 0) (h3 : ¬ 3 < k) : mm_EC kM 67 [.int k] h (some (.int 1), h) := by
  refine ⟨kq_67, rfl, rfl, ?_⟩
  refine mm_E.s rfl rfl rfl (fun _ => rfl) ?_
  refine mm_E.s rfl rfl rfl (fun _ => if_neg h0) ?_
  refine mm_E.s rfl rfl rfl (fun _ => rfl) ?_
  refine mm_E.s rfl rfl rfl (fun _ => rfl) ?_
  refine mm_E.s rfl rfl rfl (fun _ => if_neg h3) ?_
  refine mm_E.s rfl rfl rfl (fun _ => rfl) ?_
  refine mm_E.s rfl rfl rfl (fun _ => rfl) ?_
  exact mm_E.ret rfl rfl rfl
theorem x_isD0 {h : mm_H} {k : Int32} (hk : k < 0 ∨ 3 < k) : mm_EC kM 67 [.int k] h (some (.int 0), h) := by
  refine ⟨kq_67, rfl, rfl, ?_⟩
  by_cases h0 : k < 0
  · skip
    refine mm_E.s rfl rfl rfl (fun _ => rfl) ?_
    refine mm_E.s rfl rfl rfl (fun _ => if_pos h0) ?_
    refine mm_E.s rfl rfl rfl (fun _ => rfl) ?_
    exact mm_E.ret rfl rfl rfl
  · have h3 : 3 < k := hk.resolve_left h0
    refine mm_E.s rfl rfl rfl (fun _ => rfl) ?_
    refine mm_E.s rfl rfl rfl (fun _ => if_neg h0) ?_
    refine mm_E.s rfl rfl rfl (fun _ => rfl) ?_
    refine mm_E.s rfl rfl rfl (fun _ => rfl) ?_
    refine mm_E.s rfl rfl rfl (fun _ => if_pos h3) ?_
    refine mm_E.s rfl rfl rfl (fun _ => rfl) ?_
    exact mm_E.ret rfl rfl rfl

def x_mo (ro co di tr : Int32) : mm_C := .inr (4, [.ref 26, .ref 27, .ref 28, .int ro, .int co, .ref 29, .ref 30, .int di, .ref 31, .ref 32, .ref 33, .int tr, .ref 34, .ref 35, .ref 36])
abbrev x_ha (has : Nat → Int32) : mm_C := .inl (.boolean, 512, .inl has)
/-- nothing is there -/
abbrev x_no (has : Nat → Int32) : Prop := ∀ j, j < 512 → has j = 0
theorem x_many0 {h : mm_H} {ro co di tr : Int32} {has : Nat → Int32} (hO : mm_nth h 25 = some (x_mo ro co di tr)) (hH : mm_nth h 26 = some (x_ha has)) (hz : x_no has) {c : Nat} (hc : c < 2) (k : Int32) : mm_EC kM 69 [.ref 25, .int (nI c), .int k] h (some (.int 0), h) := by
  refine ⟨kq_69, rfl, rfl, ?_⟩
  refine mm_E.s rfl rfl rfl (fun _ => rfl) ?_
  refine mm_E.s rfl rfl rfl (fun _ => rfl) ?_
  refine mm_E.s rfl rfl rfl (fun _ => rfl) ?_
  refine mm_E.s rfl rfl rfl (fun _ => rfl) ?_
  refine mm_E.loop (fun t => [some (.ref 25), some (.int (nI c)), some (.int k), some (.int 0), some (.int (nI (t + 1)))]) (fun _ => h) 255 ?_ ?_
  · skip
    refine mm_E.s rfl rfl rfl (fun _ => rfl) ?_
    refine mm_E.s rfl rfl rfl (fun _ => rfl) ?_
    refine mm_E.s rfl rfl rfl (fun _ => rfl) ?_
    refine mm_E.s rfl rfl rfl (fun _ => rfl) ?_
    exact mm_E.ret rfl rfl rfl
  · intro t ht ih
    refine mm_E.s rfl rfl rfl (fun _ => rfl) ?_
    refine mm_E.s rfl rfl rfl (fun _ => rfl) ?_
    refine mm_E.s rfl rfl rfl (fun _ => if_neg (nI_ge (a := t + 1) (b := 256) (by omega) (by decide))) ?_
    refine mm_E.s rfl rfl rfl (fun _ => rfl) ?_
    refine mm_E.gf rfl rfl rfl hO rfl ?_
    refine mm_E.s rfl rfl rfl (fun _ => rfl) ?_
    refine mm_E.s rfl rfl rfl (fun _ => rfl) ?_
    refine mm_E.s rfl rfl rfl (fun _ => rfl) ?_
    refine mm_E.s rfl rfl rfl (fun _ => rfl) ?_
    refine mm_E.s rfl rfl rfl (fun _ => rfl) ?_
    refine mm_E.ti _ (x_ix c (t + 1)) ?_
    refine mm_E.za rfl rfl hH (mm_bd (by omega) (by decide)) (v := 0) (by rw [mm_cl (by omega)]; exact hz _ (by omega)) ?_
    refine mm_E.s rfl rfl rfl (fun _ => rfl) ?_
    refine mm_E.s rfl rfl rfl (fun _ => rfl) ?_
    refine mm_E.s rfl rfl rfl (fun _ => rfl) ?_
    refine mm_E.s rfl rfl rfl (fun _ => rfl) ?_
    refine mm_E.s rfl rfl rfl (fun _ => rfl) ?_
    rw [← nI_1] at ih
    exact ih

theorem x_at0 {h : mm_H} {ro co di tr : Int32} {has : Nat → Int32} (hO : mm_nth h 25 = some (x_mo ro co di tr)) (hH : mm_nth h 26 = some (x_ha has)) (hz : x_no has) {c : Nat} (hc : c < 2) (k i : Int32) : mm_EC kM 70 [.ref 25, .int (nI c), .int k, .int i] h (some (.int 0), h) := by
  refine ⟨kq_70, rfl, rfl, ?_⟩
  refine mm_E.s rfl rfl rfl (fun _ => rfl) ?_
  refine mm_E.s rfl rfl rfl (fun _ => rfl) ?_
  refine mm_E.s rfl rfl rfl (fun _ => rfl) ?_
  refine mm_E.s rfl rfl rfl (fun _ => rfl) ?_
  refine mm_E.loop (fun t => [some (.ref 25), some (.int (nI c)), some (.int k), some (.int i), some (.int i), some (.int (nI (t + 1)))]) (fun _ => h) 255 ?_ ?_
  · skip
    refine mm_E.s rfl rfl rfl (fun _ => rfl) ?_
    refine mm_E.s rfl rfl rfl (fun _ => rfl) ?_
    refine mm_E.s rfl rfl rfl (fun _ => rfl) ?_
    refine mm_E.s rfl rfl rfl (fun _ => rfl) ?_
    exact mm_E.ret rfl rfl rfl
  · intro t ht ih
    refine mm_E.s rfl rfl rfl (fun _ => rfl) ?_
    refine mm_E.s rfl rfl rfl (fun _ => rfl) ?_
    refine mm_E.s rfl rfl rfl (fun _ => if_neg (nI_ge (a := t + 1) (b := 256) (by omega) (by decide))) ?_
    refine mm_E.s rfl rfl rfl (fun _ => rfl) ?_
    refine mm_E.gf rfl rfl rfl hO rfl ?_
    refine mm_E.s rfl rfl rfl (fun _ => rfl) ?_
    refine mm_E.s rfl rfl rfl (fun _ => rfl) ?_
    refine mm_E.s rfl rfl rfl (fun _ => rfl) ?_
    refine mm_E.s rfl rfl rfl (fun _ => rfl) ?_
    refine mm_E.s rfl rfl rfl (fun _ => rfl) ?_
    refine mm_E.ti _ (x_ix c (t + 1)) ?_
    refine mm_E.za rfl rfl hH (mm_bd (by omega) (by decide)) (v := 0) (by rw [mm_cl (by omega)]; exact hz _ (by omega)) ?_
    refine mm_E.s rfl rfl rfl (fun _ => rfl) ?_
    refine mm_E.s rfl rfl rfl (fun _ => rfl) ?_
    refine mm_E.s rfl rfl rfl (fun _ => rfl) ?_
    rw [← nI_1] at ih
    exact ih

theorem x_isCy0 {h : mm_H} {ro co di tr : Int32} {has : Nat → Int32} (hO : mm_nth h 25 = some (x_mo ro co di tr)) (hH : mm_nth h 26 = some (x_ha has)) (hz : x_no has) {c : Nat} (hc : c < 2) (k : Int32) : mm_EC kM 99 [.ref 25, .int (nI c), .int k] h (some (.int 1), h) := by
  refine ⟨kq_99, rfl, rfl, ?_⟩
  refine mm_E.s rfl rfl rfl (fun _ => rfl) ?_
  refine mm_E.s rfl rfl rfl (fun _ => rfl) ?_
  refine mm_E.loop (fun t => [some (.ref 25), some (.int (nI c)), some (.int k), some (.int (nI (t + 1)))]) (fun _ => h) 255 ?_ ?_
  · skip
    refine mm_E.s rfl rfl rfl (fun _ => rfl) ?_
    refine mm_E.s rfl rfl rfl (fun _ => rfl) ?_
    refine mm_E.s rfl rfl rfl (fun _ => rfl) ?_
    refine mm_E.s rfl rfl rfl (fun _ => rfl) ?_
    exact mm_E.ret rfl rfl rfl
  · intro t ht ih
    refine mm_E.s rfl rfl rfl (fun _ => rfl) ?_
    refine mm_E.s rfl rfl rfl (fun _ => rfl) ?_
    refine mm_E.s rfl rfl rfl (fun _ => if_neg (nI_ge (a := t + 1) (b := 256) (by omega) (by decide))) ?_
    refine mm_E.s rfl rfl rfl (fun _ => rfl) ?_
    refine mm_E.gf rfl rfl rfl hO rfl ?_
    refine mm_E.s rfl rfl rfl (fun _ => rfl) ?_
    refine mm_E.s rfl rfl rfl (fun _ => rfl) ?_
    refine mm_E.s rfl rfl rfl (fun _ => rfl) ?_
    refine mm_E.s rfl rfl rfl (fun _ => rfl) ?_
    refine mm_E.s rfl rfl rfl (fun _ => rfl) ?_
    refine mm_E.ti _ (x_ix c (t + 1)) ?_
    refine mm_E.za rfl rfl hH (mm_bd (by omega) (by decide)) (v := 0) (by rw [mm_cl (by omega)]; exact hz _ (by omega)) ?_
    refine mm_E.s rfl rfl rfl (fun _ => rfl) ?_
    refine mm_E.s rfl rfl rfl (fun _ => rfl) ?_
    refine mm_E.s rfl rfl rfl (fun _ => rfl) ?_
    rw [← nI_1] at ih
    exact ih

theorem x_simp0 {h : mm_H} {ro co di tr : Int32} {has : Nat → Int32} (hO : mm_nth h 25 = some (x_mo ro co di tr)) (hH : mm_nth h 26 = some (x_ha has)) (hz : x_no has) : mm_EC kM 104 [.ref 25] h (some (.int 1), h) := by
  refine ⟨kq_104, rfl, rfl, ?_⟩
  refine mm_E.s rfl rfl rfl (fun _ => rfl) ?_
  refine mm_E.s rfl rfl rfl (fun _ => rfl) ?_
  refine mm_E.loop (fun t => [some (.ref 25), some (.int (nI (t + 1)))]) (fun _ => h) 255 ?_ ?_
  · skip
    refine mm_E.s rfl rfl rfl (fun _ => rfl) ?_
    refine mm_E.s rfl rfl rfl (fun _ => rfl) ?_
    refine mm_E.s rfl rfl rfl (fun _ => rfl) ?_
    refine mm_E.s rfl rfl rfl (fun _ => rfl) ?_
    exact mm_E.ret rfl rfl rfl
  · intro t ht ih
    refine mm_E.s rfl rfl rfl (fun _ => rfl) ?_
    refine mm_E.s rfl rfl rfl (fun _ => rfl) ?_
    refine mm_E.s rfl rfl rfl (fun _ => if_neg (nI_ge (a := t + 1) (b := 256) (by omega) (by decide))) ?_
    refine mm_E.s rfl rfl rfl (fun _ => rfl) ?_
    refine mm_E.gf rfl rfl rfl hO rfl ?_
    refine mm_E.s rfl rfl rfl (fun _ => rfl) ?_
    refine mm_E.za rfl rfl hH (mm_bd (by omega) (by decide)) (v := 0) (by rw [mm_cl (by omega)]; exact hz _ (by omega)) ?_
    refine mm_E.s rfl rfl rfl (fun _ => rfl) ?_
    refine mm_E.s rfl rfl rfl (fun _ => rfl) ?_
    refine mm_E.s rfl rfl rfl (fun _ => rfl) ?_
    rw [← nI_1] at ih
    exact ih

theorem x_pb0 {h : mm_H} {ro co di tr : Int32} {has : Nat → Int32} (hO : mm_nth h 25 = some (x_mo ro co di tr)) (hH : mm_nth h 26 = some (x_ha has)) (hz : x_no has) {c : Nat} (hc : c < 2) (k r j : Int32) : mm_EC kM 79 [.ref 25, .int (nI c), .int k, .int r, .int j] h (none, h) := by
  refine ⟨kq_79, rfl, rfl, ?_⟩
  refine mm_E.s rfl rfl rfl (fun _ => rfl) ?_
  refine mm_E.s rfl rfl rfl (fun _ => rfl) ?_
  refine mm_E.s rfl rfl rfl (fun _ => rfl) ?_
  refine mm_E.s rfl rfl rfl (fun _ => rfl) ?_
  refine mm_E.loop (fun t => [some (.ref 25), some (.int (nI c)), some (.int k), some (.int r), some (.int j), some (.int r), some (.int (nI (t + 1))), none, none]) (fun _ => h) 255 ?_ ?_
  · skip
    refine mm_E.s rfl rfl rfl (fun _ => rfl) ?_
    refine mm_E.s rfl rfl rfl (fun _ => rfl) ?_
    refine mm_E.s rfl rfl rfl (fun _ => rfl) ?_
    exact mm_E.ret rfl rfl rfl
  · intro t ht ih
    refine mm_E.s rfl rfl rfl (fun _ => rfl) ?_
    refine mm_E.s rfl rfl rfl (fun _ => rfl) ?_
    refine mm_E.s rfl rfl rfl (fun _ => if_neg (nI_ge (a := t + 1) (b := 256) (by omega) (by decide))) ?_
    refine mm_E.s rfl rfl rfl (fun _ => rfl) ?_
    refine mm_E.gf rfl rfl rfl hO rfl ?_
    refine mm_E.s rfl rfl rfl (fun _ => rfl) ?_
    refine mm_E.s rfl rfl rfl (fun _ => rfl) ?_
    refine mm_E.s rfl rfl rfl (fun _ => rfl) ?_
    refine mm_E.s rfl rfl rfl (fun _ => rfl) ?_
    refine mm_E.s rfl rfl rfl (fun _ => rfl) ?_
    refine mm_E.ti _ (x_ix c (t + 1)) ?_
    refine mm_E.za rfl rfl hH (mm_bd (by omega) (by decide)) (v := 0) (by rw [mm_cl (by omega)]; exact hz _ (by omega)) ?_
    refine mm_E.s rfl rfl rfl (fun _ => rfl) ?_
    refine mm_E.s rfl rfl rfl (fun _ => rfl) ?_
    refine mm_E.s rfl rfl rfl (fun _ => rfl) ?_
    rw [← nI_1] at ih
    exact ih

theorem x_pm0 {h : mm_H} {ro co di tr : Int32} {has : Nat → Int32} (hO : mm_nth h 25 = some (x_mo ro co di tr)) (hH : mm_nth h 26 = some (x_ha has)) (hz : x_no has) (k r : Int32) : mm_EC kM 107 [.ref 25, .int k, .int r] h (none, h) := by
  refine ⟨kq_107, rfl, rfl, ?_⟩
  refine mm_E.s rfl rfl rfl (fun _ => rfl) ?_
  refine mm_E.s rfl rfl rfl (fun _ => rfl) ?_
  refine mm_E.s rfl rfl rfl (fun _ => rfl) ?_
  refine mm_E.s rfl rfl rfl (fun _ => rfl) ?_
  refine mm_E.loop (fun t => [some (.ref 25), some (.int k), some (.int r), some (.int r), some (.int (nI (t + 1))), none, none]) (fun _ => h) 255 ?_ ?_
  · skip
    refine mm_E.s rfl rfl rfl (fun _ => rfl) ?_
    refine mm_E.s rfl rfl rfl (fun _ => rfl) ?_
    refine mm_E.s rfl rfl rfl (fun _ => rfl) ?_
    exact mm_E.ret rfl rfl rfl
  · intro t ht ih
    refine mm_E.s rfl rfl rfl (fun _ => rfl) ?_
    refine mm_E.s rfl rfl rfl (fun _ => rfl) ?_
    refine mm_E.s rfl rfl rfl (fun _ => if_neg (nI_ge (a := t + 1) (b := 256) (by omega) (by decide))) ?_
    refine mm_E.s rfl rfl rfl (fun _ => rfl) ?_
    refine mm_E.gf rfl rfl rfl hO rfl ?_
    refine mm_E.s rfl rfl rfl (fun _ => rfl) ?_
    refine mm_E.s rfl rfl rfl (fun _ => rfl) ?_
    refine mm_E.s rfl rfl rfl (fun _ => rfl) ?_
    refine mm_E.ti _ (show (Int16.ofInt 256).toInt32 + nI (t + 1) = nI (256 + (t + 1)) by rw [show ((Int16.ofInt 256).toInt32 : Int32) = nI 256 from rfl, nI_add]) ?_
    refine mm_E.za rfl rfl hH (mm_bd (by omega) (by decide)) (v := 0) (by rw [mm_cl (by omega)]; exact hz _ (by omega)) ?_
    refine mm_E.s rfl rfl rfl (fun _ => rfl) ?_
    refine mm_E.s rfl rfl rfl (fun _ => rfl) ?_
    refine mm_E.s rfl rfl rfl (fun _ => rfl) ?_
    rw [← nI_1] at ih
    exact ih

theorem x_isS0 {h : mm_H} {ro co di tr : Int32} {has : Nat → Int32} (hO : mm_nth h 25 = some (x_mo ro co di tr)) (hH : mm_nth h 26 = some (x_ha has)) (hz : x_no has) (c s : Int32) : mm_EC kM 68 [.ref 25, .int c, .int s] h (some (.int 0), h) := by
  refine ⟨kq_68, rfl, rfl, ?_⟩
  by_cases hc : c = 0 ∨ c = 1
  · by_cases h1 : s < 1
    · skip
      refine mm_E.s rfl rfl rfl (fun _ => rfl) ?_
      refine mm_E.ic rfl rfl rfl rfl rfl (x_isC1 hc) ?_
      refine mm_E.s rfl rfl rfl (fun _ => rfl) ?_
      refine mm_E.s rfl rfl rfl (fun _ => rfl) ?_
      refine mm_E.s rfl rfl rfl (fun _ => rfl) ?_
      refine mm_E.s rfl rfl rfl (fun _ => if_pos h1) ?_
      refine mm_E.s rfl rfl rfl (fun _ => rfl) ?_
      exact mm_E.ret rfl rfl rfl
    · by_cases h2 : 255 < s
      · skip
        refine mm_E.s rfl rfl rfl (fun _ => rfl) ?_
        refine mm_E.ic rfl rfl rfl rfl rfl (x_isC1 hc) ?_
        refine mm_E.s rfl rfl rfl (fun _ => rfl) ?_
        refine mm_E.s rfl rfl rfl (fun _ => rfl) ?_
        refine mm_E.s rfl rfl rfl (fun _ => rfl) ?_
        refine mm_E.s rfl rfl rfl (fun _ => if_neg h1) ?_
        refine mm_E.s rfl rfl rfl (fun _ => rfl) ?_
        refine mm_E.s rfl rfl rfl (fun _ => rfl) ?_
        refine mm_E.s rfl rfl rfl (fun _ => if_pos h2) ?_
        refine mm_E.s rfl rfl rfl (fun _ => rfl) ?_
        exact mm_E.ret rfl rfl rfl
      · obtain ⟨n, hn, rfl⟩ := x_c01 hc
        obtain ⟨j, hj, rfl⟩ := nI_of2 (x := s) (M := 255) (n := 255) rfl (fun q => h1 (Int32.lt_of_lt_of_le q (by decide))) (Int32.not_lt.mp h2)
        refine mm_E.s rfl rfl rfl (fun _ => rfl) ?_
        refine mm_E.ic rfl rfl rfl rfl rfl (x_isC1 hc) ?_
        refine mm_E.s rfl rfl rfl (fun _ => rfl) ?_
        refine mm_E.s rfl rfl rfl (fun _ => rfl) ?_
        refine mm_E.s rfl rfl rfl (fun _ => rfl) ?_
        refine mm_E.s rfl rfl rfl (fun _ => if_neg h1) ?_
        refine mm_E.s rfl rfl rfl (fun _ => rfl) ?_
        refine mm_E.s rfl rfl rfl (fun _ => rfl) ?_
        refine mm_E.s rfl rfl rfl (fun _ => if_neg h2) ?_
        refine mm_E.s rfl rfl rfl (fun _ => rfl) ?_
        refine mm_E.gf rfl rfl rfl hO rfl ?_
        refine mm_E.s rfl rfl rfl (fun _ => rfl) ?_
        refine mm_E.s rfl rfl rfl (fun _ => rfl) ?_
        refine mm_E.s rfl rfl rfl (fun _ => rfl) ?_
        refine mm_E.s rfl rfl rfl (fun _ => rfl) ?_
        refine mm_E.s rfl rfl rfl (fun _ => rfl) ?_
        refine mm_E.ti _ (x_ix n j) ?_
        refine mm_E.za rfl rfl hH (mm_bd (by omega) (by decide)) (v := 0) (by rw [mm_cl (by omega)]; exact hz _ (by omega)) ?_
        refine mm_E.s rfl rfl rfl (fun _ => rfl) ?_
        refine mm_E.s rfl rfl rfl (fun _ => rfl) ?_
        exact mm_E.ret rfl rfl rfl
  · skip
    refine mm_E.s rfl rfl rfl (fun _ => rfl) ?_
    refine mm_E.ic rfl rfl rfl rfl rfl (x_isC0 hc) ?_
    refine mm_E.s rfl rfl rfl (fun _ => rfl) ?_
    refine mm_E.s rfl rfl rfl (fun _ => rfl) ?_
    exact mm_E.ret rfl rfl rfl

theorem x_count0 {h : mm_H} {ro co di tr : Int32} {has : Nat → Int32} (hO : mm_nth h 25 = some (x_mo ro co di tr)) (hH : mm_nth h 26 = some (x_ha has)) (hz : x_no has) (c k : Int32) : mm_EC kM 74 [.ref 25, .int c, .int k] h (some (.int (if (c = 0 ∨ c = 1) ∧ ¬ k < 0 ∧ ¬ 3 < k then 0 else -1)), h) := by
  refine ⟨kq_74, rfl, rfl, ?_⟩
  by_cases hc : c = 0 ∨ c = 1
  · by_cases hk : k < 0 ∨ 3 < k
    · rw [if_neg (fun q => hk.elim q.2.1 q.2.2)]
      refine mm_E.s rfl rfl rfl (fun _ => rfl) ?_
      refine mm_E.ic rfl rfl rfl rfl rfl (x_isC1 hc) ?_
      refine mm_E.s rfl rfl rfl (fun _ => rfl) ?_
      refine mm_E.s rfl rfl rfl (fun _ => rfl) ?_
      refine mm_E.ic rfl rfl rfl rfl rfl (x_isD0 hk) ?_
      refine mm_E.s rfl rfl rfl (fun _ => rfl) ?_
      refine mm_E.s rfl rfl rfl (fun _ => rfl) ?_
      exact mm_E.ret rfl rfl rfl
    · have k0 : ¬ k < 0 := fun q => hk (Or.inl q)
      have k3 : ¬ 3 < k := fun q => hk (Or.inr q)
      rw [if_pos ⟨hc, k0, k3⟩]
      obtain ⟨n, hn, rfl⟩ := x_c01 hc
      refine mm_E.s rfl rfl rfl (fun _ => rfl) ?_
      refine mm_E.ic rfl rfl rfl rfl rfl (x_isC1 hc) ?_
      refine mm_E.s rfl rfl rfl (fun _ => rfl) ?_
      refine mm_E.s rfl rfl rfl (fun _ => rfl) ?_
      refine mm_E.ic rfl rfl rfl rfl rfl (x_isD1 k0 k3) ?_
      refine mm_E.s rfl rfl rfl (fun _ => rfl) ?_
      refine mm_E.s rfl rfl rfl (fun _ => rfl) ?_
      refine mm_E.s rfl rfl rfl (fun _ => rfl) ?_
      refine mm_E.s rfl rfl rfl (fun _ => rfl) ?_
      refine mm_E.iv rfl rfl rfl rfl hO rfl (x_many0 hO hH hz hn k) ?_
      refine mm_E.s rfl rfl rfl (fun _ => rfl) ?_
      exact mm_E.ret rfl rfl rfl
  · rw [if_neg (fun q => hc q.1)]
    refine mm_E.s rfl rfl rfl (fun _ => rfl) ?_
    refine mm_E.ic rfl rfl rfl rfl rfl (x_isC0 hc) ?_
    refine mm_E.s rfl rfl rfl (fun _ => rfl) ?_
    refine mm_E.s rfl rfl rfl (fun _ => rfl) ?_
    exact mm_E.ret rfl rfl rfl

theorem x_simplex0 {h : mm_H} {ro co di tr : Int32} {has : Nat → Int32} (hO : mm_nth h 25 = some (x_mo ro co di tr)) (hH : mm_nth h 26 = some (x_ha has)) (hz : x_no has) (c k i : Int32) : mm_EC kM 75 [.ref 25, .int c, .int k, .int i] h (some (.int (-1)), h) := by
  refine ⟨kq_75, rfl, rfl, ?_⟩
  by_cases hc : c = 0 ∨ c = 1
  · by_cases hk : k < 0 ∨ 3 < k
    · skip
      refine mm_E.s rfl rfl rfl (fun _ => rfl) ?_
      refine mm_E.ic rfl rfl rfl rfl rfl (x_isC1 hc) ?_
      refine mm_E.s rfl rfl rfl (fun _ => rfl) ?_
      refine mm_E.s rfl rfl rfl (fun _ => rfl) ?_
      refine mm_E.ic rfl rfl rfl rfl rfl (x_isD0 hk) ?_
      refine mm_E.s rfl rfl rfl (fun _ => rfl) ?_
      refine mm_E.s rfl rfl rfl (fun _ => rfl) ?_
      refine mm_E.s rfl rfl rfl (fun _ => rfl) ?_
      refine mm_E.s rfl rfl rfl (fun _ => rfl) ?_
      refine mm_E.s rfl rfl rfl (fun _ => rfl) ?_
      refine mm_E.s rfl rfl rfl (fun _ => rfl) ?_
      refine mm_E.s rfl rfl rfl (fun _ => rfl) ?_
      exact mm_E.ret rfl rfl rfl
    · have k0 : ¬ k < 0 := fun q => hk (Or.inl q)
      have k3 : ¬ 3 < k := fun q => hk (Or.inr q)
      by_cases hi : i < 0
      · skip
        refine mm_E.s rfl rfl rfl (fun _ => rfl) ?_
        refine mm_E.ic rfl rfl rfl rfl rfl (x_isC1 hc) ?_
        refine mm_E.s rfl rfl rfl (fun _ => rfl) ?_
        refine mm_E.s rfl rfl rfl (fun _ => rfl) ?_
        refine mm_E.ic rfl rfl rfl rfl rfl (x_isD1 k0 k3) ?_
        refine mm_E.s rfl rfl rfl (fun _ => rfl) ?_
        refine mm_E.s rfl rfl rfl (fun _ => rfl) ?_
        refine mm_E.s rfl rfl rfl (fun _ => if_pos hi) ?_
        refine mm_E.s rfl rfl rfl (fun _ => rfl) ?_
        refine mm_E.s rfl rfl rfl (fun _ => rfl) ?_
        refine mm_E.s rfl rfl rfl (fun _ => rfl) ?_
        refine mm_E.s rfl rfl rfl (fun _ => rfl) ?_
        refine mm_E.s rfl rfl rfl (fun _ => rfl) ?_
        refine mm_E.s rfl rfl rfl (fun _ => rfl) ?_
        exact mm_E.ret rfl rfl rfl
      · obtain ⟨n, hn, rfl⟩ := x_c01 hc
        refine mm_E.s rfl rfl rfl (fun _ => rfl) ?_
        refine mm_E.ic rfl rfl rfl rfl rfl (x_isC1 hc) ?_
        refine mm_E.s rfl rfl rfl (fun _ => rfl) ?_
        refine mm_E.s rfl rfl rfl (fun _ => rfl) ?_
        refine mm_E.ic rfl rfl rfl rfl rfl (x_isD1 k0 k3) ?_
        refine mm_E.s rfl rfl rfl (fun _ => rfl) ?_
        refine mm_E.s rfl rfl rfl (fun _ => rfl) ?_
        refine mm_E.s rfl rfl rfl (fun _ => if_neg hi) ?_
        refine mm_E.s rfl rfl rfl (fun _ => rfl) ?_
        refine mm_E.s rfl rfl rfl (fun _ => rfl) ?_
        refine mm_E.s rfl rfl rfl (fun _ => rfl) ?_
        refine mm_E.s rfl rfl rfl (fun _ => rfl) ?_
        refine mm_E.iv rfl rfl rfl rfl hO rfl (x_at0 hO hH hz hn k i) ?_
        refine mm_E.s rfl rfl rfl (fun _ => rfl) ?_
        refine mm_E.s rfl rfl rfl (fun _ => rfl) ?_
        refine mm_E.s rfl rfl rfl (fun _ => rfl) ?_
        refine mm_E.s rfl rfl rfl (fun _ => rfl) ?_
        refine mm_E.s rfl rfl rfl (fun _ => rfl) ?_
        refine mm_E.s rfl rfl rfl (fun _ => rfl) ?_
        exact mm_E.ret rfl rfl rfl
  · skip
    refine mm_E.s rfl rfl rfl (fun _ => rfl) ?_
    refine mm_E.ic rfl rfl rfl rfl rfl (x_isC0 hc) ?_
    refine mm_E.s rfl rfl rfl (fun _ => rfl) ?_
    refine mm_E.s rfl rfl rfl (fun _ => rfl) ?_
    refine mm_E.s rfl rfl rfl (fun _ => rfl) ?_
    refine mm_E.s rfl rfl rfl (fun _ => rfl) ?_
    refine mm_E.s rfl rfl rfl (fun _ => rfl) ?_
    refine mm_E.s rfl rfl rfl (fun _ => rfl) ?_
    refine mm_E.s rfl rfl rfl (fun _ => rfl) ?_
    exact mm_E.ret rfl rfl rfl

theorem x_sign00 {h : mm_H} : mm_EC kM 71 [.int 0, .int 0] h (some (.int 0), h) := by
  refine ⟨kq_71, rfl, rfl, ?_⟩
  refine mm_E.s rfl rfl rfl (fun _ => rfl) ?_
  refine mm_E.s rfl rfl rfl (fun _ => rfl) ?_
  refine mm_E.s rfl rfl rfl (fun _ => rfl) ?_
  refine mm_E.s rfl rfl rfl (fun _ => rfl) ?_
  refine mm_E.s rfl rfl rfl (fun _ => rfl) ?_
  refine mm_E.s rfl rfl rfl (fun _ => rfl) ?_
  refine mm_E.s rfl rfl rfl (fun _ => rfl) ?_
  refine mm_E.s rfl rfl rfl (fun _ => rfl) ?_
  refine mm_E.s rfl rfl rfl (fun _ => rfl) ?_
  exact mm_E.ret rfl rfl rfl

theorem x_inc0 {h : mm_H} {ro co di tr : Int32} {has : Nat → Int32} (hO : mm_nth h 25 = some (x_mo ro co di tr)) (hH : mm_nth h 26 = some (x_ha has)) (hz : x_no has) (c k i j : Int32) : mm_EC kM 76 [.ref 25, .int c, .int k, .int i, .int j] h (some (.int 0), h) := by
  refine ⟨kq_76, rfl, rfl, ?_⟩
  by_cases hc : c = 0 ∨ c = 1
  · by_cases h1 : k < 1
    · skip
      refine mm_E.s rfl rfl rfl (fun _ => rfl) ?_
      refine mm_E.ic rfl rfl rfl rfl rfl (x_isC1 hc) ?_
      refine mm_E.s rfl rfl rfl (fun _ => rfl) ?_
      refine mm_E.s rfl rfl rfl (fun _ => rfl) ?_
      refine mm_E.s rfl rfl rfl (fun _ => rfl) ?_
      refine mm_E.s rfl rfl rfl (fun _ => if_pos h1) ?_
      refine mm_E.s rfl rfl rfl (fun _ => rfl) ?_
      exact mm_E.ret rfl rfl rfl
    · by_cases h3 : 3 < k
      · skip
        refine mm_E.s rfl rfl rfl (fun _ => rfl) ?_
        refine mm_E.ic rfl rfl rfl rfl rfl (x_isC1 hc) ?_
        refine mm_E.s rfl rfl rfl (fun _ => rfl) ?_
        refine mm_E.s rfl rfl rfl (fun _ => rfl) ?_
        refine mm_E.s rfl rfl rfl (fun _ => rfl) ?_
        refine mm_E.s rfl rfl rfl (fun _ => if_neg h1) ?_
        refine mm_E.s rfl rfl rfl (fun _ => rfl) ?_
        refine mm_E.s rfl rfl rfl (fun _ => rfl) ?_
        refine mm_E.s rfl rfl rfl (fun _ => if_pos h3) ?_
        refine mm_E.s rfl rfl rfl (fun _ => rfl) ?_
        exact mm_E.ret rfl rfl rfl
      · by_cases hi : i < 0
        · skip
          refine mm_E.s rfl rfl rfl (fun _ => rfl) ?_
          refine mm_E.ic rfl rfl rfl rfl rfl (x_isC1 hc) ?_
          refine mm_E.s rfl rfl rfl (fun _ => rfl) ?_
          refine mm_E.s rfl rfl rfl (fun _ => rfl) ?_
          refine mm_E.s rfl rfl rfl (fun _ => rfl) ?_
          refine mm_E.s rfl rfl rfl (fun _ => if_neg h1) ?_
          refine mm_E.s rfl rfl rfl (fun _ => rfl) ?_
          refine mm_E.s rfl rfl rfl (fun _ => rfl) ?_
          refine mm_E.s rfl rfl rfl (fun _ => if_neg h3) ?_
          refine mm_E.s rfl rfl rfl (fun _ => rfl) ?_
          refine mm_E.s rfl rfl rfl (fun _ => if_pos hi) ?_
          refine mm_E.s rfl rfl rfl (fun _ => rfl) ?_
          exact mm_E.ret rfl rfl rfl
        · by_cases hj : 0 ≤ j
          · obtain ⟨n, hn, rfl⟩ := x_c01 hc
            refine mm_E.s rfl rfl rfl (fun _ => rfl) ?_
            refine mm_E.ic rfl rfl rfl rfl rfl (x_isC1 hc) ?_
            refine mm_E.s rfl rfl rfl (fun _ => rfl) ?_
            refine mm_E.s rfl rfl rfl (fun _ => rfl) ?_
            refine mm_E.s rfl rfl rfl (fun _ => rfl) ?_
            refine mm_E.s rfl rfl rfl (fun _ => if_neg h1) ?_
            refine mm_E.s rfl rfl rfl (fun _ => rfl) ?_
            refine mm_E.s rfl rfl rfl (fun _ => rfl) ?_
            refine mm_E.s rfl rfl rfl (fun _ => if_neg h3) ?_
            refine mm_E.s rfl rfl rfl (fun _ => rfl) ?_
            refine mm_E.s rfl rfl rfl (fun _ => if_neg hi) ?_
            refine mm_E.s rfl rfl rfl (fun _ => rfl) ?_
            refine mm_E.s rfl rfl rfl (fun _ => if_pos hj) ?_
            refine mm_E.s rfl rfl rfl (fun _ => rfl) ?_
            refine mm_E.s rfl rfl rfl (fun _ => rfl) ?_
            refine mm_E.s rfl rfl rfl (fun _ => rfl) ?_
            refine mm_E.s rfl rfl rfl (fun _ => rfl) ?_
            refine mm_E.iv rfl rfl rfl rfl hO rfl (x_at0 hO hH hz hn k j) ?_
            refine mm_E.s rfl rfl rfl (fun _ => rfl) ?_
            refine mm_E.s rfl rfl rfl (fun _ => rfl) ?_
            refine mm_E.s rfl rfl rfl (fun _ => rfl) ?_
            refine mm_E.s rfl rfl rfl (fun _ => rfl) ?_
            refine mm_E.s rfl rfl rfl (fun _ => rfl) ?_
            refine mm_E.s rfl rfl rfl (fun _ => rfl) ?_
            refine mm_E.iv rfl rfl rfl rfl hO rfl (x_at0 hO hH hz hn _ i) ?_
            refine mm_E.ic rfl rfl rfl rfl rfl x_sign00 ?_
            exact mm_E.ret rfl rfl rfl
          · skip
            refine mm_E.s rfl rfl rfl (fun _ => rfl) ?_
            refine mm_E.ic rfl rfl rfl rfl rfl (x_isC1 hc) ?_
            refine mm_E.s rfl rfl rfl (fun _ => rfl) ?_
            refine mm_E.s rfl rfl rfl (fun _ => rfl) ?_
            refine mm_E.s rfl rfl rfl (fun _ => rfl) ?_
            refine mm_E.s rfl rfl rfl (fun _ => if_neg h1) ?_
            refine mm_E.s rfl rfl rfl (fun _ => rfl) ?_
            refine mm_E.s rfl rfl rfl (fun _ => rfl) ?_
            refine mm_E.s rfl rfl rfl (fun _ => if_neg h3) ?_
            refine mm_E.s rfl rfl rfl (fun _ => rfl) ?_
            refine mm_E.s rfl rfl rfl (fun _ => if_neg hi) ?_
            refine mm_E.s rfl rfl rfl (fun _ => rfl) ?_
            refine mm_E.s rfl rfl rfl (fun _ => if_neg hj) ?_
            refine mm_E.s rfl rfl rfl (fun _ => rfl) ?_
            exact mm_E.ret rfl rfl rfl
  · skip
    refine mm_E.s rfl rfl rfl (fun _ => rfl) ?_
    refine mm_E.ic rfl rfl rfl rfl rfl (x_isC0 hc) ?_
    refine mm_E.s rfl rfl rfl (fun _ => rfl) ?_
    refine mm_E.s rfl rfl rfl (fun _ => rfl) ?_
    exact mm_E.ret rfl rfl rfl

theorem x_euler0 {h : mm_H} {ro co di tr : Int32} {has : Nat → Int32} (hO : mm_nth h 25 = some (x_mo ro co di tr)) (hH : mm_nth h 26 = some (x_ha has)) (hz : x_no has) (c : Int32) : mm_EC kM 77 [.ref 25, .int c] h (some (.int 0), h) := by
  refine ⟨kq_77, rfl, rfl, ?_⟩
  by_cases hc : c = 0 ∨ c = 1
  · obtain ⟨n, hn, rfl⟩ := x_c01 hc
    refine mm_E.s rfl rfl rfl (fun _ => rfl) ?_
    refine mm_E.ic rfl rfl rfl rfl rfl (x_isC1 hc) ?_
    refine mm_E.s rfl rfl rfl (fun _ => rfl) ?_
    refine mm_E.s rfl rfl rfl (fun _ => rfl) ?_
    refine mm_E.s rfl rfl rfl (fun _ => rfl) ?_
    refine mm_E.s rfl rfl rfl (fun _ => rfl) ?_
    refine mm_E.iv rfl rfl rfl rfl hO rfl (x_many0 hO hH hz hn _) ?_
    refine mm_E.s rfl rfl rfl (fun _ => rfl) ?_
    refine mm_E.s rfl rfl rfl (fun _ => rfl) ?_
    refine mm_E.s rfl rfl rfl (fun _ => rfl) ?_
    refine mm_E.iv rfl rfl rfl rfl hO rfl (x_many0 hO hH hz hn _) ?_
    refine mm_E.s rfl rfl rfl (fun _ => rfl) ?_
    refine mm_E.s rfl rfl rfl (fun _ => rfl) ?_
    refine mm_E.s rfl rfl rfl (fun _ => rfl) ?_
    refine mm_E.s rfl rfl rfl (fun _ => rfl) ?_
    refine mm_E.iv rfl rfl rfl rfl hO rfl (x_many0 hO hH hz hn _) ?_
    refine mm_E.s rfl rfl rfl (fun _ => rfl) ?_
    refine mm_E.s rfl rfl rfl (fun _ => rfl) ?_
    refine mm_E.s rfl rfl rfl (fun _ => rfl) ?_
    refine mm_E.s rfl rfl rfl (fun _ => rfl) ?_
    refine mm_E.iv rfl rfl rfl rfl hO rfl (x_many0 hO hH hz hn _) ?_
    refine mm_E.s rfl rfl rfl (fun _ => rfl) ?_
    refine mm_E.s rfl rfl rfl (fun _ => rfl) ?_
    exact mm_E.ret rfl rfl rfl
  · skip
    refine mm_E.s rfl rfl rfl (fun _ => rfl) ?_
    refine mm_E.ic rfl rfl rfl rfl rfl (x_isC0 hc) ?_
    refine mm_E.s rfl rfl rfl (fun _ => rfl) ?_
    refine mm_E.s rfl rfl rfl (fun _ => rfl) ?_
    exact mm_E.ret rfl rfl rfl

theorem x_put0 {h : mm_H} {ro co di tr : Int32} {has : Nat → Int32} (hO : mm_nth h 25 = some (x_mo ro co di tr)) (hH : mm_nth h 26 = some (x_ha has)) (hz : x_no has) (c s x : Int32) : mm_EC kM 96 [.ref 25, .int c, .int s, .int x] h (some (.int 0), h) := by
  refine ⟨kq_96, rfl, rfl, ?_⟩
  refine mm_E.s rfl rfl rfl (fun _ => rfl) ?_
  refine mm_E.s rfl rfl rfl (fun _ => rfl) ?_
  refine mm_E.s rfl rfl rfl (fun _ => rfl) ?_
  refine mm_E.iv rfl rfl rfl rfl hO rfl (x_isS0 hO hH hz c s) ?_
  refine mm_E.s rfl rfl rfl (fun _ => rfl) ?_
  refine mm_E.s rfl rfl rfl (fun _ => rfl) ?_
  exact mm_E.ret rfl rfl rfl

theorem x_get0 {h : mm_H} {ro co di tr : Int32} {has : Nat → Int32} (hO : mm_nth h 25 = some (x_mo ro co di tr)) (hH : mm_nth h 26 = some (x_ha has)) (hz : x_no has) (c s : Int32) : mm_EC kM 97 [.ref 25, .int c, .int s] h (some (.int 0), h) := by
  refine ⟨kq_97, rfl, rfl, ?_⟩
  refine mm_E.s rfl rfl rfl (fun _ => rfl) ?_
  refine mm_E.s rfl rfl rfl (fun _ => rfl) ?_
  refine mm_E.s rfl rfl rfl (fun _ => rfl) ?_
  refine mm_E.iv rfl rfl rfl rfl hO rfl (x_isS0 hO hH hz c s) ?_
  refine mm_E.s rfl rfl rfl (fun _ => rfl) ?_
  refine mm_E.s rfl rfl rfl (fun _ => rfl) ?_
  exact mm_E.ret rfl rfl rfl

theorem x_boundary0 {h : mm_H} {ro co di tr : Int32} {has : Nat → Int32} (hO : mm_nth h 25 = some (x_mo ro co di tr)) (hH : mm_nth h 26 = some (x_ha has)) (hz : x_no has) (c s : Int32) : mm_EC kM 98 [.ref 25, .int c, .int s] h (some (.int 0), h) := by
  refine ⟨kq_98, rfl, rfl, ?_⟩
  refine mm_E.s rfl rfl rfl (fun _ => rfl) ?_
  refine mm_E.s rfl rfl rfl (fun _ => rfl) ?_
  refine mm_E.s rfl rfl rfl (fun _ => rfl) ?_
  refine mm_E.s rfl rfl rfl (fun _ => rfl) ?_
  refine mm_E.s rfl rfl rfl (fun _ => rfl) ?_
  refine mm_E.iv rfl rfl rfl rfl hO rfl (x_isS0 hO hH hz c s) ?_
  refine mm_E.s rfl rfl rfl (fun _ => rfl) ?_
  refine mm_E.s rfl rfl rfl (fun _ => rfl) ?_
  exact mm_E.ret rfl rfl rfl

theorem x_image0 {h : mm_H} {ro co di tr : Int32} {has : Nat → Int32} (hO : mm_nth h 25 = some (x_mo ro co di tr)) (hH : mm_nth h 26 = some (x_ha has)) (hz : x_no has) (s : Int32) : mm_EC kM 106 [.ref 25, .int s] h (some (.int 0), h) := by
  refine ⟨kq_106, rfl, rfl, ?_⟩
  refine mm_E.s rfl rfl rfl (fun _ => rfl) ?_
  refine mm_E.s rfl rfl rfl (fun _ => rfl) ?_
  refine mm_E.s rfl rfl rfl (fun _ => rfl) ?_
  refine mm_E.iv rfl rfl rfl rfl hO rfl (x_isS0 hO hH hz 1 s) ?_
  refine mm_E.s rfl rfl rfl (fun _ => rfl) ?_
  refine mm_E.s rfl rfl rfl (fun _ => rfl) ?_
  exact mm_E.ret rfl rfl rfl
end
section
def x_pL (g f : Nat → Int64) (t : Nat) : Nat → Int64 := fun j => if j < t then g j else f j
theorem x_pL_s (g f : Nat → Int64) (i : Nat) : vp_updL (x_pL g f i) i (g i) = x_pL g f (i + 1) := by
  funext j
  unfold vp_updL x_pL
  by_cases h1 : j = i
  · subst h1
    simp
  · by_cases h2 : j < i
    · have h3 : j < i + 1 := by omega
      simp [h1, h2, h3]
    · have h3 : ¬ j < i + 1 := by omega
      simp [h1, h2, h3]
theorem x_pL_0 (g f : Nat → Int64) : x_pL g f 0 = f := by
  funext j
  simp [x_pL]
def x_pI (g f : Nat → Int32) (t : Nat) : Nat → Int32 := fun j => if j < t then g j else f j
theorem x_pI_s (g f : Nat → Int32) (i : Nat) : upd (x_pI g f i) i (g i) = x_pI g f (i + 1) := by
  funext j
  unfold upd x_pI
  by_cases h1 : j = i
  · subst h1
    simp
  · by_cases h2 : j < i
    · have h3 : j < i + 1 := by omega
      simp [h1, h2, h3]
    · have h3 : ¬ j < i + 1 := by omega
      simp [h1, h2, h3]
theorem x_pI_0 (g f : Nat → Int32) : x_pI g f 0 = f := by
  funext j
  simp [x_pI]
theorem x_same {α : Type} {l : List α} {i : Nat} {v : α} (h : mm_nth l i = some v) : l.set i v = l := by
  apply List.ext_getElem?
  intro j
  rw [List.getElem?_set]
  by_cases hj : i = j
  · subst hj
    rw [mm_nth_eq] at h
    rw [if_pos rfl, if_pos (List.getElem?_eq_some_iff.mp h).1, h]
  · simp [hj]
theorem mm_E.hc {G : List mm_M} {scr : mm_X} {k pc : Nat} {L : mm_L} {st : List Value} {h : mm_H} {res : Option Value × mm_H} (h' : mm_H) (e : h = h') (he : mm_E G scr k pc L st h' res) : mm_E G scr k pc L st h res := by rw [e]; exact he
abbrev x_lg (n : Nat) (f : Nat → Int64) : mm_C := .inl (.long, n, .inr (.inl f))
abbrev x_it (n : Nat) (f : Nat → Int32) : mm_C := .inl (.int, n, .inl f)
theorem x_shape {h : mm_H} {ro co di tr : Int32} {mat : Nat → Int64} (hO : mm_nth h 25 = some (x_mo ro co di tr)) (hM : mm_nth h 29 = some (x_lg 2304 mat)) (r c : Int32) : mm_EC kM 78 [.ref 25, .int r, .int c] h (none, (h.set 25 (x_mo r c di tr)).set 29 (x_lg 2304 (x_pL (fun _ => 0) mat 2304))) := by
  have l25 := mm_nth_lt hO
  have l29 := mm_nth_lt hM
  have hM1 : mm_nth (h.set 25 (x_mo r c di tr)) 29 = some (x_lg 2304 mat) := by rw [mm_nth_set_ne (by decide)]; exact hM
  refine ⟨kq_78, rfl, rfl, ?_⟩
  refine mm_E.s rfl rfl rfl (fun _ => rfl) ?_
  refine mm_E.s rfl rfl rfl (fun _ => rfl) ?_
  refine mm_E.pfi rfl rfl rfl hO rfl (mm_put_some _ _ _ l25) ?_
  refine mm_E.s rfl rfl rfl (fun _ => rfl) ?_
  refine mm_E.s rfl rfl rfl (fun _ => rfl) ?_
  refine mm_E.pfi rfl rfl rfl (mm_nth_set l25) rfl (mm_put_some _ _ _ (by simpa using l25)) ?_
  refine mm_E.hc ((h.set 25 (x_mo r c di tr)).set 29 (x_lg 2304 (x_pL (fun _ => 0) mat 0))) (by rw [List.set_set, x_pL_0, x_same hM1]; rfl) ?_
  refine mm_E.s rfl rfl rfl (fun _ => rfl) ?_
  refine mm_E.s rfl rfl rfl (fun _ => rfl) ?_
  refine mm_E.loop (fun t => [some (.ref 25), some (.int r), some (.int c), some (.int (nI t))]) (fun t => (h.set 25 (x_mo r c di tr)).set 29 (x_lg 2304 (x_pL (fun _ => 0) mat t))) 2304 ?_ ?_
  · skip
    refine mm_E.s rfl rfl rfl (fun _ => rfl) ?_
    refine mm_E.s rfl rfl rfl (fun _ => rfl) ?_
    refine mm_E.s rfl rfl rfl (fun _ => rfl) ?_
    exact mm_E.ret rfl rfl rfl
  · intro t ht ih
    have hO2 : mm_nth ((h.set 25 (x_mo r c di tr)).set 29 (x_lg 2304 (x_pL (fun _ => 0) mat t))) 25 = some (x_mo r c di tr) := by rw [mm_nth_set_ne (by decide)]; exact mm_nth_set l25
    refine mm_E.s rfl rfl rfl (fun _ => rfl) ?_
    refine mm_E.s rfl rfl rfl (fun _ => rfl) ?_
    refine mm_E.s rfl rfl rfl (fun _ => if_neg (nI_ge (a := t) (b := 2304) (by omega) (by decide))) ?_
    refine mm_E.s rfl rfl rfl (fun _ => rfl) ?_
    refine mm_E.gf rfl rfl rfl hO2 rfl ?_
    refine mm_E.s rfl rfl rfl (fun _ => rfl) ?_
    refine mm_E.s rfl rfl rfl (fun _ => rfl) ?_
    refine mm_E.ls rfl rfl (mm_nth_set (by simpa using l29)) (mm_bd (by omega) (by decide)) (mm_put_some _ _ _ (by simpa using l29)) ?_
    refine mm_E.s rfl rfl rfl (fun _ => rfl) ?_
    refine mm_E.s rfl rfl rfl (fun _ => rfl) ?_
    rw [List.set_set, mm_cl (by omega)]
    rw [← nI_1, ← x_pL_s] at ih
    exact ih

def x_rm (mat : Nat → Int64) (p : Int64) (j : Nat) : Int64 := mat j - mat j / p * p
def x_rn (mat : Nat → Int64) (p : Int64) (j : Nat) : Int64 := if 0 ≤ lg_cmp (x_rm mat p j) 0 then x_rm mat p j else x_rm mat p j + p
theorem x_rank0 {h : mm_H} {ro di tr : Int32} {mat work : Nat → Int64} (hO : mm_nth h 25 = some (x_mo ro 0 di tr)) (hM : mm_nth h 29 = some (x_lg 2304 mat)) (hW : mm_nth h 30 = some (x_lg 2304 work)) {p : Int64} (hp : ¬ p = 0) : mm_EC kM 83 [.ref 25, .long p] h (some (.int 0), h.set 30 (x_lg 2304 (x_pL (x_rn mat p) work 2304))) := by
  have l30 := mm_nth_lt hW
  refine ⟨kq_83, rfl, rfl, ?_⟩
  refine mm_E.hc (h.set 30 (x_lg 2304 (x_pL (x_rn mat p) work 0))) (by rw [x_pL_0, x_same hW]) ?_
  refine mm_E.s rfl rfl rfl (fun _ => rfl) ?_
  refine mm_E.s rfl rfl rfl (fun _ => rfl) ?_
  refine mm_E.loop (fun t => [some (.ref 25), some (.long p), none, some (.int (nI t)), (match t with
    | 0 => none
    | j + 1 => some (.long (x_rm mat p j))), none]) (fun t => h.set 30 (x_lg 2304 (x_pL (x_rn mat p) work t))) 2304 ?_ ?_
  · have hO2 : mm_nth (h.set 30 (x_lg 2304 (x_pL (x_rn mat p) work 2304))) 25 = some (x_mo ro 0 di tr) := by rw [mm_nth_set_ne (by decide)]; exact hO
    refine mm_E.s rfl rfl rfl (fun _ => rfl) ?_
    refine mm_E.s rfl rfl rfl (fun _ => rfl) ?_
    refine mm_E.s rfl rfl rfl (fun _ => rfl) ?_
    refine mm_E.s rfl rfl rfl (fun _ => rfl) ?_
    refine mm_E.s rfl rfl rfl (fun _ => rfl) ?_
    refine mm_E.s rfl rfl rfl (fun _ => rfl) ?_
    refine mm_E.s rfl rfl rfl (fun _ => rfl) ?_
    refine mm_E.s rfl rfl rfl (fun _ => rfl) ?_
    refine mm_E.s rfl rfl rfl (fun _ => rfl) ?_
    refine mm_E.gf rfl rfl rfl hO2 rfl ?_
    refine mm_E.s rfl rfl rfl (fun _ => rfl) ?_
    refine mm_E.s rfl rfl rfl (fun _ => rfl) ?_
    exact mm_E.ret rfl rfl rfl
  · intro t ht ih
    have hO2 : mm_nth (h.set 30 (x_lg 2304 (x_pL (x_rn mat p) work t))) 25 = some (x_mo ro 0 di tr) := by rw [mm_nth_set_ne (by decide)]; exact hO
    have hM2 : mm_nth (h.set 30 (x_lg 2304 (x_pL (x_rn mat p) work t))) 29 = some (x_lg 2304 mat) := by rw [mm_nth_set_ne (by decide)]; exact hM
    rw [← nI_1, ← x_pL_s] at ih
    by_cases hq : 0 ≤ lg_cmp (x_rm mat p t) 0
    · rw [show x_rn mat p t = x_rm mat p t from if_pos hq] at ih
      refine mm_E.s rfl rfl rfl (fun _ => rfl) ?_
      refine mm_E.s rfl rfl rfl (fun _ => rfl) ?_
      refine mm_E.s rfl rfl rfl (fun _ => if_neg (nI_ge (a := t) (b := 2304) (by omega) (by decide))) ?_
      refine mm_E.s rfl rfl rfl (fun _ => rfl) ?_
      refine mm_E.gf rfl rfl rfl hO2 rfl ?_
      refine mm_E.s rfl rfl rfl (fun _ => rfl) ?_
      refine mm_E.la rfl rfl hM2 (mm_bd (by omega) (by decide)) (v := mat t) (by rw [mm_cl (by omega)]) ?_
      refine mm_E.s rfl rfl rfl (fun _ => rfl) ?_
      refine mm_E.s rfl rfl rfl (fun _ => if_neg hp) ?_
      refine mm_E.s rfl rfl rfl (fun _ => rfl) ?_
      refine mm_E.s rfl rfl rfl (fun _ => rfl) ?_
      refine mm_E.gf rfl rfl rfl hO2 rfl ?_
      refine mm_E.s rfl rfl rfl (fun _ => rfl) ?_
      refine mm_E.s rfl rfl rfl (fun _ => rfl) ?_
      refine mm_E.s rfl rfl rfl (fun _ => rfl) ?_
      refine mm_E.s rfl rfl rfl (fun _ => rfl) ?_
      refine mm_E.s rfl rfl rfl (fun _ => if_pos hq) ?_
      refine mm_E.s rfl rfl rfl (fun _ => rfl) ?_
      refine mm_E.ls rfl rfl (mm_nth_set l30) (mm_bd (by omega) (by decide)) (mm_put_some _ _ _ (by simpa using l30)) ?_
      refine mm_E.s rfl rfl rfl (fun _ => rfl) ?_
      refine mm_E.s rfl rfl rfl (fun _ => rfl) ?_
      rw [List.set_set, mm_cl (by omega)]
      exact ih
    · rw [show x_rn mat p t = x_rm mat p t + p from if_neg hq] at ih
      refine mm_E.s rfl rfl rfl (fun _ => rfl) ?_
      refine mm_E.s rfl rfl rfl (fun _ => rfl) ?_
      refine mm_E.s rfl rfl rfl (fun _ => if_neg (nI_ge (a := t) (b := 2304) (by omega) (by decide))) ?_
      refine mm_E.s rfl rfl rfl (fun _ => rfl) ?_
      refine mm_E.gf rfl rfl rfl hO2 rfl ?_
      refine mm_E.s rfl rfl rfl (fun _ => rfl) ?_
      refine mm_E.la rfl rfl hM2 (mm_bd (by omega) (by decide)) (v := mat t) (by rw [mm_cl (by omega)]) ?_
      refine mm_E.s rfl rfl rfl (fun _ => rfl) ?_
      refine mm_E.s rfl rfl rfl (fun _ => if_neg hp) ?_
      refine mm_E.s rfl rfl rfl (fun _ => rfl) ?_
      refine mm_E.s rfl rfl rfl (fun _ => rfl) ?_
      refine mm_E.gf rfl rfl rfl hO2 rfl ?_
      refine mm_E.s rfl rfl rfl (fun _ => rfl) ?_
      refine mm_E.s rfl rfl rfl (fun _ => rfl) ?_
      refine mm_E.s rfl rfl rfl (fun _ => rfl) ?_
      refine mm_E.s rfl rfl rfl (fun _ => rfl) ?_
      refine mm_E.s rfl rfl rfl (fun _ => if_neg hq) ?_
      refine mm_E.s rfl rfl rfl (fun _ => rfl) ?_
      refine mm_E.s rfl rfl rfl (fun _ => rfl) ?_
      refine mm_E.s rfl rfl rfl (fun _ => rfl) ?_
      refine mm_E.s rfl rfl rfl (fun _ => rfl) ?_
      refine mm_E.ls rfl rfl (mm_nth_set l30) (mm_bd (by omega) (by decide)) (mm_put_some _ _ _ (by simpa using l30)) ?_
      refine mm_E.s rfl rfl rfl (fun _ => rfl) ?_
      refine mm_E.s rfl rfl rfl (fun _ => rfl) ?_
      rw [List.set_set, mm_cl (by omega)]
      exact ih

theorem x_diag0 {h : mm_H} {co di tr : Int32} {mat work : Nat → Int64} (hO : mm_nth h 25 = some (x_mo 0 co di tr)) (hM : mm_nth h 29 = some (x_lg 2304 mat)) (hW : mm_nth h 30 = some (x_lg 2304 work)) : mm_EC kM 94 [.ref 25] h (none, (h.set 30 (x_lg 2304 (x_pL mat work 2304))).set 25 (x_mo 0 co 0 tr)) := by
  have l30 := mm_nth_lt hW
  have l25 := mm_nth_lt hO
  refine ⟨kq_94, rfl, rfl, ?_⟩
  refine mm_E.hc (h.set 30 (x_lg 2304 (x_pL mat work 0))) (by rw [x_pL_0, x_same hW]) ?_
  refine mm_E.s rfl rfl rfl (fun _ => rfl) ?_
  refine mm_E.s rfl rfl rfl (fun _ => rfl) ?_
  refine mm_E.loop (fun t => [some (.ref 25), some (.int (nI t)), none, none, none]) (fun t => h.set 30 (x_lg 2304 (x_pL mat work t))) 2304 ?_ ?_
  · have hO2 : mm_nth (h.set 30 (x_lg 2304 (x_pL mat work 2304))) 25 = some (x_mo 0 co di tr) := by rw [mm_nth_set_ne (by decide)]; exact hO
    have hO3 : mm_nth ((h.set 30 (x_lg 2304 (x_pL mat work 2304))).set 25 (x_mo 0 co 0 tr)) 25 = some (x_mo 0 co 0 tr) := mm_nth_set (by simpa using l25)
    refine mm_E.s rfl rfl rfl (fun _ => rfl) ?_
    refine mm_E.s rfl rfl rfl (fun _ => rfl) ?_
    refine mm_E.s rfl rfl rfl (fun _ => rfl) ?_
    refine mm_E.s rfl rfl rfl (fun _ => rfl) ?_
    refine mm_E.s rfl rfl rfl (fun _ => rfl) ?_
    refine mm_E.pfi rfl rfl rfl hO2 rfl (mm_put_some _ _ _ (by simpa using l25)) ?_
    refine mm_E.s rfl rfl rfl (fun _ => rfl) ?_
    refine mm_E.gf rfl rfl rfl hO3 rfl ?_
    refine mm_E.s rfl rfl rfl (fun _ => rfl) ?_
    refine mm_E.gf rfl rfl rfl hO3 rfl ?_
    refine mm_E.s rfl rfl rfl (fun _ => rfl) ?_
    refine mm_E.s rfl rfl rfl (fun _ => rfl) ?_
    refine mm_E.s rfl rfl rfl (fun _ => rfl) ?_
    refine mm_E.s rfl rfl rfl (fun _ => rfl) ?_
    refine mm_E.s rfl rfl rfl (fun _ => rfl) ?_
    refine mm_E.gf rfl rfl rfl hO3 rfl ?_
    refine mm_E.s rfl rfl rfl (fun _ => rfl) ?_
    exact mm_E.ret rfl rfl rfl
  · intro t ht ih
    have hO2 : mm_nth (h.set 30 (x_lg 2304 (x_pL mat work t))) 25 = some (x_mo 0 co di tr) := by rw [mm_nth_set_ne (by decide)]; exact hO
    have hM2 : mm_nth (h.set 30 (x_lg 2304 (x_pL mat work t))) 29 = some (x_lg 2304 mat) := by rw [mm_nth_set_ne (by decide)]; exact hM
    rw [← nI_1, ← x_pL_s] at ih
    refine mm_E.s rfl rfl rfl (fun _ => rfl) ?_
    refine mm_E.s rfl rfl rfl (fun _ => rfl) ?_
    refine mm_E.s rfl rfl rfl (fun _ => if_neg (nI_ge (a := t) (b := 2304) (by omega) (by decide))) ?_
    refine mm_E.s rfl rfl rfl (fun _ => rfl) ?_
    refine mm_E.gf rfl rfl rfl hO2 rfl ?_
    refine mm_E.s rfl rfl rfl (fun _ => rfl) ?_
    refine mm_E.s rfl rfl rfl (fun _ => rfl) ?_
    refine mm_E.gf rfl rfl rfl hO2 rfl ?_
    refine mm_E.s rfl rfl rfl (fun _ => rfl) ?_
    refine mm_E.la rfl rfl hM2 (mm_bd (by omega) (by decide)) (v := mat t) (by rw [mm_cl (by omega)]) ?_
    refine mm_E.ls rfl rfl (mm_nth_set l30) (mm_bd (by omega) (by decide)) (mm_put_some _ _ _ (by simpa using l30)) ?_
    refine mm_E.s rfl rfl rfl (fun _ => rfl) ?_
    refine mm_E.s rfl rfl rfl (fun _ => rfl) ?_
    rw [List.set_set, mm_cl (by omega)]
    exact ih

/-- an empty model: nothing is there; its numbers -/
def x_em (h : mm_H) (ro co di : Int32) : Prop := ∃ (tr : Int32) (has kept f cc sp e1 e2 e3 : Nat → Int32) (mat work dv : Nat → Int64), mm_nth h 25 = some (x_mo ro co di tr) ∧ mm_nth h 26 = some (x_ha has) ∧ x_no has ∧ mm_nth h 27 = some (x_it 512 kept) ∧ mm_nth h 28 = some (x_it 8 f) ∧ mm_nth h 29 = some (x_lg 2304 mat) ∧ mm_nth h 30 = some (x_lg 2304 work) ∧ mm_nth h 31 = some (x_lg 48 dv) ∧ mm_nth h 32 = some (x_it 24 cc) ∧ mm_nth h 33 = some (x_it 24 sp) ∧ mm_nth h 34 = some (x_it 24 e1) ∧ mm_nth h 35 = some (x_it 24 e2) ∧ mm_nth h 36 = some (x_it 24 e3)
theorem y_shape {h : mm_H} {ro co di : Int32} (hE : x_em h ro co di) (r c : Int32) : ∃ h', mm_EC kM 78 [.ref 25, .int r, .int c] h (none, h') ∧ x_em h' r c di := by
  obtain ⟨tr, has, kept, f, cc, sp, e1, e2, e3, mat, work, dv, hO, hH, hz, h27, h28, h29, h30, h31, h32, h33, h34, h35, h36⟩ := hE
  exact ⟨_, x_shape hO h29 r c, ⟨tr, has, kept, f, cc, sp, e1, e2, e3, _, work, dv, (by rw [mm_nth_set_ne (by decide)]; exact mm_nth_set (by first | exact mm_nth_lt hO | (simp only [List.length_set]; exact mm_nth_lt hO))), (by rw [mm_nth_set_ne (by decide)]; rw [mm_nth_set_ne (by decide)]; exact hH), hz, (by rw [mm_nth_set_ne (by decide)]; rw [mm_nth_set_ne (by decide)]; exact h27), (by rw [mm_nth_set_ne (by decide)]; rw [mm_nth_set_ne (by decide)]; exact h28), (by exact mm_nth_set (by first | exact mm_nth_lt h29 | (simp only [List.length_set]; exact mm_nth_lt h29))), (by rw [mm_nth_set_ne (by decide)]; rw [mm_nth_set_ne (by decide)]; exact h30), (by rw [mm_nth_set_ne (by decide)]; rw [mm_nth_set_ne (by decide)]; exact h31), (by rw [mm_nth_set_ne (by decide)]; rw [mm_nth_set_ne (by decide)]; exact h32), (by rw [mm_nth_set_ne (by decide)]; rw [mm_nth_set_ne (by decide)]; exact h33), (by rw [mm_nth_set_ne (by decide)]; rw [mm_nth_set_ne (by decide)]; exact h34), (by rw [mm_nth_set_ne (by decide)]; rw [mm_nth_set_ne (by decide)]; exact h35), (by rw [mm_nth_set_ne (by decide)]; rw [mm_nth_set_ne (by decide)]; exact h36)⟩⟩
theorem y_rank {h : mm_H} {ro di : Int32} (hE : x_em h ro 0 di) {p : Int64} (hp : ¬ p = 0) : ∃ h', mm_EC kM 83 [.ref 25, .long p] h (some (.int 0), h') ∧ x_em h' ro 0 di := by
  obtain ⟨tr, has, kept, f, cc, sp, e1, e2, e3, mat, work, dv, hO, hH, hz, h27, h28, h29, h30, h31, h32, h33, h34, h35, h36⟩ := hE
  exact ⟨_, x_rank0 hO h29 h30 hp, ⟨tr, has, kept, f, cc, sp, e1, e2, e3, mat, _, dv, (by rw [mm_nth_set_ne (by decide)]; exact hO), (by rw [mm_nth_set_ne (by decide)]; exact hH), hz, (by rw [mm_nth_set_ne (by decide)]; exact h27), (by rw [mm_nth_set_ne (by decide)]; exact h28), (by rw [mm_nth_set_ne (by decide)]; exact h29), (by exact mm_nth_set (by first | exact mm_nth_lt h30 | (simp only [List.length_set]; exact mm_nth_lt h30))), (by rw [mm_nth_set_ne (by decide)]; exact h31), (by rw [mm_nth_set_ne (by decide)]; exact h32), (by rw [mm_nth_set_ne (by decide)]; exact h33), (by rw [mm_nth_set_ne (by decide)]; exact h34), (by rw [mm_nth_set_ne (by decide)]; exact h35), (by rw [mm_nth_set_ne (by decide)]; exact h36)⟩⟩
theorem y_diag {h : mm_H} {co di : Int32} (hE : x_em h 0 co di) : ∃ h', mm_EC kM 94 [.ref 25] h (none, h') ∧ x_em h' 0 co 0 := by
  obtain ⟨tr, has, kept, f, cc, sp, e1, e2, e3, mat, work, dv, hO, hH, hz, h27, h28, h29, h30, h31, h32, h33, h34, h35, h36⟩ := hE
  exact ⟨_, x_diag0 hO h29 h30, ⟨tr, has, kept, f, cc, sp, e1, e2, e3, mat, _, dv, (by exact mm_nth_set (by first | exact mm_nth_lt hO | (simp only [List.length_set]; exact mm_nth_lt hO))), (by rw [mm_nth_set_ne (by decide)]; rw [mm_nth_set_ne (by decide)]; exact hH), hz, (by rw [mm_nth_set_ne (by decide)]; rw [mm_nth_set_ne (by decide)]; exact h27), (by rw [mm_nth_set_ne (by decide)]; rw [mm_nth_set_ne (by decide)]; exact h28), (by rw [mm_nth_set_ne (by decide)]; rw [mm_nth_set_ne (by decide)]; exact h29), (by rw [mm_nth_set_ne (by decide)]; exact mm_nth_set (by first | exact mm_nth_lt h30 | (simp only [List.length_set]; exact mm_nth_lt h30))), (by rw [mm_nth_set_ne (by decide)]; rw [mm_nth_set_ne (by decide)]; exact h31), (by rw [mm_nth_set_ne (by decide)]; rw [mm_nth_set_ne (by decide)]; exact h32), (by rw [mm_nth_set_ne (by decide)]; rw [mm_nth_set_ne (by decide)]; exact h33), (by rw [mm_nth_set_ne (by decide)]; rw [mm_nth_set_ne (by decide)]; exact h34), (by rw [mm_nth_set_ne (by decide)]; rw [mm_nth_set_ne (by decide)]; exact h35), (by rw [mm_nth_set_ne (by decide)]; rw [mm_nth_set_ne (by decide)]; exact h36)⟩⟩
theorem y_many {h : mm_H} {ro co di : Int32} (hE : x_em h ro co di) {c : Nat} (hc : c < 2) (k : Int32) : mm_EC kM 69 [.ref 25, .int (nI c), .int k] h (some (.int 0), h) := by
  obtain ⟨tr, has, kept, f, cc, sp, e1, e2, e3, mat, work, dv, hO, hH, hz, h27, h28, h29, h30, h31, h32, h33, h34, h35, h36⟩ := hE
  exact x_many0 hO hH hz hc k
theorem y_pb {h : mm_H} {ro co di : Int32} (hE : x_em h ro co di) {c : Nat} (hc : c < 2) (k r j : Int32) : mm_EC kM 79 [.ref 25, .int (nI c), .int k, .int r, .int j] h (none, h) := by
  obtain ⟨tr, has, kept, f, cc, sp, e1, e2, e3, mat, work, dv, hO, hH, hz, h27, h28, h29, h30, h31, h32, h33, h34, h35, h36⟩ := hE
  exact x_pb0 hO hH hz hc k r j
theorem y_o {h : mm_H} {ro co di : Int32} (hE : x_em h ro co di) : ∃ tr, mm_nth h 25 = some (x_mo ro co di tr) := by
  obtain ⟨tr, has, kept, f, cc, sp, e1, e2, e3, mat, work, dv, hO, hH, hz, h27, h28, h29, h30, h31, h32, h33, h34, h35, h36⟩ := hE
  exact ⟨tr, hO⟩
theorem y_bof {h : mm_H} {ro co di : Int32} (hE : x_em h ro co di) {c : Nat} (hc : c < 2) (k : Int32) : ∃ h', mm_EC kM 80 [.ref 25, .int (nI c), .int k] h (none, h') ∧ x_em h' 0 0 di := by
  obtain ⟨tr, hO⟩ := y_o hE
  obtain ⟨h1, E1, hE1⟩ := y_shape hE 0 0
  obtain ⟨tr1, hO1⟩ := y_o hE1
  refine ⟨h1, ⟨kq_80, rfl, rfl, ?_⟩, hE1⟩
  refine mm_E.s rfl rfl rfl (fun _ => rfl) ?_
  refine mm_E.s rfl rfl rfl (fun _ => rfl) ?_
  refine mm_E.s rfl rfl rfl (fun _ => rfl) ?_
  refine mm_E.s rfl rfl rfl (fun _ => rfl) ?_
  refine mm_E.s rfl rfl rfl (fun _ => rfl) ?_
  refine mm_E.s rfl rfl rfl (fun _ => rfl) ?_
  refine mm_E.iv rfl rfl rfl rfl hO rfl (y_many hE hc _) ?_
  refine mm_E.s rfl rfl rfl (fun _ => rfl) ?_
  refine mm_E.s rfl rfl rfl (fun _ => rfl) ?_
  refine mm_E.s rfl rfl rfl (fun _ => rfl) ?_
  refine mm_E.iv rfl rfl rfl rfl hO rfl (y_many hE hc _) ?_
  refine mm_E.iv rfl rfl rfl rfl hO rfl E1 ?_
  refine mm_E.s rfl rfl rfl (fun _ => rfl) ?_
  refine mm_E.s rfl rfl rfl (fun _ => rfl) ?_
  refine mm_E.s rfl rfl rfl (fun _ => rfl) ?_
  refine mm_E.s rfl rfl rfl (fun _ => rfl) ?_
  refine mm_E.s rfl rfl rfl (fun _ => rfl) ?_
  refine mm_E.iv rfl rfl rfl rfl hO1 rfl (y_pb hE1 hc _ _ _) ?_
  exact mm_E.ret rfl rfl rfl

theorem y_rof {h : mm_H} {ro di : Int32} (hE : x_em h ro 0 di) : ∃ h', mm_EC kM 85 [.ref 25] h (some (.int 0), h') ∧ x_em h' ro 0 di := by
  obtain ⟨tr, hO⟩ := y_o hE
  obtain ⟨h1, E1, hE1⟩ := y_rank hE (p := 2147483647) (by decide)
  obtain ⟨tr1, hO1⟩ := y_o hE1
  obtain ⟨h2, E2, hE2⟩ := y_rank hE1 (p := 2147483629) (by decide)
  refine ⟨h2, ⟨kq_85, rfl, rfl, ?_⟩, hE2⟩
  refine mm_E.s rfl rfl rfl (fun _ => rfl) ?_
  refine mm_E.s rfl rfl rfl (fun _ => rfl) ?_
  refine mm_E.iv rfl rfl rfl rfl hO rfl E1 ?_
  refine mm_E.s rfl rfl rfl (fun _ => rfl) ?_
  refine mm_E.s rfl rfl rfl (fun _ => rfl) ?_
  refine mm_E.s rfl rfl rfl (fun _ => rfl) ?_
  refine mm_E.iv rfl rfl rfl rfl hO1 rfl E2 ?_
  refine mm_E.s rfl rfl rfl (fun _ => rfl) ?_
  refine mm_E.s rfl rfl rfl (fun _ => rfl) ?_
  refine mm_E.s rfl rfl rfl (fun _ => rfl) ?_
  refine mm_E.s rfl rfl rfl (fun _ => rfl) ?_
  refine mm_E.s rfl rfl rfl (fun _ => rfl) ?_
  exact mm_E.ret rfl rfl rfl

theorem y_br {h : mm_H} {ro co di : Int32} (hE : x_em h ro co di) {c : Nat} (hc : c < 2) (k : Int32) : ∃ h', mm_EC kM 86 [.ref 25, .int (nI c), .int k] h (some (.int 0), h') ∧ x_em h' 0 0 di := by
  obtain ⟨tr, hO⟩ := y_o hE
  obtain ⟨h1, E1, hE1⟩ := y_bof hE hc k
  obtain ⟨tr1, hO1⟩ := y_o hE1
  obtain ⟨h2, E2, hE2⟩ := y_rof hE1
  refine ⟨h2, ⟨kq_86, rfl, rfl, ?_⟩, hE2⟩
  refine mm_E.s rfl rfl rfl (fun _ => rfl) ?_
  refine mm_E.s rfl rfl rfl (fun _ => rfl) ?_
  refine mm_E.s rfl rfl rfl (fun _ => rfl) ?_
  refine mm_E.iv rfl rfl rfl rfl hO rfl E1 ?_
  refine mm_E.s rfl rfl rfl (fun _ => rfl) ?_
  refine mm_E.iv rfl rfl rfl rfl hO1 rfl E2 ?_
  exact mm_E.ret rfl rfl rfl

theorem y_betti {h : mm_H} {ro co di : Int32} (hE : x_em h ro co di) (c k : Int32) : ∃ h', mm_EC kM 87 [.ref 25, .int c, .int k] h (some (.int (if (c = 0 ∨ c = 1) ∧ ¬ k < 0 ∧ ¬ 3 < k then 0 else -1)), h') := by
  by_cases hc : c = 0 ∨ c = 1
  · by_cases hk : k < 0 ∨ 3 < k
    · rw [if_neg (fun q => hk.elim q.2.1 q.2.2)]
      refine ⟨h, kq_87, rfl, rfl, ?_⟩
      refine mm_E.s rfl rfl rfl (fun _ => rfl) ?_
      refine mm_E.ic rfl rfl rfl rfl rfl (x_isC1 hc) ?_
      refine mm_E.s rfl rfl rfl (fun _ => rfl) ?_
      refine mm_E.s rfl rfl rfl (fun _ => rfl) ?_
      refine mm_E.ic rfl rfl rfl rfl rfl (x_isD0 hk) ?_
      refine mm_E.s rfl rfl rfl (fun _ => rfl) ?_
      refine mm_E.s rfl rfl rfl (fun _ => rfl) ?_
      exact mm_E.ret rfl rfl rfl
    · have k0 : ¬ k < 0 := fun q => hk (Or.inl q)
      have k3 : ¬ 3 < k := fun q => hk (Or.inr q)
      rw [if_pos ⟨hc, k0, k3⟩]
      obtain ⟨n, hn, rfl⟩ := x_c01 hc
      obtain ⟨tr, hO⟩ := y_o hE
      obtain ⟨h1, E1, hE1⟩ := y_br hE hn k
      obtain ⟨tr1, hO1⟩ := y_o hE1
      obtain ⟨h2, E2, hE2⟩ := y_br hE1 hn (k + 1)
      refine ⟨h2, kq_87, rfl, rfl, ?_⟩
      refine mm_E.s rfl rfl rfl (fun _ => rfl) ?_
      refine mm_E.ic rfl rfl rfl rfl rfl (x_isC1 hc) ?_
      refine mm_E.s rfl rfl rfl (fun _ => rfl) ?_
      refine mm_E.s rfl rfl rfl (fun _ => rfl) ?_
      refine mm_E.ic rfl rfl rfl rfl rfl (x_isD1 k0 k3) ?_
      refine mm_E.s rfl rfl rfl (fun _ => rfl) ?_
      refine mm_E.s rfl rfl rfl (fun _ => rfl) ?_
      refine mm_E.s rfl rfl rfl (fun _ => rfl) ?_
      refine mm_E.s rfl rfl rfl (fun _ => rfl) ?_
      refine mm_E.iv rfl rfl rfl rfl hO rfl (y_many hE hn k) ?_
      refine mm_E.s rfl rfl rfl (fun _ => rfl) ?_
      refine mm_E.s rfl rfl rfl (fun _ => rfl) ?_
      refine mm_E.s rfl rfl rfl (fun _ => rfl) ?_
      refine mm_E.iv rfl rfl rfl rfl hO rfl E1 ?_
      refine mm_E.s rfl rfl rfl (fun _ => rfl) ?_
      refine mm_E.s rfl rfl rfl (fun _ => rfl) ?_
      refine mm_E.s rfl rfl rfl (fun _ => rfl) ?_
      refine mm_E.s rfl rfl rfl (fun _ => rfl) ?_
      refine mm_E.s rfl rfl rfl (fun _ => rfl) ?_
      refine mm_E.s rfl rfl rfl (fun _ => rfl) ?_
      refine mm_E.iv rfl rfl rfl rfl hO1 rfl E2 ?_
      refine mm_E.s rfl rfl rfl (fun _ => rfl) ?_
      refine mm_E.s rfl rfl rfl (fun _ => rfl) ?_
      exact mm_E.ret rfl rfl rfl
  · rw [if_neg (fun q => hc q.1)]
    refine ⟨h, kq_87, rfl, rfl, ?_⟩
    refine mm_E.s rfl rfl rfl (fun _ => rfl) ?_
    refine mm_E.ic rfl rfl rfl rfl rfl (x_isC0 hc) ?_
    refine mm_E.s rfl rfl rfl (fun _ => rfl) ?_
    refine mm_E.s rfl rfl rfl (fun _ => rfl) ?_
    exact mm_E.ret rfl rfl rfl

theorem y_torsion {h : mm_H} {ro co di : Int32} (hE : x_em h ro co di) (c k i : Int32) : ∃ h', mm_EC kM 95 [.ref 25, .int c, .int k, .int i] h (some (.int (if (c = 0 ∨ c = 1) ∧ ¬ k < 0 ∧ ¬ 3 < k ∧ 0 ≤ i then 0 else -1)), h') := by
  by_cases hc : c = 0 ∨ c = 1
  · by_cases hk : k < 0 ∨ 3 < k
    · rw [if_neg (fun q => hk.elim q.2.1 q.2.2.1)]
      refine ⟨h, kq_95, rfl, rfl, ?_⟩
      refine mm_E.s rfl rfl rfl (fun _ => rfl) ?_
      refine mm_E.ic rfl rfl rfl rfl rfl (x_isC1 hc) ?_
      refine mm_E.s rfl rfl rfl (fun _ => rfl) ?_
      refine mm_E.s rfl rfl rfl (fun _ => rfl) ?_
      refine mm_E.ic rfl rfl rfl rfl rfl (x_isD0 hk) ?_
      refine mm_E.s rfl rfl rfl (fun _ => rfl) ?_
      refine mm_E.s rfl rfl rfl (fun _ => rfl) ?_
      exact mm_E.ret rfl rfl rfl
    · have k0 : ¬ k < 0 := fun q => hk (Or.inl q)
      have k3 : ¬ 3 < k := fun q => hk (Or.inr q)
      by_cases hi : 0 ≤ i
      · rw [if_pos ⟨hc, k0, k3, hi⟩]
        obtain ⟨n, hn, rfl⟩ := x_c01 hc
        obtain ⟨tr, hO⟩ := y_o hE
        obtain ⟨h1, E1, hE1⟩ := y_bof hE hn (k + 1)
        obtain ⟨tr1, hO1⟩ := y_o hE1
        obtain ⟨h2, E2, hE2⟩ := y_diag hE1
        obtain ⟨tr2, hO2⟩ := y_o hE2
        refine ⟨h2, kq_95, rfl, rfl, ?_⟩
        refine mm_E.s rfl rfl rfl (fun _ => rfl) ?_
        refine mm_E.ic rfl rfl rfl rfl rfl (x_isC1 hc) ?_
        refine mm_E.s rfl rfl rfl (fun _ => rfl) ?_
        refine mm_E.s rfl rfl rfl (fun _ => rfl) ?_
        refine mm_E.ic rfl rfl rfl rfl rfl (x_isD1 k0 k3) ?_
        refine mm_E.s rfl rfl rfl (fun _ => rfl) ?_
        refine mm_E.s rfl rfl rfl (fun _ => rfl) ?_
        refine mm_E.s rfl rfl rfl (fun _ => if_pos hi) ?_
        refine mm_E.s rfl rfl rfl (fun _ => rfl) ?_
        refine mm_E.s rfl rfl rfl (fun _ => rfl) ?_
        refine mm_E.s rfl rfl rfl (fun _ => rfl) ?_
        refine mm_E.s rfl rfl rfl (fun _ => rfl) ?_
        refine mm_E.s rfl rfl rfl (fun _ => rfl) ?_
        refine mm_E.iv rfl rfl rfl rfl hO rfl E1 ?_
        refine mm_E.s rfl rfl rfl (fun _ => rfl) ?_
        refine mm_E.iv rfl rfl rfl rfl hO1 rfl E2 ?_
        refine mm_E.s rfl rfl rfl (fun _ => rfl) ?_
        refine mm_E.s rfl rfl rfl (fun _ => rfl) ?_
        refine mm_E.s rfl rfl rfl (fun _ => rfl) ?_
        refine mm_E.s rfl rfl rfl (fun _ => rfl) ?_
        refine mm_E.s rfl rfl rfl (fun _ => rfl) ?_
        refine mm_E.s rfl rfl rfl (fun _ => rfl) ?_
        refine mm_E.gf rfl rfl rfl hO2 rfl ?_
        refine mm_E.s rfl rfl rfl (fun _ => rfl) ?_
        refine mm_E.s rfl rfl rfl (fun _ => rfl) ?_
        exact mm_E.ret rfl rfl rfl
      · rw [if_neg (fun q => hi q.2.2.2)]
        refine ⟨h, kq_95, rfl, rfl, ?_⟩
        refine mm_E.s rfl rfl rfl (fun _ => rfl) ?_
        refine mm_E.ic rfl rfl rfl rfl rfl (x_isC1 hc) ?_
        refine mm_E.s rfl rfl rfl (fun _ => rfl) ?_
        refine mm_E.s rfl rfl rfl (fun _ => rfl) ?_
        refine mm_E.ic rfl rfl rfl rfl rfl (x_isD1 k0 k3) ?_
        refine mm_E.s rfl rfl rfl (fun _ => rfl) ?_
        refine mm_E.s rfl rfl rfl (fun _ => rfl) ?_
        refine mm_E.s rfl rfl rfl (fun _ => if_neg hi) ?_
        refine mm_E.s rfl rfl rfl (fun _ => rfl) ?_
        exact mm_E.ret rfl rfl rfl
  · rw [if_neg (fun q => hc q.1)]
    refine ⟨h, kq_95, rfl, rfl, ?_⟩
    refine mm_E.s rfl rfl rfl (fun _ => rfl) ?_
    refine mm_E.ic rfl rfl rfl rfl rfl (x_isC0 hc) ?_
    refine mm_E.s rfl rfl rfl (fun _ => rfl) ?_
    refine mm_E.s rfl rfl rfl (fun _ => rfl) ?_
    exact mm_E.ret rfl rfl rfl

theorem y_vol {h : mm_H} {co di : Int32} (hE : x_em h 0 co di) : ∃ h', mm_EC kM 100 [.ref 25] h (some (.long 1), h') ∧ x_em h' 0 co 0 := by
  obtain ⟨tr, hO⟩ := y_o hE
  obtain ⟨h1, E1, hE1⟩ := y_diag hE
  obtain ⟨tr1, hO1⟩ := y_o hE1
  refine ⟨h1, ⟨kq_100, rfl, rfl, ?_⟩, hE1⟩
  refine mm_E.s rfl rfl rfl (fun _ => rfl) ?_
  refine mm_E.iv rfl rfl rfl rfl hO rfl E1 ?_
  refine mm_E.s rfl rfl rfl (fun _ => rfl) ?_
  refine mm_E.s rfl rfl rfl (fun _ => rfl) ?_
  refine mm_E.s rfl rfl rfl (fun _ => rfl) ?_
  refine mm_E.s rfl rfl rfl (fun _ => rfl) ?_
  refine mm_E.s rfl rfl rfl (fun _ => rfl) ?_
  refine mm_E.s rfl rfl rfl (fun _ => rfl) ?_
  refine mm_E.gf rfl rfl rfl hO1 rfl ?_
  refine mm_E.s rfl rfl rfl (fun _ => rfl) ?_
  refine mm_E.s rfl rfl rfl (fun _ => rfl) ?_
  exact mm_E.ret rfl rfl rfl
end
section
theorem y_z {h : mm_H} {ro co di : Int32} (hE : x_em h ro co di) : ∃ (tr : Int32) (has : Nat → Int32), mm_nth h 25 = some (x_mo ro co di tr) ∧ mm_nth h 26 = some (x_ha has) ∧ x_no has := by
  obtain ⟨tr, has, kept, f, cc, sp, e1, e2, e3, mat, work, dv, hO, hH, hz, h27, h28, h29, h30, h31, h32, h33, h34, h35, h36⟩ := hE
  exact ⟨tr, has, hO, hH, hz⟩
theorem y_col {h : mm_H} {ro co di : Int32} (hE : x_em h ro co di) {tr : Int32} (c : Int32) (hO : mm_nth h 25 = some (x_mo ro co di tr)) : x_em (h.set 25 (x_mo ro c di tr)) ro c di := by
  obtain ⟨tr', has, kept, f, cc, sp, e1, e2, e3, mat, work, dv, hO', hH, hz, h27, h28, h29, h30, h31, h32, h33, h34, h35, h36⟩ := hE
  exact ⟨tr, has, kept, f, cc, sp, e1, e2, e3, mat, work, dv, (by exact mm_nth_set (by first | exact mm_nth_lt hO | (simp only [List.length_set]; exact mm_nth_lt hO))), (by rw [mm_nth_set_ne (by decide)]; exact hH), hz, (by rw [mm_nth_set_ne (by decide)]; exact h27), (by rw [mm_nth_set_ne (by decide)]; exact h28), (by rw [mm_nth_set_ne (by decide)]; exact h29), (by rw [mm_nth_set_ne (by decide)]; exact h30), (by rw [mm_nth_set_ne (by decide)]; exact h31), (by rw [mm_nth_set_ne (by decide)]; exact h32), (by rw [mm_nth_set_ne (by decide)]; exact h33), (by rw [mm_nth_set_ne (by decide)]; exact h34), (by rw [mm_nth_set_ne (by decide)]; exact h35), (by rw [mm_nth_set_ne (by decide)]; exact h36)⟩
theorem y_order {h : mm_H} {ro co di : Int32} (hE : x_em h ro co di) (c k : Int32) : ∃ h', mm_EC kM 101 [.ref 25, .int c, .int k] h (some (.int (if (c = 0 ∨ c = 1) ∧ ¬ k < 0 ∧ ¬ 3 < k then 1 else -1)), h') := by
  by_cases hc : c = 0 ∨ c = 1
  · by_cases hk : k < 0 ∨ 3 < k
    · rw [if_neg (fun q => hk.elim q.2.1 q.2.2)]
      refine ⟨h, kq_101, rfl, rfl, ?_⟩
      refine mm_E.s rfl rfl rfl (fun _ => rfl) ?_
      refine mm_E.ic rfl rfl rfl rfl rfl (x_isC1 hc) ?_
      refine mm_E.s rfl rfl rfl (fun _ => rfl) ?_
      refine mm_E.s rfl rfl rfl (fun _ => rfl) ?_
      refine mm_E.ic rfl rfl rfl rfl rfl (x_isD0 hk) ?_
      refine mm_E.s rfl rfl rfl (fun _ => rfl) ?_
      refine mm_E.s rfl rfl rfl (fun _ => rfl) ?_
      exact mm_E.ret rfl rfl rfl
    · have k0 : ¬ k < 0 := fun q => hk (Or.inl q)
      have k3 : ¬ 3 < k := fun q => hk (Or.inr q)
      rw [if_pos ⟨hc, k0, k3⟩]
      obtain ⟨n, hn, rfl⟩ := x_c01 hc
      obtain ⟨tr, has, hO, hH, hz⟩ := y_z hE
      obtain ⟨h1, E1, hE1⟩ := y_bof hE hn (k + 1)
      obtain ⟨tr1, hO1⟩ := y_o hE1
      obtain ⟨h2, E2, hE2⟩ := y_vol hE1
      obtain ⟨tr2, has2, hO2, hH2, hz2⟩ := y_z hE2
      have hE3 := y_col hE2 (0 + 1) hO2
      obtain ⟨tr3, hO3⟩ := y_o hE3
      obtain ⟨h4, E4, hE4⟩ := y_vol hE3
      obtain ⟨tr4, hO4⟩ := y_o hE4
      refine ⟨h4, kq_101, rfl, rfl, ?_⟩
      refine mm_E.s rfl rfl rfl (fun _ => rfl) ?_
      refine mm_E.ic rfl rfl rfl rfl rfl (x_isC1 hc) ?_
      refine mm_E.s rfl rfl rfl (fun _ => rfl) ?_
      refine mm_E.s rfl rfl rfl (fun _ => rfl) ?_
      refine mm_E.ic rfl rfl rfl rfl rfl (x_isD1 k0 k3) ?_
      refine mm_E.s rfl rfl rfl (fun _ => rfl) ?_
      refine mm_E.s rfl rfl rfl (fun _ => rfl) ?_
      refine mm_E.s rfl rfl rfl (fun _ => rfl) ?_
      refine mm_E.s rfl rfl rfl (fun _ => rfl) ?_
      refine mm_E.iv rfl rfl rfl rfl hO rfl (x_isCy0 hO hH hz hn k) ?_
      refine mm_E.s rfl rfl rfl (fun _ => rfl) ?_
      refine mm_E.s rfl rfl rfl (fun _ => rfl) ?_
      refine mm_E.s rfl rfl rfl (fun _ => rfl) ?_
      refine mm_E.s rfl rfl rfl (fun _ => rfl) ?_
      refine mm_E.s rfl rfl rfl (fun _ => rfl) ?_
      refine mm_E.s rfl rfl rfl (fun _ => rfl) ?_
      refine mm_E.iv rfl rfl rfl rfl hO rfl E1 ?_
      refine mm_E.s rfl rfl rfl (fun _ => rfl) ?_
      refine mm_E.iv rfl rfl rfl rfl hO1 rfl E2 ?_
      refine mm_E.s rfl rfl rfl (fun _ => rfl) ?_
      refine mm_E.s rfl rfl rfl (fun _ => rfl) ?_
      refine mm_E.gf rfl rfl rfl hO2 rfl ?_
      refine mm_E.s rfl rfl rfl (fun _ => rfl) ?_
      refine mm_E.s rfl rfl rfl (fun _ => rfl) ?_
      refine mm_E.s rfl rfl rfl (fun _ => rfl) ?_
      refine mm_E.s rfl rfl rfl (fun _ => rfl) ?_
      refine mm_E.s rfl rfl rfl (fun _ => rfl) ?_
      refine mm_E.loop (fun t => [some (.ref 25), some (.int (nI n)), some (.int k), some (.long 1), none, some (.int 0), some (.int 0), some (.int (nI (t + 1))), none]) (fun _ => h2) 255 ?_ ?_
      · skip
        refine mm_E.s rfl rfl rfl (fun _ => rfl) ?_
        refine mm_E.s rfl rfl rfl (fun _ => rfl) ?_
        refine mm_E.s rfl rfl rfl (fun _ => rfl) ?_
        refine mm_E.s rfl rfl rfl (fun _ => rfl) ?_
        refine mm_E.s rfl rfl rfl (fun _ => rfl) ?_
        refine mm_E.gf rfl rfl rfl hO2 rfl ?_
        refine mm_E.s rfl rfl rfl (fun _ => rfl) ?_
        refine mm_E.s rfl rfl rfl (fun _ => rfl) ?_
        refine mm_E.pfi rfl rfl rfl hO2 rfl (mm_put_some _ _ _ (mm_nth_lt hO2)) ?_
        refine mm_E.s rfl rfl rfl (fun _ => rfl) ?_
        refine mm_E.iv rfl rfl rfl rfl hO3 rfl E4 ?_
        refine mm_E.s rfl rfl rfl (fun _ => rfl) ?_
        refine mm_E.s rfl rfl rfl (fun _ => rfl) ?_
        refine mm_E.gf rfl rfl rfl hO4 rfl ?_
        refine mm_E.s rfl rfl rfl (fun _ => rfl) ?_
        refine mm_E.s rfl rfl rfl (fun _ => rfl) ?_
        refine mm_E.s rfl rfl rfl (fun _ => rfl) ?_
        refine mm_E.s rfl rfl rfl (fun _ => rfl) ?_
        refine mm_E.s rfl rfl rfl (fun _ => rfl) ?_
        refine mm_E.s rfl rfl rfl (fun _ => rfl) ?_
        exact mm_E.ret rfl rfl rfl
      · intro t ht ih
        refine mm_E.s rfl rfl rfl (fun _ => rfl) ?_
        refine mm_E.s rfl rfl rfl (fun _ => rfl) ?_
        refine mm_E.s rfl rfl rfl (fun _ => if_neg (nI_ge (a := t + 1) (b := 256) (by omega) (by decide))) ?_
        refine mm_E.s rfl rfl rfl (fun _ => rfl) ?_
        refine mm_E.gf rfl rfl rfl hO2 rfl ?_
        refine mm_E.s rfl rfl rfl (fun _ => rfl) ?_
        refine mm_E.s rfl rfl rfl (fun _ => rfl) ?_
        refine mm_E.s rfl rfl rfl (fun _ => rfl) ?_
        refine mm_E.s rfl rfl rfl (fun _ => rfl) ?_
        refine mm_E.s rfl rfl rfl (fun _ => rfl) ?_
        refine mm_E.ti _ (x_ix n (t + 1)) ?_
        refine mm_E.za rfl rfl hH2 (mm_bd (by omega) (by decide)) (v := 0) (by rw [mm_cl (by omega)]; exact hz2 _ (by omega)) ?_
        refine mm_E.s rfl rfl rfl (fun _ => rfl) ?_
        refine mm_E.s rfl rfl rfl (fun _ => rfl) ?_
        refine mm_E.s rfl rfl rfl (fun _ => rfl) ?_
        rw [← nI_1] at ih
        exact ih
  · rw [if_neg (fun q => hc q.1)]
    refine ⟨h, kq_101, rfl, rfl, ?_⟩
    refine mm_E.s rfl rfl rfl (fun _ => rfl) ?_
    refine mm_E.ic rfl rfl rfl rfl rfl (x_isC0 hc) ?_
    refine mm_E.s rfl rfl rfl (fun _ => rfl) ?_
    refine mm_E.s rfl rfl rfl (fun _ => rfl) ?_
    exact mm_E.ret rfl rfl rfl

abbrev x_pr (p : Int32) : Prop := p = 2 ∨ p = 3 ∨ p = 5 ∨ p = 7 ∨ p = 11 ∨ p = 13
theorem y_bmA {scr : mm_X} {h : mm_H} {c k p : Int32} {r : Option Value × mm_H} (hp : x_pr p) (hk : mm_E kM scr 88 38 [some (.ref 25), some (.int c), some (.int k), some (.int p), none, none] [.int 1] h r) : mm_E kM scr 88 0 [some (.ref 25), some (.int c), some (.int k), some (.int p), none, none] [] h r := by
  rcases hp with rfl | rfl | rfl | rfl | rfl | rfl
  · skip
    refine mm_E.s rfl rfl rfl (fun _ => rfl) ?_
    refine mm_E.s rfl rfl rfl (fun _ => rfl) ?_
    refine mm_E.s rfl rfl rfl (fun _ => rfl) ?_
    refine mm_E.s rfl rfl rfl (fun _ => rfl) ?_
    refine mm_E.s rfl rfl rfl (fun _ => rfl) ?_
    exact hk
  · skip
    refine mm_E.s rfl rfl rfl (fun _ => rfl) ?_
    refine mm_E.s rfl rfl rfl (fun _ => rfl) ?_
    refine mm_E.s rfl rfl rfl (fun _ => rfl) ?_
    refine mm_E.s rfl rfl rfl (fun _ => rfl) ?_
    refine mm_E.s rfl rfl rfl (fun _ => rfl) ?_
    refine mm_E.s rfl rfl rfl (fun _ => rfl) ?_
    refine mm_E.s rfl rfl rfl (fun _ => rfl) ?_
    refine mm_E.s rfl rfl rfl (fun _ => rfl) ?_
    exact hk
  · skip
    refine mm_E.s rfl rfl rfl (fun _ => rfl) ?_
    refine mm_E.s rfl rfl rfl (fun _ => rfl) ?_
    refine mm_E.s rfl rfl rfl (fun _ => rfl) ?_
    refine mm_E.s rfl rfl rfl (fun _ => rfl) ?_
    refine mm_E.s rfl rfl rfl (fun _ => rfl) ?_
    refine mm_E.s rfl rfl rfl (fun _ => rfl) ?_
    refine mm_E.s rfl rfl rfl (fun _ => rfl) ?_
    refine mm_E.s rfl rfl rfl (fun _ => rfl) ?_
    refine mm_E.s rfl rfl rfl (fun _ => rfl) ?_
    refine mm_E.s rfl rfl rfl (fun _ => rfl) ?_
    refine mm_E.s rfl rfl rfl (fun _ => rfl) ?_
    exact hk
  · skip
    refine mm_E.s rfl rfl rfl (fun _ => rfl) ?_
    refine mm_E.s rfl rfl rfl (fun _ => rfl) ?_
    refine mm_E.s rfl rfl rfl (fun _ => rfl) ?_
    refine mm_E.s rfl rfl rfl (fun _ => rfl) ?_
    refine mm_E.s rfl rfl rfl (fun _ => rfl) ?_
    refine mm_E.s rfl rfl rfl (fun _ => rfl) ?_
    refine mm_E.s rfl rfl rfl (fun _ => rfl) ?_
    refine mm_E.s rfl rfl rfl (fun _ => rfl) ?_
    refine mm_E.s rfl rfl rfl (fun _ => rfl) ?_
    refine mm_E.s rfl rfl rfl (fun _ => rfl) ?_
    refine mm_E.s rfl rfl rfl (fun _ => rfl) ?_
    refine mm_E.s rfl rfl rfl (fun _ => rfl) ?_
    refine mm_E.s rfl rfl rfl (fun _ => rfl) ?_
    refine mm_E.s rfl rfl rfl (fun _ => rfl) ?_
    exact hk
  · skip
    refine mm_E.s rfl rfl rfl (fun _ => rfl) ?_
    refine mm_E.s rfl rfl rfl (fun _ => rfl) ?_
    refine mm_E.s rfl rfl rfl (fun _ => rfl) ?_
    refine mm_E.s rfl rfl rfl (fun _ => rfl) ?_
    refine mm_E.s rfl rfl rfl (fun _ => rfl) ?_
    refine mm_E.s rfl rfl rfl (fun _ => rfl) ?_
    refine mm_E.s rfl rfl rfl (fun _ => rfl) ?_
    refine mm_E.s rfl rfl rfl (fun _ => rfl) ?_
    refine mm_E.s rfl rfl rfl (fun _ => rfl) ?_
    refine mm_E.s rfl rfl rfl (fun _ => rfl) ?_
    refine mm_E.s rfl rfl rfl (fun _ => rfl) ?_
    refine mm_E.s rfl rfl rfl (fun _ => rfl) ?_
    refine mm_E.s rfl rfl rfl (fun _ => rfl) ?_
    refine mm_E.s rfl rfl rfl (fun _ => rfl) ?_
    refine mm_E.s rfl rfl rfl (fun _ => rfl) ?_
    refine mm_E.s rfl rfl rfl (fun _ => rfl) ?_
    refine mm_E.s rfl rfl rfl (fun _ => rfl) ?_
    exact hk
  · skip
    refine mm_E.s rfl rfl rfl (fun _ => rfl) ?_
    refine mm_E.s rfl rfl rfl (fun _ => rfl) ?_
    refine mm_E.s rfl rfl rfl (fun _ => rfl) ?_
    refine mm_E.s rfl rfl rfl (fun _ => rfl) ?_
    refine mm_E.s rfl rfl rfl (fun _ => rfl) ?_
    refine mm_E.s rfl rfl rfl (fun _ => rfl) ?_
    refine mm_E.s rfl rfl rfl (fun _ => rfl) ?_
    refine mm_E.s rfl rfl rfl (fun _ => rfl) ?_
    refine mm_E.s rfl rfl rfl (fun _ => rfl) ?_
    refine mm_E.s rfl rfl rfl (fun _ => rfl) ?_
    refine mm_E.s rfl rfl rfl (fun _ => rfl) ?_
    refine mm_E.s rfl rfl rfl (fun _ => rfl) ?_
    refine mm_E.s rfl rfl rfl (fun _ => rfl) ?_
    refine mm_E.s rfl rfl rfl (fun _ => rfl) ?_
    refine mm_E.s rfl rfl rfl (fun _ => rfl) ?_
    refine mm_E.s rfl rfl rfl (fun _ => rfl) ?_
    refine mm_E.s rfl rfl rfl (fun _ => rfl) ?_
    refine mm_E.s rfl rfl rfl (fun _ => rfl) ?_
    refine mm_E.s rfl rfl rfl (fun _ => rfl) ?_
    refine mm_E.s rfl rfl rfl (fun _ => rfl) ?_
    exact hk
theorem y_bmB {scr : mm_X} {h : mm_H} {c k p : Int32} {r : Option Value × mm_H} (hp : ¬ x_pr p) (hk : mm_E kM scr 88 38 [some (.ref 25), some (.int c), some (.int k), some (.int p), none, none] [.int 0] h r) : mm_E kM scr 88 0 [some (.ref 25), some (.int c), some (.int k), some (.int p), none, none] [] h r := by
  have p2 : ¬ p = 2 := fun q => hp (Or.inl q)
  have p3 : ¬ p = 3 := fun q => hp (Or.inr (Or.inl q))
  have p5 : ¬ p = 5 := fun q => hp (Or.inr (Or.inr (Or.inl q)))
  have p7 : ¬ p = 7 := fun q => hp (Or.inr (Or.inr (Or.inr (Or.inl q))))
  have p11 : ¬ p = 11 := fun q => hp (Or.inr (Or.inr (Or.inr (Or.inr (Or.inl q)))))
  have p13 : ¬ p = 13 := fun q => hp (Or.inr (Or.inr (Or.inr (Or.inr (Or.inr q)))))
  refine mm_E.s rfl rfl rfl (fun _ => rfl) ?_
  refine mm_E.s rfl rfl rfl (fun _ => rfl) ?_
  refine mm_E.s rfl rfl rfl (fun _ => if_neg p2) ?_
  refine mm_E.s rfl rfl rfl (fun _ => rfl) ?_
  refine mm_E.s rfl rfl rfl (fun _ => rfl) ?_
  refine mm_E.s rfl rfl rfl (fun _ => if_neg p3) ?_
  refine mm_E.s rfl rfl rfl (fun _ => rfl) ?_
  refine mm_E.s rfl rfl rfl (fun _ => rfl) ?_
  refine mm_E.s rfl rfl rfl (fun _ => if_neg p5) ?_
  refine mm_E.s rfl rfl rfl (fun _ => rfl) ?_
  refine mm_E.s rfl rfl rfl (fun _ => rfl) ?_
  refine mm_E.s rfl rfl rfl (fun _ => if_neg p7) ?_
  refine mm_E.s rfl rfl rfl (fun _ => rfl) ?_
  refine mm_E.s rfl rfl rfl (fun _ => rfl) ?_
  refine mm_E.s rfl rfl rfl (fun _ => if_neg p11) ?_
  refine mm_E.s rfl rfl rfl (fun _ => rfl) ?_
  refine mm_E.s rfl rfl rfl (fun _ => rfl) ?_
  refine mm_E.s rfl rfl rfl (fun _ => if_neg p13) ?_
  refine mm_E.s rfl rfl rfl (fun _ => rfl) ?_
  exact hk
theorem x_prnz {p : Int32} (hp : x_pr p) : ¬ p.toInt64 = 0 := by
  rcases hp with rfl | rfl | rfl | rfl | rfl | rfl <;> decide
theorem y_bm {h : mm_H} {ro co di : Int32} (hE : x_em h ro co di) (c k p : Int32) : ∃ h', mm_EC kM 88 [.ref 25, .int c, .int k, .int p] h (some (.int (if (c = 0 ∨ c = 1) ∧ (¬ k < 0 ∧ ¬ 3 < k) ∧ x_pr p then 0 else -1)), h') := by
  by_cases hp : x_pr p
  · by_cases hc : c = 0 ∨ c = 1
    · by_cases hk : k < 0 ∨ 3 < k
      · rw [if_neg (fun q => hk.elim q.2.1.1 q.2.1.2)]
        refine ⟨h, kq_88, rfl, rfl, y_bmA hp ?_⟩
        refine mm_E.s rfl rfl rfl (fun _ => rfl) ?_
        refine mm_E.s rfl rfl rfl (fun _ => rfl) ?_
        refine mm_E.ic rfl rfl rfl rfl rfl (x_isC1 hc) ?_
        refine mm_E.s rfl rfl rfl (fun _ => rfl) ?_
        refine mm_E.s rfl rfl rfl (fun _ => rfl) ?_
        refine mm_E.ic rfl rfl rfl rfl rfl (x_isD0 hk) ?_
        refine mm_E.s rfl rfl rfl (fun _ => rfl) ?_
        refine mm_E.s rfl rfl rfl (fun _ => rfl) ?_
        exact mm_E.ret rfl rfl rfl
      · have k0 : ¬ k < 0 := fun q => hk (Or.inl q)
        have k3 : ¬ 3 < k := fun q => hk (Or.inr q)
        rw [if_pos ⟨hc, ⟨k0, k3⟩, hp⟩]
        obtain ⟨n, hn, rfl⟩ := x_c01 hc
        obtain ⟨tr, hO⟩ := y_o hE
        obtain ⟨h1, E1, hE1⟩ := y_bof hE hn k
        obtain ⟨tr1, hO1⟩ := y_o hE1
        obtain ⟨h2, E2, hE2⟩ := y_rank hE1 (x_prnz hp)
        obtain ⟨tr2, hO2⟩ := y_o hE2
        obtain ⟨h3, E3, hE3⟩ := y_bof hE2 hn (k + 1)
        obtain ⟨tr3, hO3⟩ := y_o hE3
        obtain ⟨h4, E4, hE4⟩ := y_rank hE3 (x_prnz hp)
        refine ⟨h4, kq_88, rfl, rfl, y_bmA hp ?_⟩
        refine mm_E.s rfl rfl rfl (fun _ => rfl) ?_
        refine mm_E.s rfl rfl rfl (fun _ => rfl) ?_
        refine mm_E.ic rfl rfl rfl rfl rfl (x_isC1 hc) ?_
        refine mm_E.s rfl rfl rfl (fun _ => rfl) ?_
        refine mm_E.s rfl rfl rfl (fun _ => rfl) ?_
        refine mm_E.ic rfl rfl rfl rfl rfl (x_isD1 k0 k3) ?_
        refine mm_E.s rfl rfl rfl (fun _ => rfl) ?_
        refine mm_E.s rfl rfl rfl (fun _ => rfl) ?_
        refine mm_E.s rfl rfl rfl (fun _ => rfl) ?_
        refine mm_E.s rfl rfl rfl (fun _ => rfl) ?_
        refine mm_E.s rfl rfl rfl (fun _ => rfl) ?_
        refine mm_E.s rfl rfl rfl (fun _ => rfl) ?_
        refine mm_E.iv rfl rfl rfl rfl hO rfl E1 ?_
        refine mm_E.s rfl rfl rfl (fun _ => rfl) ?_
        refine mm_E.s rfl rfl rfl (fun _ => rfl) ?_
        refine mm_E.s rfl rfl rfl (fun _ => rfl) ?_
        refine mm_E.iv rfl rfl rfl rfl hO1 rfl E2 ?_
        refine mm_E.s rfl rfl rfl (fun _ => rfl) ?_
        refine mm_E.s rfl rfl rfl (fun _ => rfl) ?_
        refine mm_E.s rfl rfl rfl (fun _ => rfl) ?_
        refine mm_E.s rfl rfl rfl (fun _ => rfl) ?_
        refine mm_E.s rfl rfl rfl (fun _ => rfl) ?_
        refine mm_E.s rfl rfl rfl (fun _ => rfl) ?_
        refine mm_E.iv rfl rfl rfl rfl hO2 rfl E3 ?_
        refine mm_E.s rfl rfl rfl (fun _ => rfl) ?_
        refine mm_E.s rfl rfl rfl (fun _ => rfl) ?_
        refine mm_E.s rfl rfl rfl (fun _ => rfl) ?_
        refine mm_E.iv rfl rfl rfl rfl hO3 rfl (y_many hE3 hn k) ?_
        refine mm_E.s rfl rfl rfl (fun _ => rfl) ?_
        refine mm_E.s rfl rfl rfl (fun _ => rfl) ?_
        refine mm_E.s rfl rfl rfl (fun _ => rfl) ?_
        refine mm_E.s rfl rfl rfl (fun _ => rfl) ?_
        refine mm_E.s rfl rfl rfl (fun _ => rfl) ?_
        refine mm_E.iv rfl rfl rfl rfl hO3 rfl E4 ?_
        refine mm_E.s rfl rfl rfl (fun _ => rfl) ?_
        exact mm_E.ret rfl rfl rfl
    · rw [if_neg (fun q => hc q.1)]
      refine ⟨h, kq_88, rfl, rfl, y_bmA hp ?_⟩
      refine mm_E.s rfl rfl rfl (fun _ => rfl) ?_
      refine mm_E.s rfl rfl rfl (fun _ => rfl) ?_
      refine mm_E.ic rfl rfl rfl rfl rfl (x_isC0 hc) ?_
      refine mm_E.s rfl rfl rfl (fun _ => rfl) ?_
      refine mm_E.s rfl rfl rfl (fun _ => rfl) ?_
      exact mm_E.ret rfl rfl rfl
  · rw [if_neg (fun q => hp q.2.2)]
    by_cases hc : c = 0 ∨ c = 1
    · by_cases hk : k < 0 ∨ 3 < k
      · refine ⟨h, kq_88, rfl, rfl, y_bmB hp ?_⟩
        refine mm_E.s rfl rfl rfl (fun _ => rfl) ?_
        refine mm_E.s rfl rfl rfl (fun _ => rfl) ?_
        refine mm_E.ic rfl rfl rfl rfl rfl (x_isC1 hc) ?_
        refine mm_E.s rfl rfl rfl (fun _ => rfl) ?_
        refine mm_E.s rfl rfl rfl (fun _ => rfl) ?_
        refine mm_E.ic rfl rfl rfl rfl rfl (x_isD0 hk) ?_
        refine mm_E.s rfl rfl rfl (fun _ => rfl) ?_
        refine mm_E.s rfl rfl rfl (fun _ => rfl) ?_
        exact mm_E.ret rfl rfl rfl
      · refine ⟨h, kq_88, rfl, rfl, y_bmB hp ?_⟩
        refine mm_E.s rfl rfl rfl (fun _ => rfl) ?_
        refine mm_E.s rfl rfl rfl (fun _ => rfl) ?_
        refine mm_E.ic rfl rfl rfl rfl rfl (x_isC1 hc) ?_
        refine mm_E.s rfl rfl rfl (fun _ => rfl) ?_
        refine mm_E.s rfl rfl rfl (fun _ => rfl) ?_
        refine mm_E.ic rfl rfl rfl rfl rfl (x_isD1 (fun q => hk (Or.inl q)) (fun q => hk (Or.inr q))) ?_
        refine mm_E.s rfl rfl rfl (fun _ => rfl) ?_
        refine mm_E.s rfl rfl rfl (fun _ => rfl) ?_
        refine mm_E.s rfl rfl rfl (fun _ => rfl) ?_
        refine mm_E.s rfl rfl rfl (fun _ => rfl) ?_
        exact mm_E.ret rfl rfl rfl
    · refine ⟨h, kq_88, rfl, rfl, y_bmB hp ?_⟩
      refine mm_E.s rfl rfl rfl (fun _ => rfl) ?_
      refine mm_E.s rfl rfl rfl (fun _ => rfl) ?_
      refine mm_E.ic rfl rfl rfl rfl rfl (x_isC0 hc) ?_
      refine mm_E.s rfl rfl rfl (fun _ => rfl) ?_
      refine mm_E.s rfl rfl rfl (fun _ => rfl) ?_
      exact mm_E.ret rfl rfl rfl

theorem y_rk {h : mm_H} {ro co di : Int32} (hE : x_em h ro co di) (k : Int32) : ∃ h', mm_EC kM 108 [.ref 25, .int k] h (some (.int (if ¬ k < 0 ∧ ¬ 3 < k then 0 else -1)), h') := by
  by_cases hk : k < 0 ∨ 3 < k
  · rw [if_neg (fun q => hk.elim q.1 q.2)]
    refine ⟨h, kq_108, rfl, rfl, ?_⟩
    refine mm_E.s rfl rfl rfl (fun _ => rfl) ?_
    refine mm_E.ic rfl rfl rfl rfl rfl (x_isD0 hk) ?_
    refine mm_E.s rfl rfl rfl (fun _ => rfl) ?_
    refine mm_E.s rfl rfl rfl (fun _ => rfl) ?_
    exact mm_E.ret rfl rfl rfl
  · have k0 : ¬ k < 0 := fun q => hk (Or.inl q)
    have k3 : ¬ 3 < k := fun q => hk (Or.inr q)
    rw [if_pos ⟨k0, k3⟩]
    obtain ⟨tr, has, hO, hH, hz⟩ := y_z hE
    obtain ⟨h1, E1, hE1⟩ := y_br hE (c := 0) (by decide) k
    obtain ⟨tr1, hO1⟩ := y_o hE1
    obtain ⟨h2, E2, hE2⟩ := y_br hE1 (c := 1) (by decide) (k + 1)
    obtain ⟨tr2, hO2⟩ := y_o hE2
    obtain ⟨h3, E3, hE3⟩ := y_shape hE2 0 0
    obtain ⟨tr3, has3, hO3, hH3, hz3⟩ := y_z hE3
    obtain ⟨h4, E4, hE4⟩ := y_rof hE3
    refine ⟨h4, kq_108, rfl, rfl, ?_⟩
    refine mm_E.s rfl rfl rfl (fun _ => rfl) ?_
    refine mm_E.ic rfl rfl rfl rfl rfl (x_isD1 k0 k3) ?_
    refine mm_E.s rfl rfl rfl (fun _ => rfl) ?_
    refine mm_E.s rfl rfl rfl (fun _ => rfl) ?_
    refine mm_E.iv rfl rfl rfl rfl hO rfl (x_simp0 hO hH hz) ?_
    refine mm_E.s rfl rfl rfl (fun _ => rfl) ?_
    refine mm_E.s rfl rfl rfl (fun _ => rfl) ?_
    refine mm_E.s rfl rfl rfl (fun _ => rfl) ?_
    refine mm_E.s rfl rfl rfl (fun _ => rfl) ?_
    refine mm_E.s rfl rfl rfl (fun _ => rfl) ?_
    refine mm_E.s rfl rfl rfl (fun _ => rfl) ?_
    refine mm_E.iv rfl rfl rfl rfl hO rfl (y_many hE (c := 0) (by decide) _) ?_
    refine mm_E.s rfl rfl rfl (fun _ => rfl) ?_
    refine mm_E.s rfl rfl rfl (fun _ => rfl) ?_
    refine mm_E.s rfl rfl rfl (fun _ => rfl) ?_
    refine mm_E.s rfl rfl rfl (fun _ => rfl) ?_
    refine mm_E.iv rfl rfl rfl rfl hO rfl (y_many hE (c := 0) (by decide) _) ?_
    refine mm_E.s rfl rfl rfl (fun _ => rfl) ?_
    refine mm_E.s rfl rfl rfl (fun _ => rfl) ?_
    refine mm_E.s rfl rfl rfl (fun _ => rfl) ?_
    refine mm_E.s rfl rfl rfl (fun _ => rfl) ?_
    refine mm_E.iv rfl rfl rfl rfl hO rfl E1 ?_
    refine mm_E.s rfl rfl rfl (fun _ => rfl) ?_
    refine mm_E.s rfl rfl rfl (fun _ => rfl) ?_
    refine mm_E.s rfl rfl rfl (fun _ => rfl) ?_
    refine mm_E.s rfl rfl rfl (fun _ => rfl) ?_
    refine mm_E.s rfl rfl rfl (fun _ => rfl) ?_
    refine mm_E.iv rfl rfl rfl rfl hO1 rfl E2 ?_
    refine mm_E.s rfl rfl rfl (fun _ => rfl) ?_
    refine mm_E.s rfl rfl rfl (fun _ => rfl) ?_
    refine mm_E.s rfl rfl rfl (fun _ => rfl) ?_
    refine mm_E.s rfl rfl rfl (fun _ => rfl) ?_
    refine mm_E.s rfl rfl rfl (fun _ => rfl) ?_
    refine mm_E.s rfl rfl rfl (fun _ => rfl) ?_
    refine mm_E.s rfl rfl rfl (fun _ => rfl) ?_
    refine mm_E.iv rfl rfl rfl rfl hO2 rfl (y_many hE2 (c := 1) (by decide) _) ?_
    refine mm_E.s rfl rfl rfl (fun _ => rfl) ?_
    refine mm_E.s rfl rfl rfl (fun _ => rfl) ?_
    refine mm_E.s rfl rfl rfl (fun _ => rfl) ?_
    refine mm_E.s rfl rfl rfl (fun _ => rfl) ?_
    refine mm_E.s rfl rfl rfl (fun _ => rfl) ?_
    refine mm_E.s rfl rfl rfl (fun _ => rfl) ?_
    refine mm_E.s rfl rfl rfl (fun _ => rfl) ?_
    refine mm_E.iv rfl rfl rfl rfl hO2 rfl (y_many hE2 (c := 1) (by decide) _) ?_
    refine mm_E.s rfl rfl rfl (fun _ => rfl) ?_
    refine mm_E.iv rfl rfl rfl rfl hO2 rfl E3 ?_
    refine mm_E.s rfl rfl rfl (fun _ => rfl) ?_
    refine mm_E.s rfl rfl rfl (fun _ => rfl) ?_
    refine mm_E.s rfl rfl rfl (fun _ => rfl) ?_
    refine mm_E.s rfl rfl rfl (fun _ => rfl) ?_
    refine mm_E.s rfl rfl rfl (fun _ => rfl) ?_
    refine mm_E.iv rfl rfl rfl rfl hO3 rfl (y_pb hE3 (c := 0) (by decide) _ _ _) ?_
    refine mm_E.s rfl rfl rfl (fun _ => rfl) ?_
    refine mm_E.s rfl rfl rfl (fun _ => rfl) ?_
    refine mm_E.s rfl rfl rfl (fun _ => rfl) ?_
    refine mm_E.iv rfl rfl rfl rfl hO3 rfl (x_pm0 hO3 hH3 hz3 _ _) ?_
    refine mm_E.s rfl rfl rfl (fun _ => rfl) ?_
    refine mm_E.s rfl rfl rfl (fun _ => rfl) ?_
    refine mm_E.s rfl rfl rfl (fun _ => rfl) ?_
    refine mm_E.s rfl rfl rfl (fun _ => rfl) ?_
    refine mm_E.s rfl rfl rfl (fun _ => rfl) ?_
    refine mm_E.s rfl rfl rfl (fun _ => rfl) ?_
    refine mm_E.s rfl rfl rfl (fun _ => rfl) ?_
    refine mm_E.iv rfl rfl rfl rfl hO3 rfl (y_pb hE3 (c := 1) (by decide) _ _ _) ?_
    refine mm_E.s rfl rfl rfl (fun _ => rfl) ?_
    refine mm_E.iv rfl rfl rfl rfl hO3 rfl E4 ?_
    refine mm_E.s rfl rfl rfl (fun _ => rfl) ?_
    refine mm_E.s rfl rfl rfl (fun _ => rfl) ?_
    exact mm_E.ret rfl rfl rfl

theorem y_note {h : mm_H} {ro co di tr : Int32} {has : Nat → Int32} (hO : mm_nth h 25 = some (x_mo ro co di tr)) (hH : mm_nth h 26 = some (x_ha has)) (hz : x_no has) {c : Nat} (hc : c < 2) : mm_EC kM 111 [.ref 25, .int (nI c)] h (none, h.set 25 (x_mo ro co di 0)) := by
  have hO1 : mm_nth (h.set 25 (x_mo ro co di 0)) 25 = some (x_mo ro co di 0) := mm_nth_set (mm_nth_lt hO)
  have hH1 : mm_nth (h.set 25 (x_mo ro co di 0)) 26 = some (x_ha has) := by rw [mm_nth_set_ne (by decide)]; exact hH
  refine ⟨kq_111, rfl, rfl, ?_⟩
  refine mm_E.s rfl rfl rfl (fun _ => rfl) ?_
  refine mm_E.s rfl rfl rfl (fun _ => rfl) ?_
  refine mm_E.pfi rfl rfl rfl hO rfl (mm_put_some _ _ _ (mm_nth_lt hO)) ?_
  refine mm_E.s rfl rfl rfl (fun _ => rfl) ?_
  refine mm_E.s rfl rfl rfl (fun _ => rfl) ?_
  refine mm_E.loop (fun t => [some (.ref 25), some (.int (nI c)), some (.int (nI (t + 1))), none, none]) (fun _ => h.set 25 (x_mo ro co di 0)) 255 ?_ ?_
  · skip
    refine mm_E.s rfl rfl rfl (fun _ => rfl) ?_
    refine mm_E.s rfl rfl rfl (fun _ => rfl) ?_
    refine mm_E.s rfl rfl rfl (fun _ => rfl) ?_
    exact mm_E.ret rfl rfl rfl
  · intro t ht ih
    refine mm_E.s rfl rfl rfl (fun _ => rfl) ?_
    refine mm_E.s rfl rfl rfl (fun _ => rfl) ?_
    refine mm_E.s rfl rfl rfl (fun _ => if_neg (nI_ge (a := t + 1) (b := 256) (by omega) (by decide))) ?_
    refine mm_E.s rfl rfl rfl (fun _ => rfl) ?_
    refine mm_E.gf rfl rfl rfl hO1 rfl ?_
    refine mm_E.s rfl rfl rfl (fun _ => rfl) ?_
    refine mm_E.s rfl rfl rfl (fun _ => rfl) ?_
    refine mm_E.s rfl rfl rfl (fun _ => rfl) ?_
    refine mm_E.s rfl rfl rfl (fun _ => rfl) ?_
    refine mm_E.s rfl rfl rfl (fun _ => rfl) ?_
    refine mm_E.ti _ (x_ix c (t + 1)) ?_
    refine mm_E.za rfl rfl hH1 (mm_bd (by omega) (by decide)) (v := 0) (by rw [mm_cl (by omega)]; exact hz _ (by omega)) ?_
    refine mm_E.s rfl rfl rfl (fun _ => rfl) ?_
    refine mm_E.s rfl rfl rfl (fun _ => rfl) ?_
    refine mm_E.s rfl rfl rfl (fun _ => rfl) ?_
    rw [← nI_1] at ih
    exact ih

theorem y_coc {h : mm_H} {ro co di : Int32} (hO : mm_nth h 25 = some (x_mo ro co di 0)) : mm_EC kM 113 [.ref 25, .int 0] h (some (.int 0), h) := by
  refine ⟨kq_113, rfl, rfl, ?_⟩
  refine mm_E.s rfl rfl rfl (fun _ => rfl) ?_
  refine mm_E.s rfl rfl rfl (fun _ => rfl) ?_
  refine mm_E.s rfl rfl rfl (fun _ => rfl) ?_
  refine mm_E.s rfl rfl rfl (fun _ => rfl) ?_
  refine mm_E.s rfl rfl rfl (fun _ => rfl) ?_
  refine mm_E.s rfl rfl rfl (fun _ => rfl) ?_
  refine mm_E.s rfl rfl rfl (fun _ => rfl) ?_
  refine mm_E.s rfl rfl rfl (fun _ => rfl) ?_
  refine mm_E.s rfl rfl rfl (fun _ => rfl) ?_
  refine mm_E.s rfl rfl rfl (fun _ => rfl) ?_
  refine mm_E.s rfl rfl rfl (fun _ => rfl) ?_
  refine mm_E.gf rfl rfl rfl hO rfl ?_
  refine mm_E.s rfl rfl rfl (fun _ => rfl) ?_
  refine mm_E.s rfl rfl rfl (fun _ => rfl) ?_
  exact mm_E.ret rfl rfl rfl

theorem y_prod {h : mm_H} {ro co di : Int32} (hE : x_em h ro co di) (c : Int32) : ∃ h', mm_EC kM 115 [.ref 25, .int c] h (some (.int (if c = 0 ∨ c = 1 then 0 else -1)), h') := by
  by_cases hc : c = 0 ∨ c = 1
  · rw [if_pos hc]
    obtain ⟨n, hn, rfl⟩ := x_c01 hc
    obtain ⟨tr, has, kept, f, cc, sp, e1, e2, e3, mat, work, dv, hO, hH, hz, h27, h28, h29, h30, h31, h32, h33, h34, h35, h36⟩ := hE
    have l33 := mm_nth_lt h33
    have hO1 : mm_nth (h.set 33 (x_it 24 (x_pI (fun _ => 0) sp 24))) 25 = some (x_mo ro co di tr) := by rw [mm_nth_set_ne (by decide)]; exact hO
    have hH1 : mm_nth (h.set 33 (x_it 24 (x_pI (fun _ => 0) sp 24))) 26 = some (x_ha has) := by rw [mm_nth_set_ne (by decide)]; exact hH
    have E1 := y_note hO1 hH1 hz hn
    have hO2 : mm_nth ((h.set 33 (x_it 24 (x_pI (fun _ => 0) sp 24))).set 25 (x_mo ro co di 0)) 25 = some (x_mo ro co di 0) := mm_nth_set (mm_nth_lt hO1)
    have hH2 : mm_nth ((h.set 33 (x_it 24 (x_pI (fun _ => 0) sp 24))).set 25 (x_mo ro co di 0)) 26 = some (x_ha has) := by rw [mm_nth_set_ne (by decide)]; exact hH1
    refine ⟨(h.set 33 (x_it 24 (x_pI (fun _ => 0) sp 24))).set 25 (x_mo ro co di 0), kq_115, rfl, rfl, ?_⟩
    refine mm_E.hc (h.set 33 (x_it 24 (x_pI (fun _ => 0) sp 0))) (by rw [x_pI_0, x_same h33]) ?_
    refine mm_E.s rfl rfl rfl (fun _ => rfl) ?_
    refine mm_E.ic rfl rfl rfl rfl rfl (x_isC1 hc) ?_
    refine mm_E.s rfl rfl rfl (fun _ => rfl) ?_
    refine mm_E.s rfl rfl rfl (fun _ => rfl) ?_
    refine mm_E.s rfl rfl rfl (fun _ => rfl) ?_
    refine mm_E.loop (fun t => [some (.ref 25), some (.int (nI n)), some (.int (nI t)), none, none, none, none, none]) (fun t => h.set 33 (x_it 24 (x_pI (fun _ => 0) sp t))) 24 ?_ ?_
    · skip
      refine mm_E.s rfl rfl rfl (fun _ => rfl) ?_
      refine mm_E.s rfl rfl rfl (fun _ => rfl) ?_
      refine mm_E.s rfl rfl rfl (fun _ => rfl) ?_
      refine mm_E.s rfl rfl rfl (fun _ => rfl) ?_
      refine mm_E.s rfl rfl rfl (fun _ => rfl) ?_
      refine mm_E.iv rfl rfl rfl rfl hO1 rfl E1 ?_
      refine mm_E.s rfl rfl rfl (fun _ => rfl) ?_
      refine mm_E.s rfl rfl rfl (fun _ => rfl) ?_
      refine mm_E.s rfl rfl rfl (fun _ => rfl) ?_
      refine mm_E.s rfl rfl rfl (fun _ => rfl) ?_
      refine mm_E.s rfl rfl rfl (fun _ => rfl) ?_
      refine mm_E.iv rfl rfl rfl rfl hO2 rfl (x_many0 hO2 hH2 hz hn _) ?_
      refine mm_E.s rfl rfl rfl (fun _ => rfl) ?_
      refine mm_E.s rfl rfl rfl (fun _ => rfl) ?_
      refine mm_E.s rfl rfl rfl (fun _ => rfl) ?_
      refine mm_E.s rfl rfl rfl (fun _ => rfl) ?_
      refine mm_E.s rfl rfl rfl (fun _ => rfl) ?_
      refine mm_E.s rfl rfl rfl (fun _ => rfl) ?_
      refine mm_E.s rfl rfl rfl (fun _ => rfl) ?_
      refine mm_E.s rfl rfl rfl (fun _ => rfl) ?_
      refine mm_E.s rfl rfl rfl (fun _ => rfl) ?_
      refine mm_E.s rfl rfl rfl (fun _ => rfl) ?_
      refine mm_E.iv rfl rfl rfl rfl hO2 rfl (y_coc hO2) ?_
      refine mm_E.s rfl rfl rfl (fun _ => rfl) ?_
      refine mm_E.s rfl rfl rfl (fun _ => rfl) ?_
      refine mm_E.s rfl rfl rfl (fun _ => rfl) ?_
      refine mm_E.s rfl rfl rfl (fun _ => rfl) ?_
      refine mm_E.s rfl rfl rfl (fun _ => rfl) ?_
      refine mm_E.s rfl rfl rfl (fun _ => rfl) ?_
      refine mm_E.s rfl rfl rfl (fun _ => rfl) ?_
      refine mm_E.s rfl rfl rfl (fun _ => rfl) ?_
      refine mm_E.s rfl rfl rfl (fun _ => rfl) ?_
      exact mm_E.ret rfl rfl rfl
    · intro t ht ih
      have hO3 : mm_nth (h.set 33 (x_it 24 (x_pI (fun _ => 0) sp t))) 25 = some (x_mo ro co di tr) := by rw [mm_nth_set_ne (by decide)]; exact hO
      rw [← nI_1, ← x_pI_s] at ih
      refine mm_E.s rfl rfl rfl (fun _ => rfl) ?_
      refine mm_E.s rfl rfl rfl (fun _ => rfl) ?_
      refine mm_E.s rfl rfl rfl (fun _ => if_neg (nI_ge (a := t) (b := 24) (by omega) (by decide))) ?_
      refine mm_E.s rfl rfl rfl (fun _ => rfl) ?_
      refine mm_E.gf rfl rfl rfl hO3 rfl ?_
      refine mm_E.s rfl rfl rfl (fun _ => rfl) ?_
      refine mm_E.s rfl rfl rfl (fun _ => rfl) ?_
      refine mm_E.is rfl rfl (mm_nth_set l33) (mm_bd (by omega) (by decide)) (mm_put_some _ _ _ (by simpa using l33)) ?_
      refine mm_E.s rfl rfl rfl (fun _ => rfl) ?_
      refine mm_E.s rfl rfl rfl (fun _ => rfl) ?_
      rw [List.set_set, mm_cl (by omega)]
      exact ih
  · rw [if_neg hc]
    refine ⟨h, kq_115, rfl, rfl, ?_⟩
    refine mm_E.s rfl rfl rfl (fun _ => rfl) ?_
    refine mm_E.ic rfl rfl rfl rfl rfl (x_isC0 hc) ?_
    refine mm_E.s rfl rfl rfl (fun _ => rfl) ?_
    refine mm_E.s rfl rfl rfl (fun _ => rfl) ?_
    exact mm_E.ret rfl rfl rfl

theorem y_map {h : mm_H} {ro co di : Int32} (hE : x_em h ro co di) (v u : Int32) : ∃ h', mm_EC kM 102 [.ref 25, .int v, .int u] h (some (.int (if (¬ v < 0 ∧ ¬ 7 < v) ∧ ¬ u < 0 ∧ u ≤ 7 then 1 else 0)), h') := by
  obtain ⟨tr, has, kept, f, cc, sp, e1, e2, e3, mat, work, dv, hO, hH, hz, h27, h28, h29, h30, h31, h32, h33, h34, h35, h36⟩ := hE
  by_cases v0 : v < 0
  · rw [if_neg (fun q => q.1.1 v0)]
    refine ⟨h, kq_102, rfl, rfl, ?_⟩
    refine mm_E.s rfl rfl rfl (fun _ => rfl) ?_
    refine mm_E.s rfl rfl rfl (fun _ => if_pos v0) ?_
    refine mm_E.s rfl rfl rfl (fun _ => rfl) ?_
    exact mm_E.ret rfl rfl rfl
  · by_cases v7 : 7 < v
    · rw [if_neg (fun q => q.1.2 v7)]
      refine ⟨h, kq_102, rfl, rfl, ?_⟩
      refine mm_E.s rfl rfl rfl (fun _ => rfl) ?_
      refine mm_E.s rfl rfl rfl (fun _ => if_neg v0) ?_
      refine mm_E.s rfl rfl rfl (fun _ => rfl) ?_
      refine mm_E.s rfl rfl rfl (fun _ => rfl) ?_
      refine mm_E.s rfl rfl rfl (fun _ => if_pos v7) ?_
      refine mm_E.s rfl rfl rfl (fun _ => rfl) ?_
      exact mm_E.ret rfl rfl rfl
    · by_cases u0 : u < 0
      · rw [if_neg (fun q => q.2.1 u0)]
        refine ⟨h, kq_102, rfl, rfl, ?_⟩
        refine mm_E.s rfl rfl rfl (fun _ => rfl) ?_
        refine mm_E.s rfl rfl rfl (fun _ => if_neg v0) ?_
        refine mm_E.s rfl rfl rfl (fun _ => rfl) ?_
        refine mm_E.s rfl rfl rfl (fun _ => rfl) ?_
        refine mm_E.s rfl rfl rfl (fun _ => if_neg v7) ?_
        refine mm_E.s rfl rfl rfl (fun _ => rfl) ?_
        refine mm_E.s rfl rfl rfl (fun _ => if_pos u0) ?_
        refine mm_E.s rfl rfl rfl (fun _ => rfl) ?_
        exact mm_E.ret rfl rfl rfl
      · by_cases u7 : u ≤ 7
        · rw [if_pos ⟨⟨v0, v7⟩, u0, u7⟩]
          obtain ⟨j, hj, rfl⟩ := nI_of2 (x := v) (M := 7) (n := 7) rfl v0 (Int32.not_lt.mp v7)
          refine ⟨h.set 28 (x_it 8 (upd f (nI j).toNatClampNeg u)), kq_102, rfl, rfl, ?_⟩
          refine mm_E.s rfl rfl rfl (fun _ => rfl) ?_
          refine mm_E.s rfl rfl rfl (fun _ => if_neg v0) ?_
          refine mm_E.s rfl rfl rfl (fun _ => rfl) ?_
          refine mm_E.s rfl rfl rfl (fun _ => rfl) ?_
          refine mm_E.s rfl rfl rfl (fun _ => if_neg v7) ?_
          refine mm_E.s rfl rfl rfl (fun _ => rfl) ?_
          refine mm_E.s rfl rfl rfl (fun _ => if_neg u0) ?_
          refine mm_E.s rfl rfl rfl (fun _ => rfl) ?_
          refine mm_E.s rfl rfl rfl (fun _ => rfl) ?_
          refine mm_E.s rfl rfl rfl (fun _ => if_pos u7) ?_
          refine mm_E.s rfl rfl rfl (fun _ => rfl) ?_
          refine mm_E.gf rfl rfl rfl hO rfl ?_
          refine mm_E.s rfl rfl rfl (fun _ => rfl) ?_
          refine mm_E.s rfl rfl rfl (fun _ => rfl) ?_
          refine mm_E.is rfl rfl h28 (mm_bd (by omega) (by decide)) (mm_put_some _ _ _ (mm_nth_lt h28)) ?_
          refine mm_E.s rfl rfl rfl (fun _ => rfl) ?_
          exact mm_E.ret rfl rfl rfl
        · rw [if_neg (fun q => u7 q.2.2)]
          refine ⟨h, kq_102, rfl, rfl, ?_⟩
          refine mm_E.s rfl rfl rfl (fun _ => rfl) ?_
          refine mm_E.s rfl rfl rfl (fun _ => if_neg v0) ?_
          refine mm_E.s rfl rfl rfl (fun _ => rfl) ?_
          refine mm_E.s rfl rfl rfl (fun _ => rfl) ?_
          refine mm_E.s rfl rfl rfl (fun _ => if_neg v7) ?_
          refine mm_E.s rfl rfl rfl (fun _ => rfl) ?_
          refine mm_E.s rfl rfl rfl (fun _ => if_neg u0) ?_
          refine mm_E.s rfl rfl rfl (fun _ => rfl) ?_
          refine mm_E.s rfl rfl rfl (fun _ => rfl) ?_
          refine mm_E.s rfl rfl rfl (fun _ => if_neg u7) ?_
          refine mm_E.s rfl rfl rfl (fun _ => rfl) ?_
          exact mm_E.ret rfl rfl rfl
end
section
/-- the model's cells, wherever they stand -/
def x_eM (M : mm_H) : Prop := ∀ T : mm_H, T.length = 25 → x_em (T ++ M) 0 0 0
/-- a counter with two empty complexes beside an empty model -/
def x_e0 (h : mm_H) (ro co : Int32) (mi : Int64) (ki : Int32) : Prop := ∃ (pl0 ke0 sz0 se0 gr0 pl1 ke1 sz1 se1 gr1 im ce wo pv fa pm pw fr ba : Nat → Int32) (rw : Nat → Int64) (mo : Int32) (M : mm_H), h = ([.inr (3, [.ref 1, .ref 7, .ref 13, .ref 14, .ref 21, .ref 23, .ref 24]), .inr (0, [.ref 2, .ref 3, .ref 4, .ref 5, .ref 6]), x_it 256 pl0, x_it 256 ke0, x_it 4 sz0, x_it 96 se0, x_it 4 gr0, .inr (0, [.ref 8, .ref 9, .ref 10, .ref 11, .ref 12]), x_it 256 pl1, x_it 256 ke1, x_it 4 sz1, x_it 96 se1, x_it 4 gr1, x_it 8 im, .inr (1, [.ref 15, .ref 16, .ref 17, .ref 18, .ref 19, .ref 20, .int ro, .int co, .int mo, .long mi, .int ki]), x_it 2304 ce, x_it 2304 wo, x_it 31 pv, x_it 48 fa, x_it 10 pm, x_it 10 pw, .inr (2, [.ref 22]), x_lg 24 rw, x_it 24 fr, x_it 24 ba] ++ M : mm_H) ∧ (∀ j, j < 4 → sz0 j = 0) ∧ (∀ j, j < 4 → sz1 j = 0) ∧ (∀ j, j < 256 → pl0 j = -1) ∧ (∀ j, j < 256 → pl1 j = -1) ∧ x_eM M
theorem x_e0_em {h : mm_H} {ro co : Int32} {mi : Int64} {ki : Int32} (hE : x_e0 h ro co mi ki) : x_em h 0 0 0 := by
  obtain ⟨pl0, ke0, sz0, se0, gr0, pl1, ke1, sz1, se1, gr1, im, ce, wo, pv, fa, pm, pw, fr, ba, rw, mo, M, rfl, hs0, hs1, hp0, hp1, hM⟩ := hE
  exact hM _ rfl
theorem z_isD1 {h : mm_H} {k : Int32} (h0 : ¬ k < 0) (h3 : ¬ 4 ≤ k) : mm_EC kM 53 [.int k] h (some (.int 1), h) := by
  refine ⟨kq_53, rfl, rfl, ?_⟩
  refine mm_E.s rfl rfl rfl (fun _ => rfl) ?_
  refine mm_E.s rfl rfl rfl (fun _ => if_neg h0) ?_
  refine mm_E.s rfl rfl rfl (fun _ => rfl) ?_
  refine mm_E.s rfl rfl rfl (fun _ => rfl) ?_
  refine mm_E.s rfl rfl rfl (fun _ => if_neg h3) ?_
  refine mm_E.s rfl rfl rfl (fun _ => rfl) ?_
  refine mm_E.s rfl rfl rfl (fun _ => rfl) ?_
  exact mm_E.ret rfl rfl rfl
theorem z_isD0 {h : mm_H} {k : Int32} (hk : k < 0 ∨ 4 ≤ k) : mm_EC kM 53 [.int k] h (some (.int 0), h) := by
  refine ⟨kq_53, rfl, rfl, ?_⟩
  by_cases h0 : k < 0
  · skip
    refine mm_E.s rfl rfl rfl (fun _ => rfl) ?_
    refine mm_E.s rfl rfl rfl (fun _ => if_pos h0) ?_
    refine mm_E.s rfl rfl rfl (fun _ => rfl) ?_
    exact mm_E.ret rfl rfl rfl
  · have h3 : 4 ≤ k := hk.resolve_left h0
    refine mm_E.s rfl rfl rfl (fun _ => rfl) ?_
    refine mm_E.s rfl rfl rfl (fun _ => if_neg h0) ?_
    refine mm_E.s rfl rfl rfl (fun _ => rfl) ?_
    refine mm_E.s rfl rfl rfl (fun _ => rfl) ?_
    refine mm_E.s rfl rfl rfl (fun _ => if_pos h3) ?_
    refine mm_E.s rfl rfl rfl (fun _ => rfl) ?_
    exact mm_E.ret rfl rfl rfl

theorem x_34 {k : Int32} (h : 3 < k) : 4 ≤ k := by
  rw [Int32.lt_iff_toInt_lt] at h
  rw [Int32.le_iff_toInt_le]
  have h3 : (3 : Int32).toInt = 3 := rfl
  have h4 : (4 : Int32).toInt = 4 := rfl
  omega
theorem x_43 {k : Int32} (h : 4 ≤ k) : 3 < k := by
  rw [Int32.le_iff_toInt_le] at h
  rw [Int32.lt_iff_toInt_lt]
  have h3 : (3 : Int32).toInt = 3 := rfl
  have h4 : (4 : Int32).toInt = 4 := rfl
  omega
theorem x_255 {s : Int32} (h1 : ¬ s ≤ 0) (h2 : ¬ 256 ≤ s) : ∃ j : Nat, j < 256 ∧ s = nI j := by
  have a0 : (0 : Int32).toInt = 0 := rfl
  have a1 : (256 : Int32).toInt = 256 := rfl
  have h1' : ¬ s.toInt ≤ (0 : Int32).toInt := fun q => h1 (Int32.le_iff_toInt_le.mpr q)
  have h2' : ¬ (256 : Int32).toInt ≤ s.toInt := fun q => h2 (Int32.le_iff_toInt_le.mpr q)
  refine ⟨s.toInt.toNat, by omega, ?_⟩
  apply Int32.toInt_inj.mp
  rw [nI_toInt (by omega)]
  omega
theorem z_cx0 {h : mm_H} {ro co : Int32} {mi : Int64} {ki : Int32} (hE : x_e0 h ro co mi ki) : mm_EC kM 52 [.ref 0, .int 0] h (some (.ref 1), h) := by
  obtain ⟨pl0, ke0, sz0, se0, gr0, pl1, ke1, sz1, se1, gr1, im, ce, wo, pv, fa, pm, pw, fr, ba, rw, mo, M, rfl, hs0, hs1, hp0, hp1, hM⟩ := hE
  refine ⟨kq_52, rfl, rfl, ?_⟩
  refine mm_E.s rfl rfl rfl (fun _ => rfl) ?_
  refine mm_E.s rfl rfl rfl (fun _ => rfl) ?_
  refine mm_E.s rfl rfl rfl (fun _ => rfl) ?_
  refine mm_E.gf rfl rfl rfl rfl rfl ?_
  exact mm_E.ret rfl rfl rfl

theorem z_cx1 {h : mm_H} {ro co : Int32} {mi : Int64} {ki : Int32} (hE : x_e0 h ro co mi ki) : mm_EC kM 52 [.ref 0, .int 1] h (some (.ref 7), h) := by
  obtain ⟨pl0, ke0, sz0, se0, gr0, pl1, ke1, sz1, se1, gr1, im, ce, wo, pv, fa, pm, pw, fr, ba, rw, mo, M, rfl, hs0, hs1, hp0, hp1, hM⟩ := hE
  refine ⟨kq_52, rfl, rfl, ?_⟩
  refine mm_E.s rfl rfl rfl (fun _ => rfl) ?_
  refine mm_E.s rfl rfl rfl (fun _ => rfl) ?_
  refine mm_E.s rfl rfl rfl (fun _ => rfl) ?_
  refine mm_E.s rfl rfl rfl (fun _ => rfl) ?_
  refine mm_E.s rfl rfl rfl (fun _ => rfl) ?_
  refine mm_E.s rfl rfl rfl (fun _ => rfl) ?_
  refine mm_E.gf rfl rfl rfl rfl rfl ?_
  refine mm_E.s rfl rfl rfl (fun _ => rfl) ?_
  exact mm_E.ret rfl rfl rfl

theorem z_cxN {h : mm_H} {ro co : Int32} {mi : Int64} {ki : Int32} (hE : x_e0 h ro co mi ki) {c : Int32} (hc : ¬ (c = 0 ∨ c = 1)) : mm_EC kM 52 [.ref 0, .int c] h (some .null, h) := by
  obtain ⟨pl0, ke0, sz0, se0, gr0, pl1, ke1, sz1, se1, gr1, im, ce, wo, pv, fa, pm, pw, fr, ba, rw, mo, M, rfl, hs0, hs1, hp0, hp1, hM⟩ := hE
  have h0 : ¬ c = 0 := fun q => hc (Or.inl q)
  have h1 : ¬ c = 1 := fun q => hc (Or.inr q)
  refine ⟨kq_52, rfl, rfl, ?_⟩
  refine mm_E.s rfl rfl rfl (fun _ => rfl) ?_
  refine mm_E.s rfl rfl rfl (fun _ => if_neg h0) ?_
  refine mm_E.s rfl rfl rfl (fun _ => rfl) ?_
  refine mm_E.s rfl rfl rfl (fun _ => rfl) ?_
  refine mm_E.s rfl rfl rfl (fun _ => if_neg h1) ?_
  refine mm_E.s rfl rfl rfl (fun _ => rfl) ?_
  exact mm_E.ret rfl rfl rfl

theorem z_size0 {h : mm_H} {ro co : Int32} {mi : Int64} {ki : Int32} (hE : x_e0 h ro co mi ki) (k : Int32) : mm_EC kM 4 [.ref 1, .int k] h (some (.int 0), h) := by
  obtain ⟨pl0, ke0, sz0, se0, gr0, pl1, ke1, sz1, se1, gr1, im, ce, wo, pv, fa, pm, pw, fr, ba, rw, mo, M, rfl, hs0, hs1, hp0, hp1, hM⟩ := hE
  refine ⟨kq_4, rfl, rfl, ?_⟩
  by_cases hk : k < 0 ∨ 4 ≤ k
  · skip
    refine mm_E.s rfl rfl rfl (fun _ => rfl) ?_
    refine mm_E.ic rfl rfl rfl rfl rfl (z_isD0 hk) ?_
    refine mm_E.s rfl rfl rfl (fun _ => rfl) ?_
    refine mm_E.s rfl rfl rfl (fun _ => rfl) ?_
    exact mm_E.ret rfl rfl rfl
  · have k0 : ¬ k < 0 := fun q => hk (Or.inl q)
    have k4 : ¬ 4 ≤ k := fun q => hk (Or.inr q)
    obtain ⟨j, hj, rfl⟩ := nI_of2 (x := k) (M := 3) (n := 3) rfl k0 (Int32.not_lt.mp (fun q => k4 (x_34 q)))
    refine mm_E.s rfl rfl rfl (fun _ => rfl) ?_
    refine mm_E.ic rfl rfl rfl rfl rfl (z_isD1 k0 k4) ?_
    refine mm_E.s rfl rfl rfl (fun _ => rfl) ?_
    refine mm_E.s rfl rfl rfl (fun _ => rfl) ?_
    refine mm_E.gf rfl rfl rfl rfl rfl ?_
    refine mm_E.s rfl rfl rfl (fun _ => rfl) ?_
    refine mm_E.ia rfl rfl rfl (mm_bd (by omega) (by decide)) (v := 0) (by rw [mm_cl (by omega)]; exact hs0 _ (by omega)) ?_
    refine mm_E.s rfl rfl rfl (fun _ => rfl) ?_
    exact mm_E.ret rfl rfl rfl

theorem z_size1 {h : mm_H} {ro co : Int32} {mi : Int64} {ki : Int32} (hE : x_e0 h ro co mi ki) (k : Int32) : mm_EC kM 4 [.ref 7, .int k] h (some (.int 0), h) := by
  obtain ⟨pl0, ke0, sz0, se0, gr0, pl1, ke1, sz1, se1, gr1, im, ce, wo, pv, fa, pm, pw, fr, ba, rw, mo, M, rfl, hs0, hs1, hp0, hp1, hM⟩ := hE
  refine ⟨kq_4, rfl, rfl, ?_⟩
  by_cases hk : k < 0 ∨ 4 ≤ k
  · skip
    refine mm_E.s rfl rfl rfl (fun _ => rfl) ?_
    refine mm_E.ic rfl rfl rfl rfl rfl (z_isD0 hk) ?_
    refine mm_E.s rfl rfl rfl (fun _ => rfl) ?_
    refine mm_E.s rfl rfl rfl (fun _ => rfl) ?_
    exact mm_E.ret rfl rfl rfl
  · have k0 : ¬ k < 0 := fun q => hk (Or.inl q)
    have k4 : ¬ 4 ≤ k := fun q => hk (Or.inr q)
    obtain ⟨j, hj, rfl⟩ := nI_of2 (x := k) (M := 3) (n := 3) rfl k0 (Int32.not_lt.mp (fun q => k4 (x_34 q)))
    refine mm_E.s rfl rfl rfl (fun _ => rfl) ?_
    refine mm_E.ic rfl rfl rfl rfl rfl (z_isD1 k0 k4) ?_
    refine mm_E.s rfl rfl rfl (fun _ => rfl) ?_
    refine mm_E.s rfl rfl rfl (fun _ => rfl) ?_
    refine mm_E.gf rfl rfl rfl rfl rfl ?_
    refine mm_E.s rfl rfl rfl (fun _ => rfl) ?_
    refine mm_E.ia rfl rfl rfl (mm_bd (by omega) (by decide)) (v := 0) (by rw [mm_cl (by omega)]; exact hs1 _ (by omega)) ?_
    refine mm_E.s rfl rfl rfl (fun _ => rfl) ?_
    exact mm_E.ret rfl rfl rfl

theorem z_holds0 {h : mm_H} {ro co : Int32} {mi : Int64} {ki : Int32} (hE : x_e0 h ro co mi ki) (s : Int32) : mm_EC kM 6 [.ref 1, .int s] h (some (.int 0), h) := by
  obtain ⟨pl0, ke0, sz0, se0, gr0, pl1, ke1, sz1, se1, gr1, im, ce, wo, pv, fa, pm, pw, fr, ba, rw, mo, M, rfl, hs0, hs1, hp0, hp1, hM⟩ := hE
  refine ⟨kq_6, rfl, rfl, ?_⟩
  by_cases h1 : s ≤ 0
  · skip
    refine mm_E.s rfl rfl rfl (fun _ => rfl) ?_
    refine mm_E.s rfl rfl rfl (fun _ => if_pos h1) ?_
    refine mm_E.s rfl rfl rfl (fun _ => rfl) ?_
    exact mm_E.ret rfl rfl rfl
  · by_cases h2 : 256 ≤ s
    · skip
      refine mm_E.s rfl rfl rfl (fun _ => rfl) ?_
      refine mm_E.s rfl rfl rfl (fun _ => if_neg h1) ?_
      refine mm_E.s rfl rfl rfl (fun _ => rfl) ?_
      refine mm_E.s rfl rfl rfl (fun _ => rfl) ?_
      refine mm_E.s rfl rfl rfl (fun _ => if_pos h2) ?_
      refine mm_E.s rfl rfl rfl (fun _ => rfl) ?_
      exact mm_E.ret rfl rfl rfl
    · obtain ⟨j, hj, rfl⟩ := x_255 h1 h2
      refine mm_E.s rfl rfl rfl (fun _ => rfl) ?_
      refine mm_E.s rfl rfl rfl (fun _ => if_neg h1) ?_
      refine mm_E.s rfl rfl rfl (fun _ => rfl) ?_
      refine mm_E.s rfl rfl rfl (fun _ => rfl) ?_
      refine mm_E.s rfl rfl rfl (fun _ => if_neg h2) ?_
      refine mm_E.s rfl rfl rfl (fun _ => rfl) ?_
      refine mm_E.gf rfl rfl rfl rfl rfl ?_
      refine mm_E.s rfl rfl rfl (fun _ => rfl) ?_
      refine mm_E.ia rfl rfl rfl (mm_bd (by omega) (by decide)) (v := -1) (by rw [mm_cl (by omega)]; exact hp0 _ (by omega)) ?_
      refine mm_E.s rfl rfl rfl (fun _ => rfl) ?_
      refine mm_E.s rfl rfl rfl (fun _ => rfl) ?_
      refine mm_E.s rfl rfl rfl (fun _ => rfl) ?_
      exact mm_E.ret rfl rfl rfl

theorem z_holds1 {h : mm_H} {ro co : Int32} {mi : Int64} {ki : Int32} (hE : x_e0 h ro co mi ki) (s : Int32) : mm_EC kM 6 [.ref 7, .int s] h (some (.int 0), h) := by
  obtain ⟨pl0, ke0, sz0, se0, gr0, pl1, ke1, sz1, se1, gr1, im, ce, wo, pv, fa, pm, pw, fr, ba, rw, mo, M, rfl, hs0, hs1, hp0, hp1, hM⟩ := hE
  refine ⟨kq_6, rfl, rfl, ?_⟩
  by_cases h1 : s ≤ 0
  · skip
    refine mm_E.s rfl rfl rfl (fun _ => rfl) ?_
    refine mm_E.s rfl rfl rfl (fun _ => if_pos h1) ?_
    refine mm_E.s rfl rfl rfl (fun _ => rfl) ?_
    exact mm_E.ret rfl rfl rfl
  · by_cases h2 : 256 ≤ s
    · skip
      refine mm_E.s rfl rfl rfl (fun _ => rfl) ?_
      refine mm_E.s rfl rfl rfl (fun _ => if_neg h1) ?_
      refine mm_E.s rfl rfl rfl (fun _ => rfl) ?_
      refine mm_E.s rfl rfl rfl (fun _ => rfl) ?_
      refine mm_E.s rfl rfl rfl (fun _ => if_pos h2) ?_
      refine mm_E.s rfl rfl rfl (fun _ => rfl) ?_
      exact mm_E.ret rfl rfl rfl
    · obtain ⟨j, hj, rfl⟩ := x_255 h1 h2
      refine mm_E.s rfl rfl rfl (fun _ => rfl) ?_
      refine mm_E.s rfl rfl rfl (fun _ => if_neg h1) ?_
      refine mm_E.s rfl rfl rfl (fun _ => rfl) ?_
      refine mm_E.s rfl rfl rfl (fun _ => rfl) ?_
      refine mm_E.s rfl rfl rfl (fun _ => if_neg h2) ?_
      refine mm_E.s rfl rfl rfl (fun _ => rfl) ?_
      refine mm_E.gf rfl rfl rfl rfl rfl ?_
      refine mm_E.s rfl rfl rfl (fun _ => rfl) ?_
      refine mm_E.ia rfl rfl rfl (mm_bd (by omega) (by decide)) (v := -1) (by rw [mm_cl (by omega)]; exact hp1 _ (by omega)) ?_
      refine mm_E.s rfl rfl rfl (fun _ => rfl) ?_
      refine mm_E.s rfl rfl rfl (fun _ => rfl) ?_
      refine mm_E.s rfl rfl rfl (fun _ => rfl) ?_
      exact mm_E.ret rfl rfl rfl

theorem z_cyc0 {h : mm_H} {ro co : Int32} {mi : Int64} {ki : Int32} (hE : x_e0 h ro co mi ki) (k : Int32) : mm_EC kM 13 [.ref 1, .int k] h (some (.int 1), h) := by
  have hE0 := hE
  obtain ⟨pl0, ke0, sz0, se0, gr0, pl1, ke1, sz1, se1, gr1, im, ce, wo, pv, fa, pm, pw, fr, ba, rw, mo, M, rfl, hs0, hs1, hp0, hp1, hM⟩ := hE
  refine ⟨kq_13, rfl, rfl, ?_⟩
  refine mm_E.s rfl rfl rfl (fun _ => rfl) ?_
  refine mm_E.s rfl rfl rfl (fun _ => rfl) ?_
  refine mm_E.s rfl rfl rfl (fun _ => rfl) ?_
  refine mm_E.s rfl rfl rfl (fun _ => rfl) ?_
  refine mm_E.s rfl rfl rfl (fun _ => rfl) ?_
  refine mm_E.s rfl rfl rfl (fun _ => rfl) ?_
  refine mm_E.s rfl rfl rfl (fun _ => rfl) ?_
  refine mm_E.iv rfl rfl rfl rfl rfl rfl (z_size0 hE0 _) ?_
  refine mm_E.s rfl rfl rfl (fun _ => rfl) ?_
  refine mm_E.s rfl rfl rfl (fun _ => rfl) ?_
  exact mm_E.ret rfl rfl rfl

theorem z_cyc1 {h : mm_H} {ro co : Int32} {mi : Int64} {ki : Int32} (hE : x_e0 h ro co mi ki) (k : Int32) : mm_EC kM 13 [.ref 7, .int k] h (some (.int 1), h) := by
  have hE0 := hE
  obtain ⟨pl0, ke0, sz0, se0, gr0, pl1, ke1, sz1, se1, gr1, im, ce, wo, pv, fa, pm, pw, fr, ba, rw, mo, M, rfl, hs0, hs1, hp0, hp1, hM⟩ := hE
  refine ⟨kq_13, rfl, rfl, ?_⟩
  refine mm_E.s rfl rfl rfl (fun _ => rfl) ?_
  refine mm_E.s rfl rfl rfl (fun _ => rfl) ?_
  refine mm_E.s rfl rfl rfl (fun _ => rfl) ?_
  refine mm_E.s rfl rfl rfl (fun _ => rfl) ?_
  refine mm_E.s rfl rfl rfl (fun _ => rfl) ?_
  refine mm_E.s rfl rfl rfl (fun _ => rfl) ?_
  refine mm_E.s rfl rfl rfl (fun _ => rfl) ?_
  refine mm_E.iv rfl rfl rfl rfl rfl rfl (z_size1 hE0 _) ?_
  refine mm_E.s rfl rfl rfl (fun _ => rfl) ?_
  refine mm_E.s rfl rfl rfl (fun _ => rfl) ?_
  exact mm_E.ret rfl rfl rfl

theorem z_shape {h : mm_H} {ro co : Int32} {mi : Int64} {ki : Int32} (hE : x_e0 h ro co mi ki) (c : Int32) : ∃ h', mm_EC kM 16 [.ref 14, .int 0, .int c] h (none, h') ∧ x_e0 h' 0 c mi ki := by
  obtain ⟨pl0, ke0, sz0, se0, gr0, pl1, ke1, sz1, se1, gr1, im, ce, wo, pv, fa, pm, pw, fr, ba, rw, mo, M, rfl, hs0, hs1, hp0, hp1, hM⟩ := hE
  refine ⟨([.inr (3, [.ref 1, .ref 7, .ref 13, .ref 14, .ref 21, .ref 23, .ref 24]), .inr (0, [.ref 2, .ref 3, .ref 4, .ref 5, .ref 6]), x_it 256 pl0, x_it 256 ke0, x_it 4 sz0, x_it 96 se0, x_it 4 gr0, .inr (0, [.ref 8, .ref 9, .ref 10, .ref 11, .ref 12]), x_it 256 pl1, x_it 256 ke1, x_it 4 sz1, x_it 96 se1, x_it 4 gr1, x_it 8 im, .inr (1, [.ref 15, .ref 16, .ref 17, .ref 18, .ref 19, .ref 20, .int 0, .int c, .int mo, .long mi, .int ki]), x_it 2304 ce, x_it 2304 wo, x_it 31 pv, x_it 48 fa, x_it 10 pm, x_it 10 pw, .inr (2, [.ref 22]), x_lg 24 rw, x_it 24 fr, x_it 24 ba] ++ M : mm_H), ⟨kq_16, rfl, rfl, ?_⟩, ⟨pl0, ke0, sz0, se0, gr0, pl1, ke1, sz1, se1, gr1, im, ce, wo, pv, fa, pm, pw, fr, ba, rw, mo, M, rfl, hs0, hs1, hp0, hp1, hM⟩⟩
  refine mm_E.s rfl rfl rfl (fun _ => rfl) ?_
  refine mm_E.s rfl rfl rfl (fun _ => rfl) ?_
  refine mm_E.pfi rfl rfl rfl rfl rfl rfl ?_
  refine mm_E.s rfl rfl rfl (fun _ => rfl) ?_
  refine mm_E.s rfl rfl rfl (fun _ => rfl) ?_
  refine mm_E.pfi rfl rfl rfl rfl rfl rfl ?_
  refine mm_E.s rfl rfl rfl (fun _ => rfl) ?_
  refine mm_E.s rfl rfl rfl (fun _ => rfl) ?_
  refine mm_E.s rfl rfl rfl (fun _ => rfl) ?_
  refine mm_E.s rfl rfl rfl (fun _ => rfl) ?_
  refine mm_E.gf rfl rfl rfl rfl rfl ?_
  refine mm_E.s rfl rfl rfl (fun _ => rfl) ?_
  exact mm_E.ret rfl rfl rfl

theorem z_load {h : mm_H} {co : Int32} {mi : Int64} {ki : Int32} (hE : x_e0 h 0 co mi ki) (p : Int32) : ∃ h', mm_EC kM 20 [.ref 14, .int p, .int 1] h (none, h') ∧ x_e0 h' 0 co mi ki := by
  obtain ⟨pl0, ke0, sz0, se0, gr0, pl1, ke1, sz1, se1, gr1, im, ce, wo, pv, fa, pm, pw, fr, ba, rw, mo, M, rfl, hs0, hs1, hp0, hp1, hM⟩ := hE
  refine ⟨([.inr (3, [.ref 1, .ref 7, .ref 13, .ref 14, .ref 21, .ref 23, .ref 24]), .inr (0, [.ref 2, .ref 3, .ref 4, .ref 5, .ref 6]), x_it 256 pl0, x_it 256 ke0, x_it 4 sz0, x_it 96 se0, x_it 4 gr0, .inr (0, [.ref 8, .ref 9, .ref 10, .ref 11, .ref 12]), x_it 256 pl1, x_it 256 ke1, x_it 4 sz1, x_it 96 se1, x_it 4 gr1, x_it 8 im, .inr (1, [.ref 15, .ref 16, .ref 17, .ref 18, .ref 19, .ref 20, .int 0, .int co, .int (1 * p), .long mi, .int ki]), x_it 2304 ce, x_it 2304 wo, x_it 31 pv, x_it 48 fa, x_it 10 pm, x_it 10 pw, .inr (2, [.ref 22]), x_lg 24 rw, x_it 24 fr, x_it 24 ba] ++ M : mm_H), ⟨kq_20, rfl, rfl, ?_⟩, ⟨pl0, ke0, sz0, se0, gr0, pl1, ke1, sz1, se1, gr1, im, ce, wo, pv, fa, pm, pw, fr, ba, rw, _, M, rfl, hs0, hs1, hp0, hp1, hM⟩⟩
  refine mm_E.s rfl rfl rfl (fun _ => rfl) ?_
  refine mm_E.s rfl rfl rfl (fun _ => rfl) ?_
  refine mm_E.pfi rfl rfl rfl rfl rfl rfl ?_
  refine mm_E.s rfl rfl rfl (fun _ => rfl) ?_
  refine mm_E.s rfl rfl rfl (fun _ => rfl) ?_
  refine mm_E.s rfl rfl rfl (fun _ => rfl) ?_
  refine mm_E.s rfl rfl rfl (fun _ => rfl) ?_
  refine mm_E.s rfl rfl rfl (fun _ => rfl) ?_
  refine mm_E.s rfl rfl rfl (fun _ => rfl) ?_
  refine mm_E.s rfl rfl rfl (fun _ => rfl) ?_
  refine mm_E.gf rfl rfl rfl rfl rfl ?_
  refine mm_E.s rfl rfl rfl (fun _ => rfl) ?_
  refine mm_E.s rfl rfl rfl (fun _ => rfl) ?_
  refine mm_E.pfi rfl rfl rfl rfl rfl rfl ?_
  refine mm_E.s rfl rfl rfl (fun _ => rfl) ?_
  refine mm_E.s rfl rfl rfl (fun _ => rfl) ?_
  refine mm_E.s rfl rfl rfl (fun _ => rfl) ?_
  refine mm_E.s rfl rfl rfl (fun _ => rfl) ?_
  refine mm_E.s rfl rfl rfl (fun _ => rfl) ?_
  refine mm_E.s rfl rfl rfl (fun _ => rfl) ?_
  refine mm_E.s rfl rfl rfl (fun _ => rfl) ?_
  refine mm_E.s rfl rfl rfl (fun _ => rfl) ?_
  refine mm_E.s rfl rfl rfl (fun _ => rfl) ?_
  refine mm_E.gf rfl rfl rfl rfl rfl ?_
  refine mm_E.s rfl rfl rfl (fun _ => rfl) ?_
  exact mm_E.ret rfl rfl rfl

theorem z_piv {h : mm_H} {co : Int32} {mi : Int64} {ki : Int32} (hE : x_e0 h 0 co mi ki) (c d : Int32) : mm_EC kM 21 [.ref 14, .int 0, .int c, .int d] h (some (.int 0), h) := by
  obtain ⟨pl0, ke0, sz0, se0, gr0, pl1, ke1, sz1, se1, gr1, im, ce, wo, pv, fa, pm, pw, fr, ba, rw, mo, M, rfl, hs0, hs1, hp0, hp1, hM⟩ := hE
  refine ⟨kq_21, rfl, rfl, ?_⟩
  refine mm_E.s rfl rfl rfl (fun _ => rfl) ?_
  refine mm_E.s rfl rfl rfl (fun _ => rfl) ?_
  refine mm_E.s rfl rfl rfl (fun _ => rfl) ?_
  refine mm_E.s rfl rfl rfl (fun _ => rfl) ?_
  refine mm_E.gf rfl rfl rfl rfl rfl ?_
  refine mm_E.s rfl rfl rfl (fun _ => rfl) ?_
  refine mm_E.s rfl rfl rfl (fun _ => rfl) ?_
  exact mm_E.ret rfl rfl rfl

theorem z_g14 {h : mm_H} {ro co : Int32} {mi : Int64} {ki : Int32} (hE : x_e0 h ro co mi ki) : ∃ fs, mm_nth h 14 = some (.inr (1, fs)) := by
  obtain ⟨pl0, ke0, sz0, se0, gr0, pl1, ke1, sz1, se1, gr1, im, ce, wo, pv, fa, pm, pw, fr, ba, rw, mo, M, rfl, hs0, hs1, hp0, hp1, hM⟩ := hE
  exact ⟨_, rfl⟩
theorem z_x0 {h : mm_H} {ro co : Int32} {mi : Int64} {ki : Int32} (hE : x_e0 h ro co mi ki) : ∃ fs, mm_nth h 0 = some (.inr (3, fs)) ∧ mm_nth fs 0 = some (.ref 1) ∧ mm_nth fs 1 = some (.ref 7) ∧ mm_nth fs 3 = some (.ref 14) ∧ mm_nth fs 4 = some (.ref 21) := by
  obtain ⟨pl0, ke0, sz0, se0, gr0, pl1, ke1, sz1, se1, gr1, im, ce, wo, pv, fa, pm, pw, fr, ba, rw, mo, M, rfl, hs0, hs1, hp0, hp1, hM⟩ := hE
  exact ⟨_, rfl, rfl, rfl, rfl, rfl⟩
theorem z_c1 {h : mm_H} {ro co : Int32} {mi : Int64} {ki : Int32} (hE : x_e0 h ro co mi ki) : ∃ fs, mm_nth h 1 = some (.inr (0, fs)) := by
  obtain ⟨pl0, ke0, sz0, se0, gr0, pl1, ke1, sz1, se1, gr1, im, ce, wo, pv, fa, pm, pw, fr, ba, rw, mo, M, rfl, hs0, hs1, hp0, hp1, hM⟩ := hE
  exact ⟨_, rfl⟩
theorem z_c7 {h : mm_H} {ro co : Int32} {mi : Int64} {ki : Int32} (hE : x_e0 h ro co mi ki) : ∃ fs, mm_nth h 7 = some (.inr (0, fs)) := by
  obtain ⟨pl0, ke0, sz0, se0, gr0, pl1, ke1, sz1, se1, gr1, im, ce, wo, pv, fa, pm, pw, fr, ba, rw, mo, M, rfl, hs0, hs1, hp0, hp1, hM⟩ := hE
  exact ⟨_, rfl⟩
theorem z_el0 {h : mm_H} {mi : Int64} {ki : Int32} (hE : x_e0 h 0 0 mi ki) (p : Int32) : ∃ h', mm_EC kM 19 [.ref 14, .int p, .int 1] h (some (.int 0), h') ∧ x_e0 h' 0 0 1 ki := by
  have hE0 := hE
  obtain ⟨h1, E1, hE⟩ := z_load hE p
  have hO : ∃ fs, mm_nth h 14 = some (.inr (1, fs)) := z_g14 hE0
  obtain ⟨fs0, hO⟩ := hO
  obtain ⟨pl0, ke0, sz0, se0, gr0, pl1, ke1, sz1, se1, gr1, im, ce, wo, pv, fa, pm, pw, fr, ba, rw, mo, M, rfl, hs0, hs1, hp0, hp1, hM⟩ := hE
  have hE1 : x_e0 ([.inr (3, [.ref 1, .ref 7, .ref 13, .ref 14, .ref 21, .ref 23, .ref 24]), .inr (0, [.ref 2, .ref 3, .ref 4, .ref 5, .ref 6]), x_it 256 pl0, x_it 256 ke0, x_it 4 sz0, x_it 96 se0, x_it 4 gr0, .inr (0, [.ref 8, .ref 9, .ref 10, .ref 11, .ref 12]), x_it 256 pl1, x_it 256 ke1, x_it 4 sz1, x_it 96 se1, x_it 4 gr1, x_it 8 im, .inr (1, [.ref 15, .ref 16, .ref 17, .ref 18, .ref 19, .ref 20, .int 0, .int 0, .int mo, .long 1, .int ki]), x_it 2304 ce, x_it 2304 wo, x_it 31 pv, x_it 48 fa, x_it 10 pm, x_it 10 pw, .inr (2, [.ref 22]), x_lg 24 rw, x_it 24 fr, x_it 24 ba] ++ M : mm_H) 0 0 1 ki := ⟨pl0, ke0, sz0, se0, gr0, pl1, ke1, sz1, se1, gr1, im, ce, wo, pv, fa, pm, pw, fr, ba, rw, mo, M, rfl, hs0, hs1, hp0, hp1, hM⟩
  refine ⟨([.inr (3, [.ref 1, .ref 7, .ref 13, .ref 14, .ref 21, .ref 23, .ref 24]), .inr (0, [.ref 2, .ref 3, .ref 4, .ref 5, .ref 6]), x_it 256 pl0, x_it 256 ke0, x_it 4 sz0, x_it 96 se0, x_it 4 gr0, .inr (0, [.ref 8, .ref 9, .ref 10, .ref 11, .ref 12]), x_it 256 pl1, x_it 256 ke1, x_it 4 sz1, x_it 96 se1, x_it 4 gr1, x_it 8 im, .inr (1, [.ref 15, .ref 16, .ref 17, .ref 18, .ref 19, .ref 20, .int 0, .int 0, .int mo, .long 1, .int ki]), x_it 2304 ce, x_it 2304 wo, x_it 31 (upd pv (0 : Int32).toNatClampNeg (0 - 0)), x_it 48 fa, x_it 10 pm, x_it 10 pw, .inr (2, [.ref 22]), x_lg 24 rw, x_it 24 fr, x_it 24 ba] ++ M : mm_H), ⟨kq_19, rfl, rfl, ?_⟩, ⟨pl0, ke0, sz0, se0, gr0, pl1, ke1, sz1, se1, gr1, im, ce, wo, _, fa, pm, pw, fr, ba, rw, mo, M, rfl, hs0, hs1, hp0, hp1, hM⟩⟩
  refine mm_E.s rfl rfl rfl (fun _ => rfl) ?_
  refine mm_E.s rfl rfl rfl (fun _ => rfl) ?_
  refine mm_E.s rfl rfl rfl (fun _ => rfl) ?_
  refine mm_E.iv rfl rfl rfl rfl hO rfl E1 ?_
  refine mm_E.s rfl rfl rfl (fun _ => rfl) ?_
  refine mm_E.s rfl rfl rfl (fun _ => rfl) ?_
  refine mm_E.pfl rfl rfl rfl rfl rfl rfl ?_
  refine mm_E.s rfl rfl rfl (fun _ => rfl) ?_
  refine mm_E.s rfl rfl rfl (fun _ => rfl) ?_
  refine mm_E.s rfl rfl rfl (fun _ => rfl) ?_
  refine mm_E.s rfl rfl rfl (fun _ => rfl) ?_
  refine mm_E.s rfl rfl rfl (fun _ => rfl) ?_
  refine mm_E.s rfl rfl rfl (fun _ => rfl) ?_
  refine mm_E.s rfl rfl rfl (fun _ => rfl) ?_
  refine mm_E.s rfl rfl rfl (fun _ => rfl) ?_
  refine mm_E.s rfl rfl rfl (fun _ => rfl) ?_
  refine mm_E.s rfl rfl rfl (fun _ => rfl) ?_
  refine mm_E.s rfl rfl rfl (fun _ => rfl) ?_
  refine mm_E.s rfl rfl rfl (fun _ => rfl) ?_
  refine mm_E.s rfl rfl rfl (fun _ => rfl) ?_
  refine mm_E.s rfl rfl rfl (fun _ => rfl) ?_
  refine mm_E.s rfl rfl rfl (fun _ => rfl) ?_
  refine mm_E.gf rfl rfl rfl rfl rfl ?_
  refine mm_E.s rfl rfl rfl (fun _ => rfl) ?_
  refine mm_E.s rfl rfl rfl (fun _ => rfl) ?_
  refine mm_E.gf rfl rfl rfl rfl rfl ?_
  refine mm_E.s rfl rfl rfl (fun _ => rfl) ?_
  refine mm_E.s rfl rfl rfl (fun _ => rfl) ?_
  refine mm_E.s rfl rfl rfl (fun _ => rfl) ?_
  refine mm_E.s rfl rfl rfl (fun _ => rfl) ?_
  refine mm_E.is rfl rfl rfl (by decide) rfl ?_
  refine mm_E.s rfl rfl rfl (fun _ => rfl) ?_
  refine mm_E.s rfl rfl rfl (fun _ => rfl) ?_
  refine mm_E.s rfl rfl rfl (fun _ => rfl) ?_
  refine mm_E.s rfl rfl rfl (fun _ => rfl) ?_
  refine mm_E.s rfl rfl rfl (fun _ => rfl) ?_
  refine mm_E.s rfl rfl rfl (fun _ => rfl) ?_
  refine mm_E.s rfl rfl rfl (fun _ => rfl) ?_
  refine mm_E.s rfl rfl rfl (fun _ => rfl) ?_
  refine mm_E.s rfl rfl rfl (fun _ => rfl) ?_
  refine mm_E.s rfl rfl rfl (fun _ => rfl) ?_
  exact mm_E.ret rfl rfl rfl

theorem z_el1 {h : mm_H} {mi : Int64} {ki : Int32} (hE : x_e0 h 0 1 mi ki) (p : Int32) : ∃ h', mm_EC kM 19 [.ref 14, .int p, .int 1] h (some (.int 0), h') ∧ x_e0 h' 0 1 1 ki := by
  have hE0 := hE
  obtain ⟨h1, E1, hE⟩ := z_load hE p
  have hO : ∃ fs, mm_nth h 14 = some (.inr (1, fs)) := z_g14 hE0
  obtain ⟨fs0, hO⟩ := hO
  obtain ⟨pl0, ke0, sz0, se0, gr0, pl1, ke1, sz1, se1, gr1, im, ce, wo, pv, fa, pm, pw, fr, ba, rw, mo, M, rfl, hs0, hs1, hp0, hp1, hM⟩ := hE
  have hE1 : x_e0 ([.inr (3, [.ref 1, .ref 7, .ref 13, .ref 14, .ref 21, .ref 23, .ref 24]), .inr (0, [.ref 2, .ref 3, .ref 4, .ref 5, .ref 6]), x_it 256 pl0, x_it 256 ke0, x_it 4 sz0, x_it 96 se0, x_it 4 gr0, .inr (0, [.ref 8, .ref 9, .ref 10, .ref 11, .ref 12]), x_it 256 pl1, x_it 256 ke1, x_it 4 sz1, x_it 96 se1, x_it 4 gr1, x_it 8 im, .inr (1, [.ref 15, .ref 16, .ref 17, .ref 18, .ref 19, .ref 20, .int 0, .int 1, .int mo, .long 1, .int ki]), x_it 2304 ce, x_it 2304 wo, x_it 31 pv, x_it 48 fa, x_it 10 pm, x_it 10 pw, .inr (2, [.ref 22]), x_lg 24 rw, x_it 24 fr, x_it 24 ba] ++ M : mm_H) 0 1 1 ki := ⟨pl0, ke0, sz0, se0, gr0, pl1, ke1, sz1, se1, gr1, im, ce, wo, pv, fa, pm, pw, fr, ba, rw, mo, M, rfl, hs0, hs1, hp0, hp1, hM⟩
  refine ⟨([.inr (3, [.ref 1, .ref 7, .ref 13, .ref 14, .ref 21, .ref 23, .ref 24]), .inr (0, [.ref 2, .ref 3, .ref 4, .ref 5, .ref 6]), x_it 256 pl0, x_it 256 ke0, x_it 4 sz0, x_it 96 se0, x_it 4 gr0, .inr (0, [.ref 8, .ref 9, .ref 10, .ref 11, .ref 12]), x_it 256 pl1, x_it 256 ke1, x_it 4 sz1, x_it 96 se1, x_it 4 gr1, x_it 8 im, .inr (1, [.ref 15, .ref 16, .ref 17, .ref 18, .ref 19, .ref 20, .int 0, .int 1, .int mo, .long 1, .int ki]), x_it 2304 ce, x_it 2304 wo, x_it 31 (upd pv (0 : Int32).toNatClampNeg (0 - 0)), x_it 48 fa, x_it 10 pm, x_it 10 pw, .inr (2, [.ref 22]), x_lg 24 rw, x_it 24 fr, x_it 24 ba] ++ M : mm_H), ⟨kq_19, rfl, rfl, ?_⟩, ⟨pl0, ke0, sz0, se0, gr0, pl1, ke1, sz1, se1, gr1, im, ce, wo, _, fa, pm, pw, fr, ba, rw, mo, M, rfl, hs0, hs1, hp0, hp1, hM⟩⟩
  refine mm_E.s rfl rfl rfl (fun _ => rfl) ?_
  refine mm_E.s rfl rfl rfl (fun _ => rfl) ?_
  refine mm_E.s rfl rfl rfl (fun _ => rfl) ?_
  refine mm_E.iv rfl rfl rfl rfl hO rfl E1 ?_
  refine mm_E.s rfl rfl rfl (fun _ => rfl) ?_
  refine mm_E.s rfl rfl rfl (fun _ => rfl) ?_
  refine mm_E.pfl rfl rfl rfl rfl rfl rfl ?_
  refine mm_E.s rfl rfl rfl (fun _ => rfl) ?_
  refine mm_E.s rfl rfl rfl (fun _ => rfl) ?_
  refine mm_E.s rfl rfl rfl (fun _ => rfl) ?_
  refine mm_E.s rfl rfl rfl (fun _ => rfl) ?_
  refine mm_E.s rfl rfl rfl (fun _ => rfl) ?_
  refine mm_E.s rfl rfl rfl (fun _ => rfl) ?_
  refine mm_E.s rfl rfl rfl (fun _ => rfl) ?_
  refine mm_E.s rfl rfl rfl (fun _ => rfl) ?_
  refine mm_E.s rfl rfl rfl (fun _ => rfl) ?_
  refine mm_E.s rfl rfl rfl (fun _ => rfl) ?_
  refine mm_E.s rfl rfl rfl (fun _ => rfl) ?_
  refine mm_E.s rfl rfl rfl (fun _ => rfl) ?_
  refine mm_E.s rfl rfl rfl (fun _ => rfl) ?_
  refine mm_E.s rfl rfl rfl (fun _ => rfl) ?_
  refine mm_E.s rfl rfl rfl (fun _ => rfl) ?_
  refine mm_E.gf rfl rfl rfl rfl rfl ?_
  refine mm_E.s rfl rfl rfl (fun _ => rfl) ?_
  refine mm_E.s rfl rfl rfl (fun _ => rfl) ?_
  refine mm_E.s rfl rfl rfl (fun _ => rfl) ?_
  refine mm_E.s rfl rfl rfl (fun _ => rfl) ?_
  refine mm_E.s rfl rfl rfl (fun _ => rfl) ?_
  refine mm_E.s rfl rfl rfl (fun _ => rfl) ?_
  refine mm_E.s rfl rfl rfl (fun _ => rfl) ?_
  refine mm_E.iv rfl rfl rfl rfl rfl rfl (z_piv hE1 _ _) ?_
  refine mm_E.s rfl rfl rfl (fun _ => rfl) ?_
  refine mm_E.s rfl rfl rfl (fun _ => rfl) ?_
  refine mm_E.s rfl rfl rfl (fun _ => rfl) ?_
  refine mm_E.gf rfl rfl rfl rfl rfl ?_
  refine mm_E.s rfl rfl rfl (fun _ => rfl) ?_
  refine mm_E.s rfl rfl rfl (fun _ => rfl) ?_
  refine mm_E.s rfl rfl rfl (fun _ => rfl) ?_
  refine mm_E.s rfl rfl rfl (fun _ => rfl) ?_
  refine mm_E.s rfl rfl rfl (fun _ => rfl) ?_
  refine mm_E.gf rfl rfl rfl rfl rfl ?_
  refine mm_E.s rfl rfl rfl (fun _ => rfl) ?_
  refine mm_E.s rfl rfl rfl (fun _ => rfl) ?_
  refine mm_E.gf rfl rfl rfl rfl rfl ?_
  refine mm_E.s rfl rfl rfl (fun _ => rfl) ?_
  refine mm_E.s rfl rfl rfl (fun _ => rfl) ?_
  refine mm_E.s rfl rfl rfl (fun _ => rfl) ?_
  refine mm_E.s rfl rfl rfl (fun _ => rfl) ?_
  refine mm_E.is rfl rfl rfl (by decide) rfl ?_
  refine mm_E.s rfl rfl rfl (fun _ => rfl) ?_
  refine mm_E.s rfl rfl rfl (fun _ => rfl) ?_
  refine mm_E.s rfl rfl rfl (fun _ => rfl) ?_
  refine mm_E.s rfl rfl rfl (fun _ => rfl) ?_
  refine mm_E.s rfl rfl rfl (fun _ => rfl) ?_
  refine mm_E.s rfl rfl rfl (fun _ => rfl) ?_
  refine mm_E.s rfl rfl rfl (fun _ => rfl) ?_
  refine mm_E.s rfl rfl rfl (fun _ => rfl) ?_
  refine mm_E.s rfl rfl rfl (fun _ => rfl) ?_
  refine mm_E.s rfl rfl rfl (fun _ => rfl) ?_
  exact mm_E.ret rfl rfl rfl
end
section
theorem z_nk {h : mm_H} (p : Int32) : mm_EC kM 27 [.ref 14, .int p, .int 0] h (none, h) := by
  refine ⟨kq_27, rfl, rfl, ?_⟩
  refine mm_E.s rfl rfl rfl (fun _ => rfl) ?_
  refine mm_E.s rfl rfl rfl (fun _ => rfl) ?_
  exact mm_E.ret rfl rfl rfl

theorem z_kind {h : mm_H} {ro co : Int32} {mi : Int64} {ki : Int32} (hE : x_e0 h ro co mi ki) : ∃ mo h', mm_nth h 14 = some (.inr (1, [.ref 15, .ref 16, .ref 17, .ref 18, .ref 19, .ref 20, .int ro, .int co, .int mo, .long mi, .int ki])) ∧ mm_put h 14 (.inr (1, [.ref 15, .ref 16, .ref 17, .ref 18, .ref 19, .ref 20, .int ro, .int co, .int mo, .long mi, .int 0])) = some h' ∧ x_e0 h' ro co mi 0 := by
  obtain ⟨pl0, ke0, sz0, se0, gr0, pl1, ke1, sz1, se1, gr1, im, ce, wo, pv, fa, pm, pw, fr, ba, rw, mo, M, rfl, hs0, hs1, hp0, hp1, hM⟩ := hE
  exact ⟨mo, ([.inr (3, [.ref 1, .ref 7, .ref 13, .ref 14, .ref 21, .ref 23, .ref 24]), .inr (0, [.ref 2, .ref 3, .ref 4, .ref 5, .ref 6]), x_it 256 pl0, x_it 256 ke0, x_it 4 sz0, x_it 96 se0, x_it 4 gr0, .inr (0, [.ref 8, .ref 9, .ref 10, .ref 11, .ref 12]), x_it 256 pl1, x_it 256 ke1, x_it 4 sz1, x_it 96 se1, x_it 4 gr1, x_it 8 im, .inr (1, [.ref 15, .ref 16, .ref 17, .ref 18, .ref 19, .ref 20, .int ro, .int co, .int mo, .long mi, .int 0]), x_it 2304 ce, x_it 2304 wo, x_it 31 pv, x_it 48 fa, x_it 10 pm, x_it 10 pw, .inr (2, [.ref 22]), x_lg 24 rw, x_it 24 fr, x_it 24 ba] ++ M : mm_H), rfl, rfl, ⟨pl0, ke0, sz0, se0, gr0, pl1, ke1, sz1, se1, gr1, im, ce, wo, pv, fa, pm, pw, fr, ba, rw, mo, M, rfl, hs0, hs1, hp0, hp1, hM⟩⟩
theorem z_cols {h : mm_H} {ro co : Int32} {mi : Int64} {ki : Int32} (hE : x_e0 h ro co mi ki) (c : Int32) : ∃ mo h', mm_nth h 14 = some (.inr (1, [.ref 15, .ref 16, .ref 17, .ref 18, .ref 19, .ref 20, .int ro, .int co, .int mo, .long mi, .int ki])) ∧ mm_put h 14 (.inr (1, [.ref 15, .ref 16, .ref 17, .ref 18, .ref 19, .ref 20, .int ro, .int c, .int mo, .long mi, .int ki])) = some h' ∧ x_e0 h' ro c mi ki := by
  obtain ⟨pl0, ke0, sz0, se0, gr0, pl1, ke1, sz1, se1, gr1, im, ce, wo, pv, fa, pm, pw, fr, ba, rw, mo, M, rfl, hs0, hs1, hp0, hp1, hM⟩ := hE
  exact ⟨mo, ([.inr (3, [.ref 1, .ref 7, .ref 13, .ref 14, .ref 21, .ref 23, .ref 24]), .inr (0, [.ref 2, .ref 3, .ref 4, .ref 5, .ref 6]), x_it 256 pl0, x_it 256 ke0, x_it 4 sz0, x_it 96 se0, x_it 4 gr0, .inr (0, [.ref 8, .ref 9, .ref 10, .ref 11, .ref 12]), x_it 256 pl1, x_it 256 ke1, x_it 4 sz1, x_it 96 se1, x_it 4 gr1, x_it 8 im, .inr (1, [.ref 15, .ref 16, .ref 17, .ref 18, .ref 19, .ref 20, .int ro, .int c, .int mo, .long mi, .int ki]), x_it 2304 ce, x_it 2304 wo, x_it 31 pv, x_it 48 fa, x_it 10 pm, x_it 10 pw, .inr (2, [.ref 22]), x_lg 24 rw, x_it 24 fr, x_it 24 ba] ++ M : mm_H), rfl, rfl, ⟨pl0, ke0, sz0, se0, gr0, pl1, ke1, sz1, se1, gr1, im, ce, wo, pv, fa, pm, pw, fr, ba, rw, mo, M, rfl, hs0, hs1, hp0, hp1, hM⟩⟩
theorem z_split {h : mm_H} {mi : Int64} {ki : Int32} (hE : x_e0 h 0 0 mi ki) : ∃ h', mm_EC kM 26 [.ref 14] h (some (.int 0), h') ∧ x_e0 h' 0 0 1 0 := by
  obtain ⟨fg, hg⟩ := z_g14 hE
  obtain ⟨h1, E1, hE1⟩ := z_el0 hE 2147483647
  obtain ⟨mo, h2, hO1, hP1, hE2⟩ := z_kind hE1
  obtain ⟨fg2, hg2⟩ := z_g14 hE2
  refine ⟨h2, ⟨kq_26, rfl, rfl, ?_⟩, hE2⟩
  refine mm_E.s rfl rfl rfl (fun _ => rfl) ?_
  refine mm_E.s rfl rfl rfl (fun _ => rfl) ?_
  refine mm_E.s rfl rfl rfl (fun _ => rfl) ?_
  refine mm_E.iv rfl rfl rfl rfl hg rfl E1 ?_
  refine mm_E.s rfl rfl rfl (fun _ => rfl) ?_
  refine mm_E.s rfl rfl rfl (fun _ => rfl) ?_
  refine mm_E.gf rfl rfl rfl hO1 rfl ?_
  refine mm_E.s rfl rfl rfl (fun _ => rfl) ?_
  refine mm_E.s rfl rfl rfl (fun _ => rfl) ?_
  refine mm_E.gf rfl rfl rfl hO1 rfl ?_
  refine mm_E.s rfl rfl rfl (fun _ => rfl) ?_
  refine mm_E.s rfl rfl rfl (fun _ => rfl) ?_
  refine mm_E.s rfl rfl rfl (fun _ => rfl) ?_
  refine mm_E.s rfl rfl rfl (fun _ => rfl) ?_
  refine mm_E.s rfl rfl rfl (fun _ => rfl) ?_
  refine mm_E.s rfl rfl rfl (fun _ => rfl) ?_
  refine mm_E.pfi rfl rfl rfl hO1 rfl hP1 ?_
  refine mm_E.s rfl rfl rfl (fun _ => rfl) ?_
  refine mm_E.s rfl rfl rfl (fun _ => rfl) ?_
  refine mm_E.s rfl rfl rfl (fun _ => rfl) ?_
  refine mm_E.s rfl rfl rfl (fun _ => rfl) ?_
  refine mm_E.s rfl rfl rfl (fun _ => rfl) ?_
  refine mm_E.s rfl rfl rfl (fun _ => rfl) ?_
  refine mm_E.s rfl rfl rfl (fun _ => rfl) ?_
  refine mm_E.s rfl rfl rfl (fun _ => rfl) ?_
  refine mm_E.s rfl rfl rfl (fun _ => rfl) ?_
  refine mm_E.s rfl rfl rfl (fun _ => rfl) ?_
  refine mm_E.s rfl rfl rfl (fun _ => rfl) ?_
  refine mm_E.s rfl rfl rfl (fun _ => rfl) ?_
  refine mm_E.s rfl rfl rfl (fun _ => rfl) ?_
  refine mm_E.iv rfl rfl rfl rfl hg2 rfl (z_nk _) ?_
  refine mm_E.s rfl rfl rfl (fun _ => rfl) ?_
  exact mm_E.ret rfl rfl rfl

theorem z_ff {h : mm_H} {mi : Int64} {ki : Int32} (hE : x_e0 h 0 0 mi ki) : ∃ h', mm_EC kM 28 [.ref 14] h (some (.int 0), h') ∧ x_e0 h' 0 0 1 0 := by
  obtain ⟨fg, hg⟩ := z_g14 hE
  obtain ⟨h1, E1, hE1⟩ := z_split hE
  obtain ⟨mo, h2, hO1, hP1, hE2⟩ := z_kind hE1
  refine ⟨h1, ⟨kq_28, rfl, rfl, ?_⟩, hE1⟩
  refine mm_E.s rfl rfl rfl (fun _ => rfl) ?_
  refine mm_E.iv rfl rfl rfl rfl hg rfl E1 ?_
  refine mm_E.s rfl rfl rfl (fun _ => rfl) ?_
  refine mm_E.s rfl rfl rfl (fun _ => rfl) ?_
  refine mm_E.s rfl rfl rfl (fun _ => rfl) ?_
  refine mm_E.s rfl rfl rfl (fun _ => rfl) ?_
  refine mm_E.s rfl rfl rfl (fun _ => rfl) ?_
  refine mm_E.s rfl rfl rfl (fun _ => rfl) ?_
  refine mm_E.s rfl rfl rfl (fun _ => rfl) ?_
  refine mm_E.s rfl rfl rfl (fun _ => rfl) ?_
  refine mm_E.s rfl rfl rfl (fun _ => rfl) ?_
  refine mm_E.s rfl rfl rfl (fun _ => rfl) ?_
  refine mm_E.gf rfl rfl rfl hO1 rfl ?_
  refine mm_E.s rfl rfl rfl (fun _ => rfl) ?_
  refine mm_E.s rfl rfl rfl (fun _ => rfl) ?_
  exact mm_E.ret rfl rfl rfl

theorem z_last {h : mm_H} {mi : Int64} {ki : Int32} (hE : x_e0 h 0 1 mi ki) : ∃ h', mm_EC kM 29 [.ref 14] h (some (.int 1), h') ∧ x_e0 h' 0 1 1 0 := by
  obtain ⟨mo, h1, hO, hP, hE1⟩ := z_cols hE 0
  obtain ⟨fg1, hg1⟩ := z_g14 hE1
  obtain ⟨h2, E2, hE2⟩ := z_split hE1
  obtain ⟨mo2, h3, hO2, hP2, hE3⟩ := z_cols hE2 1
  obtain ⟨fg3, hg3⟩ := z_g14 hE3
  obtain ⟨h4, E4, hE4⟩ := z_el1 hE3 2147483647
  obtain ⟨mo4, h5, hO4, hP4, hE5⟩ := z_cols hE4 1
  refine ⟨h4, ⟨kq_29, rfl, rfl, ?_⟩, hE4⟩
  refine mm_E.s rfl rfl rfl (fun _ => rfl) ?_
  refine mm_E.gf rfl rfl rfl hO rfl ?_
  refine mm_E.s rfl rfl rfl (fun _ => rfl) ?_
  refine mm_E.s rfl rfl rfl (fun _ => rfl) ?_
  refine mm_E.s rfl rfl rfl (fun _ => rfl) ?_
  refine mm_E.s rfl rfl rfl (fun _ => rfl) ?_
  refine mm_E.s rfl rfl rfl (fun _ => rfl) ?_
  refine mm_E.pfi rfl rfl rfl hO rfl hP ?_
  refine mm_E.s rfl rfl rfl (fun _ => rfl) ?_
  refine mm_E.iv rfl rfl rfl rfl hg1 rfl E2 ?_
  refine mm_E.s rfl rfl rfl (fun _ => rfl) ?_
  refine mm_E.s rfl rfl rfl (fun _ => rfl) ?_
  refine mm_E.s rfl rfl rfl (fun _ => rfl) ?_
  refine mm_E.pfi rfl rfl rfl hO2 rfl hP2 ?_
  refine mm_E.s rfl rfl rfl (fun _ => rfl) ?_
  refine mm_E.s rfl rfl rfl (fun _ => rfl) ?_
  refine mm_E.s rfl rfl rfl (fun _ => rfl) ?_
  refine mm_E.iv rfl rfl rfl rfl hg3 rfl E4 ?_
  refine mm_E.s rfl rfl rfl (fun _ => rfl) ?_
  refine mm_E.s rfl rfl rfl (fun _ => rfl) ?_
  refine mm_E.s rfl rfl rfl (fun _ => rfl) ?_
  refine mm_E.s rfl rfl rfl (fun _ => rfl) ?_
  refine mm_E.s rfl rfl rfl (fun _ => rfl) ?_
  refine mm_E.s rfl rfl rfl (fun _ => rfl) ?_
  refine mm_E.s rfl rfl rfl (fun _ => rfl) ?_
  refine mm_E.s rfl rfl rfl (fun _ => rfl) ?_
  refine mm_E.gf rfl rfl rfl hO4 rfl ?_
  refine mm_E.s rfl rfl rfl (fun _ => rfl) ?_
  refine mm_E.s rfl rfl rfl (fun _ => rfl) ?_
  exact mm_E.ret rfl rfl rfl

theorem z_wb0 {h : mm_H} {ro co : Int32} {mi : Int64} {ki : Int32} (hE : x_e0 h ro co mi ki) (k r c : Int32) : mm_EC kM 60 [.ref 0, .ref 1, .int k, .int r, .int c] h (none, h) := by
  obtain ⟨fa, hca⟩ := z_c1 hE
  obtain ⟨fb, hcb⟩ := z_c7 hE
  refine ⟨kq_60, rfl, rfl, ?_⟩
  by_cases hk : k = 0
  · skip
    refine mm_E.s rfl rfl rfl (fun _ => rfl) ?_
    refine mm_E.s rfl rfl rfl (fun _ => if_pos hk) ?_
    exact mm_E.ret rfl rfl rfl
  · skip
    refine mm_E.s rfl rfl rfl (fun _ => rfl) ?_
    refine mm_E.s rfl rfl rfl (fun _ => if_neg hk) ?_
    refine mm_E.s rfl rfl rfl (fun _ => rfl) ?_
    refine mm_E.s rfl rfl rfl (fun _ => rfl) ?_
    refine mm_E.s rfl rfl rfl (fun _ => rfl) ?_
    refine mm_E.s rfl rfl rfl (fun _ => rfl) ?_
    refine mm_E.s rfl rfl rfl (fun _ => rfl) ?_
    refine mm_E.iv rfl rfl rfl rfl hca rfl (z_size0 hE _) ?_
    refine mm_E.s rfl rfl rfl (fun _ => rfl) ?_
    exact mm_E.ret rfl rfl rfl

theorem z_wb1 {h : mm_H} {ro co : Int32} {mi : Int64} {ki : Int32} (hE : x_e0 h ro co mi ki) (k r c : Int32) : mm_EC kM 60 [.ref 0, .ref 7, .int k, .int r, .int c] h (none, h) := by
  obtain ⟨fa, hca⟩ := z_c1 hE
  obtain ⟨fb, hcb⟩ := z_c7 hE
  refine ⟨kq_60, rfl, rfl, ?_⟩
  by_cases hk : k = 0
  · skip
    refine mm_E.s rfl rfl rfl (fun _ => rfl) ?_
    refine mm_E.s rfl rfl rfl (fun _ => if_pos hk) ?_
    exact mm_E.ret rfl rfl rfl
  · skip
    refine mm_E.s rfl rfl rfl (fun _ => rfl) ?_
    refine mm_E.s rfl rfl rfl (fun _ => if_neg hk) ?_
    refine mm_E.s rfl rfl rfl (fun _ => rfl) ?_
    refine mm_E.s rfl rfl rfl (fun _ => rfl) ?_
    refine mm_E.s rfl rfl rfl (fun _ => rfl) ?_
    refine mm_E.s rfl rfl rfl (fun _ => rfl) ?_
    refine mm_E.s rfl rfl rfl (fun _ => rfl) ?_
    refine mm_E.iv rfl rfl rfl rfl hcb rfl (z_size1 hE _) ?_
    refine mm_E.s rfl rfl rfl (fun _ => rfl) ?_
    exact mm_E.ret rfl rfl rfl

theorem z_lb0 {h : mm_H} {ro co : Int32} {mi : Int64} {ki : Int32} (hE : x_e0 h ro co mi ki) (k : Int32) : ∃ h', mm_EC kM 59 [.ref 0, .ref 1, .int k] h (none, h') ∧ x_e0 h' 0 0 mi ki := by
  obtain ⟨fx, hx, hx1, hx7, hx14, hx21⟩ := z_x0 hE
  obtain ⟨fa, hca⟩ := z_c1 hE
  obtain ⟨fb, hcb⟩ := z_c7 hE
  obtain ⟨fg, hg⟩ := z_g14 hE
  obtain ⟨h1, E1, hE1⟩ := z_shape hE 0
  obtain ⟨fx1, hx1, hx11, hx17, hx114, hx121⟩ := z_x0 hE1
  refine ⟨h1, ⟨kq_59, rfl, rfl, ?_⟩, hE1⟩
  refine mm_E.s rfl rfl rfl (fun _ => rfl) ?_
  refine mm_E.gf rfl rfl rfl hx hx14 ?_
  refine mm_E.s rfl rfl rfl (fun _ => rfl) ?_
  refine mm_E.s rfl rfl rfl (fun _ => rfl) ?_
  refine mm_E.s rfl rfl rfl (fun _ => rfl) ?_
  refine mm_E.s rfl rfl rfl (fun _ => rfl) ?_
  refine mm_E.iv rfl rfl rfl rfl hca rfl (z_size0 hE _) ?_
  refine mm_E.s rfl rfl rfl (fun _ => rfl) ?_
  refine mm_E.s rfl rfl rfl (fun _ => rfl) ?_
  refine mm_E.iv rfl rfl rfl rfl hca rfl (z_size0 hE _) ?_
  refine mm_E.iv rfl rfl rfl rfl hg rfl E1 ?_
  refine mm_E.s rfl rfl rfl (fun _ => rfl) ?_
  refine mm_E.s rfl rfl rfl (fun _ => rfl) ?_
  refine mm_E.s rfl rfl rfl (fun _ => rfl) ?_
  refine mm_E.s rfl rfl rfl (fun _ => rfl) ?_
  refine mm_E.s rfl rfl rfl (fun _ => rfl) ?_
  refine mm_E.iv rfl rfl rfl rfl hx1 rfl (z_wb0 hE1 _ _ _) ?_
  exact mm_E.ret rfl rfl rfl

theorem z_lb1 {h : mm_H} {ro co : Int32} {mi : Int64} {ki : Int32} (hE : x_e0 h ro co mi ki) (k : Int32) : ∃ h', mm_EC kM 59 [.ref 0, .ref 7, .int k] h (none, h') ∧ x_e0 h' 0 0 mi ki := by
  obtain ⟨fx, hx, hx1, hx7, hx14, hx21⟩ := z_x0 hE
  obtain ⟨fa, hca⟩ := z_c1 hE
  obtain ⟨fb, hcb⟩ := z_c7 hE
  obtain ⟨fg, hg⟩ := z_g14 hE
  obtain ⟨h1, E1, hE1⟩ := z_shape hE 0
  obtain ⟨fx1, hx1, hx11, hx17, hx114, hx121⟩ := z_x0 hE1
  refine ⟨h1, ⟨kq_59, rfl, rfl, ?_⟩, hE1⟩
  refine mm_E.s rfl rfl rfl (fun _ => rfl) ?_
  refine mm_E.gf rfl rfl rfl hx hx14 ?_
  refine mm_E.s rfl rfl rfl (fun _ => rfl) ?_
  refine mm_E.s rfl rfl rfl (fun _ => rfl) ?_
  refine mm_E.s rfl rfl rfl (fun _ => rfl) ?_
  refine mm_E.s rfl rfl rfl (fun _ => rfl) ?_
  refine mm_E.iv rfl rfl rfl rfl hcb rfl (z_size1 hE _) ?_
  refine mm_E.s rfl rfl rfl (fun _ => rfl) ?_
  refine mm_E.s rfl rfl rfl (fun _ => rfl) ?_
  refine mm_E.iv rfl rfl rfl rfl hcb rfl (z_size1 hE _) ?_
  refine mm_E.iv rfl rfl rfl rfl hg rfl E1 ?_
  refine mm_E.s rfl rfl rfl (fun _ => rfl) ?_
  refine mm_E.s rfl rfl rfl (fun _ => rfl) ?_
  refine mm_E.s rfl rfl rfl (fun _ => rfl) ?_
  refine mm_E.s rfl rfl rfl (fun _ => rfl) ?_
  refine mm_E.s rfl rfl rfl (fun _ => rfl) ?_
  refine mm_E.iv rfl rfl rfl rfl hx1 rfl (z_wb1 hE1 _ _ _) ?_
  exact mm_E.ret rfl rfl rfl

theorem z_br0 {h : mm_H} {ro co : Int32} {mi : Int64} {ki : Int32} (hE : x_e0 h ro co mi ki) (k p : Int32) : ∃ h', mm_EC kM 58 [.ref 0, .ref 1, .int k, .int p] h (some (.int 0), h') ∧ x_e0 h' 0 0 1 ki := by
  obtain ⟨fx, hx, hx1, hx7, hx14, hx21⟩ := z_x0 hE
  obtain ⟨h1, E1, hE1⟩ := z_lb0 hE k
  obtain ⟨fx', hx', hx1', hx7', hx14', hx21'⟩ := z_x0 hE1
  obtain ⟨fg1, hg1⟩ := z_g14 hE1
  obtain ⟨h2, E2, hE2⟩ := z_el0 hE1 p
  refine ⟨h2, ⟨kq_58, rfl, rfl, ?_⟩, hE2⟩
  refine mm_E.s rfl rfl rfl (fun _ => rfl) ?_
  refine mm_E.s rfl rfl rfl (fun _ => rfl) ?_
  refine mm_E.s rfl rfl rfl (fun _ => rfl) ?_
  refine mm_E.iv rfl rfl rfl rfl hx rfl E1 ?_
  refine mm_E.s rfl rfl rfl (fun _ => rfl) ?_
  refine mm_E.gf rfl rfl rfl hx' hx14' ?_
  refine mm_E.s rfl rfl rfl (fun _ => rfl) ?_
  refine mm_E.s rfl rfl rfl (fun _ => rfl) ?_
  refine mm_E.iv rfl rfl rfl rfl hg1 rfl E2 ?_
  exact mm_E.ret rfl rfl rfl

theorem z_br1 {h : mm_H} {ro co : Int32} {mi : Int64} {ki : Int32} (hE : x_e0 h ro co mi ki) (k p : Int32) : ∃ h', mm_EC kM 58 [.ref 0, .ref 7, .int k, .int p] h (some (.int 0), h') ∧ x_e0 h' 0 0 1 ki := by
  obtain ⟨fx, hx, hx1, hx7, hx14, hx21⟩ := z_x0 hE
  obtain ⟨h1, E1, hE1⟩ := z_lb1 hE k
  obtain ⟨fx', hx', hx1', hx7', hx14', hx21'⟩ := z_x0 hE1
  obtain ⟨fg1, hg1⟩ := z_g14 hE1
  obtain ⟨h2, E2, hE2⟩ := z_el0 hE1 p
  refine ⟨h2, ⟨kq_58, rfl, rfl, ?_⟩, hE2⟩
  refine mm_E.s rfl rfl rfl (fun _ => rfl) ?_
  refine mm_E.s rfl rfl rfl (fun _ => rfl) ?_
  refine mm_E.s rfl rfl rfl (fun _ => rfl) ?_
  refine mm_E.iv rfl rfl rfl rfl hx rfl E1 ?_
  refine mm_E.s rfl rfl rfl (fun _ => rfl) ?_
  refine mm_E.gf rfl rfl rfl hx' hx14' ?_
  refine mm_E.s rfl rfl rfl (fun _ => rfl) ?_
  refine mm_E.s rfl rfl rfl (fun _ => rfl) ?_
  refine mm_E.iv rfl rfl rfl rfl hg1 rfl E2 ?_
  exact mm_E.ret rfl rfl rfl

theorem x_k4 {k : Int32} : (k < 0 ∨ 3 < k) ↔ (k < 0 ∨ 4 ≤ k) := ⟨fun h => h.imp id x_34, fun h => h.imp id x_43⟩
theorem z_ih {h : mm_H} {ro co : Int32} {mi : Int64} {ki : Int32} (hE : x_e0 h ro co mi ki) (c k p : Int32) : ∃ h', mm_EC kM 57 [.ref 0, .int c, .int k, .int p] h (some (.int (if (c = 0 ∨ c = 1) ∧ ¬ k < 0 ∧ ¬ 3 < k then 0 else -1)), h') ∧ x_em h' 0 0 0 := by
  obtain ⟨fx, hx, hx1, hx7, hx14, hx21⟩ := z_x0 hE
  obtain ⟨fa, hca⟩ := z_c1 hE
  obtain ⟨fb, hcb⟩ := z_c7 hE
  by_cases hc : c = 0 ∨ c = 1
  · by_cases hk : k < 0 ∨ 3 < k
    · rw [if_neg (fun q => hk.elim q.2.1 q.2.2)]
      refine ⟨h, ⟨kq_57, rfl, rfl, ?_⟩, x_e0_em hE⟩
      rcases hc with rfl | rfl
      · skip
        refine mm_E.s rfl rfl rfl (fun _ => rfl) ?_
        refine mm_E.s rfl rfl rfl (fun _ => rfl) ?_
        refine mm_E.iv rfl rfl rfl rfl hx rfl (z_cx0 hE) ?_
        refine mm_E.s rfl rfl rfl (fun _ => rfl) ?_
        refine mm_E.s rfl rfl rfl (fun _ => rfl) ?_
        refine mm_E.s rfl rfl rfl (fun _ => rfl) ?_
        refine mm_E.s rfl rfl rfl (fun _ => rfl) ?_
        refine mm_E.ic rfl rfl rfl rfl rfl (z_isD0 (x_k4.mp hk)) ?_
        refine mm_E.s rfl rfl rfl (fun _ => rfl) ?_
        refine mm_E.s rfl rfl rfl (fun _ => rfl) ?_
        exact mm_E.ret rfl rfl rfl
      · skip
        refine mm_E.s rfl rfl rfl (fun _ => rfl) ?_
        refine mm_E.s rfl rfl rfl (fun _ => rfl) ?_
        refine mm_E.iv rfl rfl rfl rfl hx rfl (z_cx1 hE) ?_
        refine mm_E.s rfl rfl rfl (fun _ => rfl) ?_
        refine mm_E.s rfl rfl rfl (fun _ => rfl) ?_
        refine mm_E.s rfl rfl rfl (fun _ => rfl) ?_
        refine mm_E.s rfl rfl rfl (fun _ => rfl) ?_
        refine mm_E.ic rfl rfl rfl rfl rfl (z_isD0 (x_k4.mp hk)) ?_
        refine mm_E.s rfl rfl rfl (fun _ => rfl) ?_
        refine mm_E.s rfl rfl rfl (fun _ => rfl) ?_
        exact mm_E.ret rfl rfl rfl
    · have k0 : ¬ k < 0 := fun q => hk (Or.inl q)
      have k3 : ¬ 3 < k := fun q => hk (Or.inr q)
      have k4 : ¬ 4 ≤ k := fun q => k3 (x_43 q)
      rw [if_pos ⟨hc, k0, k3⟩]
      rcases hc with rfl | rfl
      · obtain ⟨h1, E1, hE1⟩ := z_br0 hE k p
        obtain ⟨fx', hx', hx1', hx7', hx14', hx21'⟩ := z_x0 hE1
        obtain ⟨h2, E2, hE2⟩ := z_br0 hE1 (k + 1) p
        refine ⟨h2, ⟨kq_57, rfl, rfl, ?_⟩, x_e0_em hE2⟩
        refine mm_E.s rfl rfl rfl (fun _ => rfl) ?_
        refine mm_E.s rfl rfl rfl (fun _ => rfl) ?_
        refine mm_E.iv rfl rfl rfl rfl hx rfl (z_cx0 hE) ?_
        refine mm_E.s rfl rfl rfl (fun _ => rfl) ?_
        refine mm_E.s rfl rfl rfl (fun _ => rfl) ?_
        refine mm_E.s rfl rfl rfl (fun _ => rfl) ?_
        refine mm_E.s rfl rfl rfl (fun _ => rfl) ?_
        refine mm_E.ic rfl rfl rfl rfl rfl (z_isD1 k0 k4) ?_
        refine mm_E.s rfl rfl rfl (fun _ => rfl) ?_
        refine mm_E.s rfl rfl rfl (fun _ => rfl) ?_
        refine mm_E.s rfl rfl rfl (fun _ => rfl) ?_
        refine mm_E.iv rfl rfl rfl rfl hca rfl (z_size0 hE _) ?_
        refine mm_E.s rfl rfl rfl (fun _ => rfl) ?_
        refine mm_E.s rfl rfl rfl (fun _ => rfl) ?_
        refine mm_E.s rfl rfl rfl (fun _ => rfl) ?_
        refine mm_E.s rfl rfl rfl (fun _ => rfl) ?_
        refine mm_E.iv rfl rfl rfl rfl hx rfl E1 ?_
        refine mm_E.s rfl rfl rfl (fun _ => rfl) ?_
        refine mm_E.s rfl rfl rfl (fun _ => rfl) ?_
        refine mm_E.s rfl rfl rfl (fun _ => rfl) ?_
        refine mm_E.s rfl rfl rfl (fun _ => rfl) ?_
        refine mm_E.s rfl rfl rfl (fun _ => rfl) ?_
        refine mm_E.s rfl rfl rfl (fun _ => rfl) ?_
        refine mm_E.s rfl rfl rfl (fun _ => rfl) ?_
        refine mm_E.iv rfl rfl rfl rfl hx' rfl E2 ?_
        refine mm_E.s rfl rfl rfl (fun _ => rfl) ?_
        exact mm_E.ret rfl rfl rfl
      · obtain ⟨h1, E1, hE1⟩ := z_br1 hE k p
        obtain ⟨fx', hx', hx1', hx7', hx14', hx21'⟩ := z_x0 hE1
        obtain ⟨h2, E2, hE2⟩ := z_br1 hE1 (k + 1) p
        refine ⟨h2, ⟨kq_57, rfl, rfl, ?_⟩, x_e0_em hE2⟩
        refine mm_E.s rfl rfl rfl (fun _ => rfl) ?_
        refine mm_E.s rfl rfl rfl (fun _ => rfl) ?_
        refine mm_E.iv rfl rfl rfl rfl hx rfl (z_cx1 hE) ?_
        refine mm_E.s rfl rfl rfl (fun _ => rfl) ?_
        refine mm_E.s rfl rfl rfl (fun _ => rfl) ?_
        refine mm_E.s rfl rfl rfl (fun _ => rfl) ?_
        refine mm_E.s rfl rfl rfl (fun _ => rfl) ?_
        refine mm_E.ic rfl rfl rfl rfl rfl (z_isD1 k0 k4) ?_
        refine mm_E.s rfl rfl rfl (fun _ => rfl) ?_
        refine mm_E.s rfl rfl rfl (fun _ => rfl) ?_
        refine mm_E.s rfl rfl rfl (fun _ => rfl) ?_
        refine mm_E.iv rfl rfl rfl rfl hcb rfl (z_size1 hE _) ?_
        refine mm_E.s rfl rfl rfl (fun _ => rfl) ?_
        refine mm_E.s rfl rfl rfl (fun _ => rfl) ?_
        refine mm_E.s rfl rfl rfl (fun _ => rfl) ?_
        refine mm_E.s rfl rfl rfl (fun _ => rfl) ?_
        refine mm_E.iv rfl rfl rfl rfl hx rfl E1 ?_
        refine mm_E.s rfl rfl rfl (fun _ => rfl) ?_
        refine mm_E.s rfl rfl rfl (fun _ => rfl) ?_
        refine mm_E.s rfl rfl rfl (fun _ => rfl) ?_
        refine mm_E.s rfl rfl rfl (fun _ => rfl) ?_
        refine mm_E.s rfl rfl rfl (fun _ => rfl) ?_
        refine mm_E.s rfl rfl rfl (fun _ => rfl) ?_
        refine mm_E.s rfl rfl rfl (fun _ => rfl) ?_
        refine mm_E.iv rfl rfl rfl rfl hx' rfl E2 ?_
        refine mm_E.s rfl rfl rfl (fun _ => rfl) ?_
        exact mm_E.ret rfl rfl rfl
  · rw [if_neg (fun q => hc q.1)]
    refine ⟨h, ⟨kq_57, rfl, rfl, ?_⟩, x_e0_em hE⟩
    refine mm_E.s rfl rfl rfl (fun _ => rfl) ?_
    refine mm_E.s rfl rfl rfl (fun _ => rfl) ?_
    refine mm_E.iv rfl rfl rfl rfl hx rfl (z_cxN hE hc) ?_
    refine mm_E.s rfl rfl rfl (fun _ => rfl) ?_
    refine mm_E.s rfl rfl rfl (fun _ => rfl) ?_
    refine mm_E.s rfl rfl rfl (fun _ => rfl) ?_
    refine mm_E.s rfl rfl rfl (fun _ => rfl) ?_
    exact mm_E.ret rfl rfl rfl

theorem z_betti {h : mm_H} {ro co : Int32} {mi : Int64} {ki : Int32} (hE : x_e0 h ro co mi ki) (c k : Int32) : ∃ h', mm_EC kM 40 [.ref 0, .int c, .int k] h (some (.int (if (c = 0 ∨ c = 1) ∧ ¬ k < 0 ∧ ¬ 3 < k then 0 else -1)), h') ∧ x_em h' 0 0 0 := by
  obtain ⟨fx, hx, hx1, hx7, hx14, hx21⟩ := z_x0 hE
  obtain ⟨h1, E1, hE1⟩ := z_ih hE c k 2147483647
  refine ⟨h1, ⟨kq_40, rfl, rfl, ?_⟩, hE1⟩
  refine mm_E.s rfl rfl rfl (fun _ => rfl) ?_
  refine mm_E.s rfl rfl rfl (fun _ => rfl) ?_
  refine mm_E.s rfl rfl rfl (fun _ => rfl) ?_
  refine mm_E.s rfl rfl rfl (fun _ => rfl) ?_
  refine mm_E.iv rfl rfl rfl rfl hx rfl E1 ?_
  exact mm_E.ret rfl rfl rfl

theorem z_bm {h : mm_H} {ro co : Int32} {mi : Int64} {ki : Int32} (hE : x_e0 h ro co mi ki) (c k p : Int32) : ∃ h', mm_EC kM 42 [.ref 0, .int c, .int k, .int p] h (some (.int (if (c = 0 ∨ c = 1) ∧ (¬ k < 0 ∧ ¬ 3 < k) ∧ x_pr p then 0 else -1)), h') ∧ x_em h' 0 0 0 := by
  obtain ⟨fx, hx, hx1, hx7, hx14, hx21⟩ := z_x0 hE
  by_cases hp : x_pr p
  · obtain ⟨h1, E1, hE1⟩ := z_ih hE c k p
    have ev : (if (c = 0 ∨ c = 1) ∧ (¬ k < 0 ∧ ¬ 3 < k) ∧ x_pr p then (0 : Int32) else -1) = (if (c = 0 ∨ c = 1) ∧ ¬ k < 0 ∧ ¬ 3 < k then 0 else -1) := by
      by_cases hq : (c = 0 ∨ c = 1) ∧ ¬ k < 0 ∧ ¬ 3 < k
      · rw [if_pos hq, if_pos ⟨hq.1, hq.2, hp⟩]
      · rw [if_neg hq, if_neg (fun q => hq ⟨q.1, q.2.1⟩)]
    rw [ev]
    refine ⟨h1, ⟨kq_42, rfl, rfl, ?_⟩, hE1⟩
    rcases hp with rfl | rfl | rfl | rfl | rfl | rfl
    · skip
      refine mm_E.s rfl rfl rfl (fun _ => rfl) ?_
      refine mm_E.s rfl rfl rfl (fun _ => rfl) ?_
      refine mm_E.s rfl rfl rfl (fun _ => rfl) ?_
      refine mm_E.s rfl rfl rfl (fun _ => rfl) ?_
      refine mm_E.s rfl rfl rfl (fun _ => rfl) ?_
      refine mm_E.s rfl rfl rfl (fun _ => rfl) ?_
      refine mm_E.s rfl rfl rfl (fun _ => rfl) ?_
      refine mm_E.iv rfl rfl rfl rfl hx rfl E1 ?_
      exact mm_E.ret rfl rfl rfl
    · skip
      refine mm_E.s rfl rfl rfl (fun _ => rfl) ?_
      refine mm_E.s rfl rfl rfl (fun _ => rfl) ?_
      refine mm_E.s rfl rfl rfl (fun _ => rfl) ?_
      refine mm_E.s rfl rfl rfl (fun _ => rfl) ?_
      refine mm_E.s rfl rfl rfl (fun _ => rfl) ?_
      refine mm_E.s rfl rfl rfl (fun _ => rfl) ?_
      refine mm_E.s rfl rfl rfl (fun _ => rfl) ?_
      refine mm_E.s rfl rfl rfl (fun _ => rfl) ?_
      refine mm_E.s rfl rfl rfl (fun _ => rfl) ?_
      refine mm_E.s rfl rfl rfl (fun _ => rfl) ?_
      refine mm_E.iv rfl rfl rfl rfl hx rfl E1 ?_
      exact mm_E.ret rfl rfl rfl
    · skip
      refine mm_E.s rfl rfl rfl (fun _ => rfl) ?_
      refine mm_E.s rfl rfl rfl (fun _ => rfl) ?_
      refine mm_E.s rfl rfl rfl (fun _ => rfl) ?_
      refine mm_E.s rfl rfl rfl (fun _ => rfl) ?_
      refine mm_E.s rfl rfl rfl (fun _ => rfl) ?_
      refine mm_E.s rfl rfl rfl (fun _ => rfl) ?_
      refine mm_E.s rfl rfl rfl (fun _ => rfl) ?_
      refine mm_E.s rfl rfl rfl (fun _ => rfl) ?_
      refine mm_E.s rfl rfl rfl (fun _ => rfl) ?_
      refine mm_E.s rfl rfl rfl (fun _ => rfl) ?_
      refine mm_E.s rfl rfl rfl (fun _ => rfl) ?_
      refine mm_E.s rfl rfl rfl (fun _ => rfl) ?_
      refine mm_E.s rfl rfl rfl (fun _ => rfl) ?_
      refine mm_E.iv rfl rfl rfl rfl hx rfl E1 ?_
      exact mm_E.ret rfl rfl rfl
    · skip
      refine mm_E.s rfl rfl rfl (fun _ => rfl) ?_
      refine mm_E.s rfl rfl rfl (fun _ => rfl) ?_
      refine mm_E.s rfl rfl rfl (fun _ => rfl) ?_
      refine mm_E.s rfl rfl rfl (fun _ => rfl) ?_
      refine mm_E.s rfl rfl rfl (fun _ => rfl) ?_
      refine mm_E.s rfl rfl rfl (fun _ => rfl) ?_
      refine mm_E.s rfl rfl rfl (fun _ => rfl) ?_
      refine mm_E.s rfl rfl rfl (fun _ => rfl) ?_
      refine mm_E.s rfl rfl rfl (fun _ => rfl) ?_
      refine mm_E.s rfl rfl rfl (fun _ => rfl) ?_
      refine mm_E.s rfl rfl rfl (fun _ => rfl) ?_
      refine mm_E.s rfl rfl rfl (fun _ => rfl) ?_
      refine mm_E.s rfl rfl rfl (fun _ => rfl) ?_
      refine mm_E.s rfl rfl rfl (fun _ => rfl) ?_
      refine mm_E.s rfl rfl rfl (fun _ => rfl) ?_
      refine mm_E.s rfl rfl rfl (fun _ => rfl) ?_
      refine mm_E.iv rfl rfl rfl rfl hx rfl E1 ?_
      exact mm_E.ret rfl rfl rfl
    · skip
      refine mm_E.s rfl rfl rfl (fun _ => rfl) ?_
      refine mm_E.s rfl rfl rfl (fun _ => rfl) ?_
      refine mm_E.s rfl rfl rfl (fun _ => rfl) ?_
      refine mm_E.s rfl rfl rfl (fun _ => rfl) ?_
      refine mm_E.s rfl rfl rfl (fun _ => rfl) ?_
      refine mm_E.s rfl rfl rfl (fun _ => rfl) ?_
      refine mm_E.s rfl rfl rfl (fun _ => rfl) ?_
      refine mm_E.s rfl rfl rfl (fun _ => rfl) ?_
      refine mm_E.s rfl rfl rfl (fun _ => rfl) ?_
      refine mm_E.s rfl rfl rfl (fun _ => rfl) ?_
      refine mm_E.s rfl rfl rfl (fun _ => rfl) ?_
      refine mm_E.s rfl rfl rfl (fun _ => rfl) ?_
      refine mm_E.s rfl rfl rfl (fun _ => rfl) ?_
      refine mm_E.s rfl rfl rfl (fun _ => rfl) ?_
      refine mm_E.s rfl rfl rfl (fun _ => rfl) ?_
      refine mm_E.s rfl rfl rfl (fun _ => rfl) ?_
      refine mm_E.s rfl rfl rfl (fun _ => rfl) ?_
      refine mm_E.s rfl rfl rfl (fun _ => rfl) ?_
      refine mm_E.s rfl rfl rfl (fun _ => rfl) ?_
      refine mm_E.iv rfl rfl rfl rfl hx rfl E1 ?_
      exact mm_E.ret rfl rfl rfl
    · skip
      refine mm_E.s rfl rfl rfl (fun _ => rfl) ?_
      refine mm_E.s rfl rfl rfl (fun _ => rfl) ?_
      refine mm_E.s rfl rfl rfl (fun _ => rfl) ?_
      refine mm_E.s rfl rfl rfl (fun _ => rfl) ?_
      refine mm_E.s rfl rfl rfl (fun _ => rfl) ?_
      refine mm_E.s rfl rfl rfl (fun _ => rfl) ?_
      refine mm_E.s rfl rfl rfl (fun _ => rfl) ?_
      refine mm_E.s rfl rfl rfl (fun _ => rfl) ?_
      refine mm_E.s rfl rfl rfl (fun _ => rfl) ?_
      refine mm_E.s rfl rfl rfl (fun _ => rfl) ?_
      refine mm_E.s rfl rfl rfl (fun _ => rfl) ?_
      refine mm_E.s rfl rfl rfl (fun _ => rfl) ?_
      refine mm_E.s rfl rfl rfl (fun _ => rfl) ?_
      refine mm_E.s rfl rfl rfl (fun _ => rfl) ?_
      refine mm_E.s rfl rfl rfl (fun _ => rfl) ?_
      refine mm_E.s rfl rfl rfl (fun _ => rfl) ?_
      refine mm_E.s rfl rfl rfl (fun _ => rfl) ?_
      refine mm_E.s rfl rfl rfl (fun _ => rfl) ?_
      refine mm_E.s rfl rfl rfl (fun _ => rfl) ?_
      refine mm_E.s rfl rfl rfl (fun _ => rfl) ?_
      refine mm_E.s rfl rfl rfl (fun _ => rfl) ?_
      refine mm_E.s rfl rfl rfl (fun _ => rfl) ?_
      refine mm_E.iv rfl rfl rfl rfl hx rfl E1 ?_
      exact mm_E.ret rfl rfl rfl
  · rw [if_neg (fun q => hp q.2.2)]
    have p2 : ¬ p = 2 := fun q => hp (Or.inl q)
    have p3 : ¬ p = 3 := fun q => hp (Or.inr (Or.inl q))
    have p5 : ¬ p = 5 := fun q => hp (Or.inr (Or.inr (Or.inl q)))
    have p7 : ¬ p = 7 := fun q => hp (Or.inr (Or.inr (Or.inr (Or.inl q))))
    have p11 : ¬ p = 11 := fun q => hp (Or.inr (Or.inr (Or.inr (Or.inr (Or.inl q)))))
    have p13 : ¬ p = 13 := fun q => hp (Or.inr (Or.inr (Or.inr (Or.inr (Or.inr q)))))
    refine ⟨h, ⟨kq_42, rfl, rfl, ?_⟩, x_e0_em hE⟩
    refine mm_E.s rfl rfl rfl (fun _ => rfl) ?_
    refine mm_E.s rfl rfl rfl (fun _ => rfl) ?_
    refine mm_E.s rfl rfl rfl (fun _ => if_neg p2) ?_
    refine mm_E.s rfl rfl rfl (fun _ => rfl) ?_
    refine mm_E.s rfl rfl rfl (fun _ => rfl) ?_
    refine mm_E.s rfl rfl rfl (fun _ => if_neg p3) ?_
    refine mm_E.s rfl rfl rfl (fun _ => rfl) ?_
    refine mm_E.s rfl rfl rfl (fun _ => rfl) ?_
    refine mm_E.s rfl rfl rfl (fun _ => if_neg p5) ?_
    refine mm_E.s rfl rfl rfl (fun _ => rfl) ?_
    refine mm_E.s rfl rfl rfl (fun _ => rfl) ?_
    refine mm_E.s rfl rfl rfl (fun _ => if_neg p7) ?_
    refine mm_E.s rfl rfl rfl (fun _ => rfl) ?_
    refine mm_E.s rfl rfl rfl (fun _ => rfl) ?_
    refine mm_E.s rfl rfl rfl (fun _ => if_neg p11) ?_
    refine mm_E.s rfl rfl rfl (fun _ => rfl) ?_
    refine mm_E.s rfl rfl rfl (fun _ => rfl) ?_
    refine mm_E.s rfl rfl rfl (fun _ => if_neg p13) ?_
    refine mm_E.s rfl rfl rfl (fun _ => rfl) ?_
    exact mm_E.ret rfl rfl rfl
end
section
theorem z_count {h : mm_H} {ro co : Int32} {mi : Int64} {ki : Int32} (hE : x_e0 h ro co mi ki) (c k : Int32) : ∃ h', mm_EC kM 36 [.ref 0, .int c, .int k] h (some (.int (if (c = 0 ∨ c = 1) ∧ ¬ k < 0 ∧ ¬ 3 < k then 0 else -1)), h') ∧ x_em h' 0 0 0 := by
  obtain ⟨fx, hx, hx1, hx7, hx14, hx21⟩ := z_x0 hE
  obtain ⟨fa, hca⟩ := z_c1 hE
  obtain ⟨fb, hcb⟩ := z_c7 hE
  obtain ⟨fg, hg⟩ := z_g14 hE
  by_cases hc : c = 0 ∨ c = 1
  · by_cases hk : k < 0 ∨ 3 < k
    · rw [if_neg (fun q => hk.elim q.2.1 q.2.2)]
      refine ⟨h, ⟨kq_36, rfl, rfl, ?_⟩, x_e0_em hE⟩
      rcases hc with rfl | rfl
      · skip
        refine mm_E.s rfl rfl rfl (fun _ => rfl) ?_
        refine mm_E.s rfl rfl rfl (fun _ => rfl) ?_
        refine mm_E.iv rfl rfl rfl rfl hx rfl (z_cx0 hE) ?_
        refine mm_E.s rfl rfl rfl (fun _ => rfl) ?_
        refine mm_E.s rfl rfl rfl (fun _ => rfl) ?_
        refine mm_E.s rfl rfl rfl (fun _ => rfl) ?_
        refine mm_E.s rfl rfl rfl (fun _ => rfl) ?_
        refine mm_E.ic rfl rfl rfl rfl rfl (z_isD0 (x_k4.mp hk)) ?_
        refine mm_E.s rfl rfl rfl (fun _ => rfl) ?_
        refine mm_E.s rfl rfl rfl (fun _ => rfl) ?_
        exact mm_E.ret rfl rfl rfl
      · skip
        refine mm_E.s rfl rfl rfl (fun _ => rfl) ?_
        refine mm_E.s rfl rfl rfl (fun _ => rfl) ?_
        refine mm_E.iv rfl rfl rfl rfl hx rfl (z_cx1 hE) ?_
        refine mm_E.s rfl rfl rfl (fun _ => rfl) ?_
        refine mm_E.s rfl rfl rfl (fun _ => rfl) ?_
        refine mm_E.s rfl rfl rfl (fun _ => rfl) ?_
        refine mm_E.s rfl rfl rfl (fun _ => rfl) ?_
        refine mm_E.ic rfl rfl rfl rfl rfl (z_isD0 (x_k4.mp hk)) ?_
        refine mm_E.s rfl rfl rfl (fun _ => rfl) ?_
        refine mm_E.s rfl rfl rfl (fun _ => rfl) ?_
        exact mm_E.ret rfl rfl rfl
    · have k0 : ¬ k < 0 := fun q => hk (Or.inl q)
      have k3 : ¬ 3 < k := fun q => hk (Or.inr q)
      have k4 : ¬ 4 ≤ k := fun q => k3 (x_43 q)
      rw [if_pos ⟨hc, k0, k3⟩]
      refine ⟨h, ⟨kq_36, rfl, rfl, ?_⟩, x_e0_em hE⟩
      rcases hc with rfl | rfl
      · skip
        refine mm_E.s rfl rfl rfl (fun _ => rfl) ?_
        refine mm_E.s rfl rfl rfl (fun _ => rfl) ?_
        refine mm_E.iv rfl rfl rfl rfl hx rfl (z_cx0 hE) ?_
        refine mm_E.s rfl rfl rfl (fun _ => rfl) ?_
        refine mm_E.s rfl rfl rfl (fun _ => rfl) ?_
        refine mm_E.s rfl rfl rfl (fun _ => rfl) ?_
        refine mm_E.s rfl rfl rfl (fun _ => rfl) ?_
        refine mm_E.ic rfl rfl rfl rfl rfl (z_isD1 k0 k4) ?_
        refine mm_E.s rfl rfl rfl (fun _ => rfl) ?_
        refine mm_E.s rfl rfl rfl (fun _ => rfl) ?_
        refine mm_E.s rfl rfl rfl (fun _ => rfl) ?_
        refine mm_E.iv rfl rfl rfl rfl hca rfl (z_size0 hE _) ?_
        exact mm_E.ret rfl rfl rfl
      · skip
        refine mm_E.s rfl rfl rfl (fun _ => rfl) ?_
        refine mm_E.s rfl rfl rfl (fun _ => rfl) ?_
        refine mm_E.iv rfl rfl rfl rfl hx rfl (z_cx1 hE) ?_
        refine mm_E.s rfl rfl rfl (fun _ => rfl) ?_
        refine mm_E.s rfl rfl rfl (fun _ => rfl) ?_
        refine mm_E.s rfl rfl rfl (fun _ => rfl) ?_
        refine mm_E.s rfl rfl rfl (fun _ => rfl) ?_
        refine mm_E.ic rfl rfl rfl rfl rfl (z_isD1 k0 k4) ?_
        refine mm_E.s rfl rfl rfl (fun _ => rfl) ?_
        refine mm_E.s rfl rfl rfl (fun _ => rfl) ?_
        refine mm_E.s rfl rfl rfl (fun _ => rfl) ?_
        refine mm_E.iv rfl rfl rfl rfl hcb rfl (z_size1 hE _) ?_
        exact mm_E.ret rfl rfl rfl
  · rw [if_neg (fun q => hc q.1)]
    refine ⟨h, ⟨kq_36, rfl, rfl, ?_⟩, x_e0_em hE⟩
    refine mm_E.s rfl rfl rfl (fun _ => rfl) ?_
    refine mm_E.s rfl rfl rfl (fun _ => rfl) ?_
    refine mm_E.iv rfl rfl rfl rfl hx rfl (z_cxN hE hc) ?_
    refine mm_E.s rfl rfl rfl (fun _ => rfl) ?_
    refine mm_E.s rfl rfl rfl (fun _ => rfl) ?_
    refine mm_E.s rfl rfl rfl (fun _ => rfl) ?_
    refine mm_E.s rfl rfl rfl (fun _ => rfl) ?_
    exact mm_E.ret rfl rfl rfl

theorem z_simplex {h : mm_H} {ro co : Int32} {mi : Int64} {ki : Int32} (hE : x_e0 h ro co mi ki) (c k i : Int32) : ∃ h', mm_EC kM 37 [.ref 0, .int c, .int k, .int i] h (some (.int (-1)), h') ∧ x_em h' 0 0 0 := by
  obtain ⟨fx, hx, hx1, hx7, hx14, hx21⟩ := z_x0 hE
  obtain ⟨fa, hca⟩ := z_c1 hE
  obtain ⟨fb, hcb⟩ := z_c7 hE
  obtain ⟨fg, hg⟩ := z_g14 hE
  refine ⟨h, ⟨kq_37, rfl, rfl, ?_⟩, x_e0_em hE⟩
  by_cases hc : c = 0 ∨ c = 1
  · by_cases hi : i < 0
    · rcases hc with rfl | rfl
      · skip
        refine mm_E.s rfl rfl rfl (fun _ => rfl) ?_
        refine mm_E.s rfl rfl rfl (fun _ => rfl) ?_
        refine mm_E.iv rfl rfl rfl rfl hx rfl (z_cx0 hE) ?_
        refine mm_E.s rfl rfl rfl (fun _ => rfl) ?_
        refine mm_E.s rfl rfl rfl (fun _ => rfl) ?_
        refine mm_E.s rfl rfl rfl (fun _ => rfl) ?_
        refine mm_E.s rfl rfl rfl (fun _ => rfl) ?_
        refine mm_E.s rfl rfl rfl (fun _ => if_pos hi) ?_
        refine mm_E.s rfl rfl rfl (fun _ => rfl) ?_
        exact mm_E.ret rfl rfl rfl
      · skip
        refine mm_E.s rfl rfl rfl (fun _ => rfl) ?_
        refine mm_E.s rfl rfl rfl (fun _ => rfl) ?_
        refine mm_E.iv rfl rfl rfl rfl hx rfl (z_cx1 hE) ?_
        refine mm_E.s rfl rfl rfl (fun _ => rfl) ?_
        refine mm_E.s rfl rfl rfl (fun _ => rfl) ?_
        refine mm_E.s rfl rfl rfl (fun _ => rfl) ?_
        refine mm_E.s rfl rfl rfl (fun _ => rfl) ?_
        refine mm_E.s rfl rfl rfl (fun _ => if_pos hi) ?_
        refine mm_E.s rfl rfl rfl (fun _ => rfl) ?_
        exact mm_E.ret rfl rfl rfl
    · rcases hc with rfl | rfl
      · skip
        refine mm_E.s rfl rfl rfl (fun _ => rfl) ?_
        refine mm_E.s rfl rfl rfl (fun _ => rfl) ?_
        refine mm_E.iv rfl rfl rfl rfl hx rfl (z_cx0 hE) ?_
        refine mm_E.s rfl rfl rfl (fun _ => rfl) ?_
        refine mm_E.s rfl rfl rfl (fun _ => rfl) ?_
        refine mm_E.s rfl rfl rfl (fun _ => rfl) ?_
        refine mm_E.s rfl rfl rfl (fun _ => rfl) ?_
        refine mm_E.s rfl rfl rfl (fun _ => if_neg hi) ?_
        refine mm_E.s rfl rfl rfl (fun _ => rfl) ?_
        refine mm_E.s rfl rfl rfl (fun _ => rfl) ?_
        refine mm_E.s rfl rfl rfl (fun _ => rfl) ?_
        refine mm_E.iv rfl rfl rfl rfl hca rfl (z_size0 hE _) ?_
        refine mm_E.s rfl rfl rfl (fun _ => if_neg hi) ?_
        refine mm_E.s rfl rfl rfl (fun _ => rfl) ?_
        exact mm_E.ret rfl rfl rfl
      · skip
        refine mm_E.s rfl rfl rfl (fun _ => rfl) ?_
        refine mm_E.s rfl rfl rfl (fun _ => rfl) ?_
        refine mm_E.iv rfl rfl rfl rfl hx rfl (z_cx1 hE) ?_
        refine mm_E.s rfl rfl rfl (fun _ => rfl) ?_
        refine mm_E.s rfl rfl rfl (fun _ => rfl) ?_
        refine mm_E.s rfl rfl rfl (fun _ => rfl) ?_
        refine mm_E.s rfl rfl rfl (fun _ => rfl) ?_
        refine mm_E.s rfl rfl rfl (fun _ => if_neg hi) ?_
        refine mm_E.s rfl rfl rfl (fun _ => rfl) ?_
        refine mm_E.s rfl rfl rfl (fun _ => rfl) ?_
        refine mm_E.s rfl rfl rfl (fun _ => rfl) ?_
        refine mm_E.iv rfl rfl rfl rfl hcb rfl (z_size1 hE _) ?_
        refine mm_E.s rfl rfl rfl (fun _ => if_neg hi) ?_
        refine mm_E.s rfl rfl rfl (fun _ => rfl) ?_
        exact mm_E.ret rfl rfl rfl
  · skip
    refine mm_E.s rfl rfl rfl (fun _ => rfl) ?_
    refine mm_E.s rfl rfl rfl (fun _ => rfl) ?_
    refine mm_E.iv rfl rfl rfl rfl hx rfl (z_cxN hE hc) ?_
    refine mm_E.s rfl rfl rfl (fun _ => rfl) ?_
    refine mm_E.s rfl rfl rfl (fun _ => rfl) ?_
    refine mm_E.s rfl rfl rfl (fun _ => rfl) ?_
    refine mm_E.s rfl rfl rfl (fun _ => rfl) ?_
    exact mm_E.ret rfl rfl rfl

theorem z_inc {h : mm_H} {ro co : Int32} {mi : Int64} {ki : Int32} (hE : x_e0 h ro co mi ki) (c k i j : Int32) : ∃ h', mm_EC kM 38 [.ref 0, .int c, .int k, .int i, .int j] h (some (.int 0), h') ∧ x_em h' 0 0 0 := by
  obtain ⟨fx, hx, hx1, hx7, hx14, hx21⟩ := z_x0 hE
  obtain ⟨fa, hca⟩ := z_c1 hE
  obtain ⟨fb, hcb⟩ := z_c7 hE
  obtain ⟨fg, hg⟩ := z_g14 hE
  refine ⟨h, ⟨kq_38, rfl, rfl, ?_⟩, x_e0_em hE⟩
  by_cases hc : c = 0 ∨ c = 1
  · by_cases hi : i < 0
    · rcases hc with rfl | rfl
      · skip
        refine mm_E.s rfl rfl rfl (fun _ => rfl) ?_
        refine mm_E.s rfl rfl rfl (fun _ => rfl) ?_
        refine mm_E.iv rfl rfl rfl rfl hx rfl (z_cx0 hE) ?_
        refine mm_E.s rfl rfl rfl (fun _ => rfl) ?_
        refine mm_E.s rfl rfl rfl (fun _ => rfl) ?_
        refine mm_E.s rfl rfl rfl (fun _ => rfl) ?_
        refine mm_E.s rfl rfl rfl (fun _ => rfl) ?_
        refine mm_E.s rfl rfl rfl (fun _ => if_pos hi) ?_
        refine mm_E.s rfl rfl rfl (fun _ => rfl) ?_
        exact mm_E.ret rfl rfl rfl
      · skip
        refine mm_E.s rfl rfl rfl (fun _ => rfl) ?_
        refine mm_E.s rfl rfl rfl (fun _ => rfl) ?_
        refine mm_E.iv rfl rfl rfl rfl hx rfl (z_cx1 hE) ?_
        refine mm_E.s rfl rfl rfl (fun _ => rfl) ?_
        refine mm_E.s rfl rfl rfl (fun _ => rfl) ?_
        refine mm_E.s rfl rfl rfl (fun _ => rfl) ?_
        refine mm_E.s rfl rfl rfl (fun _ => rfl) ?_
        refine mm_E.s rfl rfl rfl (fun _ => if_pos hi) ?_
        refine mm_E.s rfl rfl rfl (fun _ => rfl) ?_
        exact mm_E.ret rfl rfl rfl
    · rcases hc with rfl | rfl
      · skip
        refine mm_E.s rfl rfl rfl (fun _ => rfl) ?_
        refine mm_E.s rfl rfl rfl (fun _ => rfl) ?_
        refine mm_E.iv rfl rfl rfl rfl hx rfl (z_cx0 hE) ?_
        refine mm_E.s rfl rfl rfl (fun _ => rfl) ?_
        refine mm_E.s rfl rfl rfl (fun _ => rfl) ?_
        refine mm_E.s rfl rfl rfl (fun _ => rfl) ?_
        refine mm_E.s rfl rfl rfl (fun _ => rfl) ?_
        refine mm_E.s rfl rfl rfl (fun _ => if_neg hi) ?_
        refine mm_E.s rfl rfl rfl (fun _ => rfl) ?_
        refine mm_E.s rfl rfl rfl (fun _ => rfl) ?_
        refine mm_E.s rfl rfl rfl (fun _ => rfl) ?_
        refine mm_E.s rfl rfl rfl (fun _ => rfl) ?_
        refine mm_E.s rfl rfl rfl (fun _ => rfl) ?_
        refine mm_E.iv rfl rfl rfl rfl hca rfl (z_size0 hE _) ?_
        refine mm_E.s rfl rfl rfl (fun _ => if_pos (Int32.not_lt.mp hi)) ?_
        refine mm_E.s rfl rfl rfl (fun _ => rfl) ?_
        exact mm_E.ret rfl rfl rfl
      · skip
        refine mm_E.s rfl rfl rfl (fun _ => rfl) ?_
        refine mm_E.s rfl rfl rfl (fun _ => rfl) ?_
        refine mm_E.iv rfl rfl rfl rfl hx rfl (z_cx1 hE) ?_
        refine mm_E.s rfl rfl rfl (fun _ => rfl) ?_
        refine mm_E.s rfl rfl rfl (fun _ => rfl) ?_
        refine mm_E.s rfl rfl rfl (fun _ => rfl) ?_
        refine mm_E.s rfl rfl rfl (fun _ => rfl) ?_
        refine mm_E.s rfl rfl rfl (fun _ => if_neg hi) ?_
        refine mm_E.s rfl rfl rfl (fun _ => rfl) ?_
        refine mm_E.s rfl rfl rfl (fun _ => rfl) ?_
        refine mm_E.s rfl rfl rfl (fun _ => rfl) ?_
        refine mm_E.s rfl rfl rfl (fun _ => rfl) ?_
        refine mm_E.s rfl rfl rfl (fun _ => rfl) ?_
        refine mm_E.iv rfl rfl rfl rfl hcb rfl (z_size1 hE _) ?_
        refine mm_E.s rfl rfl rfl (fun _ => if_pos (Int32.not_lt.mp hi)) ?_
        refine mm_E.s rfl rfl rfl (fun _ => rfl) ?_
        exact mm_E.ret rfl rfl rfl
  · skip
    refine mm_E.s rfl rfl rfl (fun _ => rfl) ?_
    refine mm_E.s rfl rfl rfl (fun _ => rfl) ?_
    refine mm_E.iv rfl rfl rfl rfl hx rfl (z_cxN hE hc) ?_
    refine mm_E.s rfl rfl rfl (fun _ => rfl) ?_
    refine mm_E.s rfl rfl rfl (fun _ => rfl) ?_
    refine mm_E.s rfl rfl rfl (fun _ => rfl) ?_
    refine mm_E.s rfl rfl rfl (fun _ => rfl) ?_
    exact mm_E.ret rfl rfl rfl

theorem z_euler {h : mm_H} {ro co : Int32} {mi : Int64} {ki : Int32} (hE : x_e0 h ro co mi ki) (c : Int32) : ∃ h', mm_EC kM 39 [.ref 0, .int c] h (some (.int 0), h') ∧ x_em h' 0 0 0 := by
  obtain ⟨fx, hx, hx1, hx7, hx14, hx21⟩ := z_x0 hE
  obtain ⟨fa, hca⟩ := z_c1 hE
  obtain ⟨fb, hcb⟩ := z_c7 hE
  obtain ⟨fg, hg⟩ := z_g14 hE
  refine ⟨h, ⟨kq_39, rfl, rfl, ?_⟩, x_e0_em hE⟩
  by_cases hc : c = 0 ∨ c = 1
  · rcases hc with rfl | rfl
    · skip
      refine mm_E.s rfl rfl rfl (fun _ => rfl) ?_
      refine mm_E.s rfl rfl rfl (fun _ => rfl) ?_
      refine mm_E.iv rfl rfl rfl rfl hx rfl (z_cx0 hE) ?_
      refine mm_E.s rfl rfl rfl (fun _ => rfl) ?_
      refine mm_E.s rfl rfl rfl (fun _ => rfl) ?_
      refine mm_E.s rfl rfl rfl (fun _ => rfl) ?_
      refine mm_E.s rfl rfl rfl (fun _ => rfl) ?_
      refine mm_E.s rfl rfl rfl (fun _ => rfl) ?_
      refine mm_E.iv rfl rfl rfl rfl hca rfl (z_size0 hE _) ?_
      refine mm_E.s rfl rfl rfl (fun _ => rfl) ?_
      refine mm_E.s rfl rfl rfl (fun _ => rfl) ?_
      refine mm_E.iv rfl rfl rfl rfl hca rfl (z_size0 hE _) ?_
      refine mm_E.s rfl rfl rfl (fun _ => rfl) ?_
      refine mm_E.s rfl rfl rfl (fun _ => rfl) ?_
      refine mm_E.s rfl rfl rfl (fun _ => rfl) ?_
      refine mm_E.iv rfl rfl rfl rfl hca rfl (z_size0 hE _) ?_
      refine mm_E.s rfl rfl rfl (fun _ => rfl) ?_
      refine mm_E.s rfl rfl rfl (fun _ => rfl) ?_
      refine mm_E.s rfl rfl rfl (fun _ => rfl) ?_
      refine mm_E.iv rfl rfl rfl rfl hca rfl (z_size0 hE _) ?_
      refine mm_E.s rfl rfl rfl (fun _ => rfl) ?_
      exact mm_E.ret rfl rfl rfl
    · skip
      refine mm_E.s rfl rfl rfl (fun _ => rfl) ?_
      refine mm_E.s rfl rfl rfl (fun _ => rfl) ?_
      refine mm_E.iv rfl rfl rfl rfl hx rfl (z_cx1 hE) ?_
      refine mm_E.s rfl rfl rfl (fun _ => rfl) ?_
      refine mm_E.s rfl rfl rfl (fun _ => rfl) ?_
      refine mm_E.s rfl rfl rfl (fun _ => rfl) ?_
      refine mm_E.s rfl rfl rfl (fun _ => rfl) ?_
      refine mm_E.s rfl rfl rfl (fun _ => rfl) ?_
      refine mm_E.iv rfl rfl rfl rfl hcb rfl (z_size1 hE _) ?_
      refine mm_E.s rfl rfl rfl (fun _ => rfl) ?_
      refine mm_E.s rfl rfl rfl (fun _ => rfl) ?_
      refine mm_E.iv rfl rfl rfl rfl hcb rfl (z_size1 hE _) ?_
      refine mm_E.s rfl rfl rfl (fun _ => rfl) ?_
      refine mm_E.s rfl rfl rfl (fun _ => rfl) ?_
      refine mm_E.s rfl rfl rfl (fun _ => rfl) ?_
      refine mm_E.iv rfl rfl rfl rfl hcb rfl (z_size1 hE _) ?_
      refine mm_E.s rfl rfl rfl (fun _ => rfl) ?_
      refine mm_E.s rfl rfl rfl (fun _ => rfl) ?_
      refine mm_E.s rfl rfl rfl (fun _ => rfl) ?_
      refine mm_E.iv rfl rfl rfl rfl hcb rfl (z_size1 hE _) ?_
      refine mm_E.s rfl rfl rfl (fun _ => rfl) ?_
      exact mm_E.ret rfl rfl rfl
  · skip
    refine mm_E.s rfl rfl rfl (fun _ => rfl) ?_
    refine mm_E.s rfl rfl rfl (fun _ => rfl) ?_
    refine mm_E.iv rfl rfl rfl rfl hx rfl (z_cxN hE hc) ?_
    refine mm_E.s rfl rfl rfl (fun _ => rfl) ?_
    refine mm_E.s rfl rfl rfl (fun _ => rfl) ?_
    refine mm_E.s rfl rfl rfl (fun _ => rfl) ?_
    refine mm_E.s rfl rfl rfl (fun _ => rfl) ?_
    exact mm_E.ret rfl rfl rfl

theorem z_put {h : mm_H} {ro co : Int32} {mi : Int64} {ki : Int32} (hE : x_e0 h ro co mi ki) (c s x : Int32) : ∃ h', mm_EC kM 43 [.ref 0, .int c, .int s, .int x] h (some (.int 0), h') ∧ x_em h' 0 0 0 := by
  obtain ⟨fx, hx, hx1, hx7, hx14, hx21⟩ := z_x0 hE
  obtain ⟨fa, hca⟩ := z_c1 hE
  obtain ⟨fb, hcb⟩ := z_c7 hE
  obtain ⟨fg, hg⟩ := z_g14 hE
  refine ⟨h, ⟨kq_43, rfl, rfl, ?_⟩, x_e0_em hE⟩
  by_cases hc : c = 0 ∨ c = 1
  · rcases hc with rfl | rfl
    · skip
      refine mm_E.s rfl rfl rfl (fun _ => rfl) ?_
      refine mm_E.s rfl rfl rfl (fun _ => rfl) ?_
      refine mm_E.iv rfl rfl rfl rfl hx rfl (z_cx0 hE) ?_
      refine mm_E.s rfl rfl rfl (fun _ => rfl) ?_
      refine mm_E.s rfl rfl rfl (fun _ => rfl) ?_
      refine mm_E.s rfl rfl rfl (fun _ => rfl) ?_
      refine mm_E.s rfl rfl rfl (fun _ => rfl) ?_
      refine mm_E.s rfl rfl rfl (fun _ => rfl) ?_
      refine mm_E.iv rfl rfl rfl rfl hca rfl (z_holds0 hE s) ?_
      refine mm_E.s rfl rfl rfl (fun _ => rfl) ?_
      refine mm_E.s rfl rfl rfl (fun _ => rfl) ?_
      exact mm_E.ret rfl rfl rfl
    · skip
      refine mm_E.s rfl rfl rfl (fun _ => rfl) ?_
      refine mm_E.s rfl rfl rfl (fun _ => rfl) ?_
      refine mm_E.iv rfl rfl rfl rfl hx rfl (z_cx1 hE) ?_
      refine mm_E.s rfl rfl rfl (fun _ => rfl) ?_
      refine mm_E.s rfl rfl rfl (fun _ => rfl) ?_
      refine mm_E.s rfl rfl rfl (fun _ => rfl) ?_
      refine mm_E.s rfl rfl rfl (fun _ => rfl) ?_
      refine mm_E.s rfl rfl rfl (fun _ => rfl) ?_
      refine mm_E.iv rfl rfl rfl rfl hcb rfl (z_holds1 hE s) ?_
      refine mm_E.s rfl rfl rfl (fun _ => rfl) ?_
      refine mm_E.s rfl rfl rfl (fun _ => rfl) ?_
      exact mm_E.ret rfl rfl rfl
  · skip
    refine mm_E.s rfl rfl rfl (fun _ => rfl) ?_
    refine mm_E.s rfl rfl rfl (fun _ => rfl) ?_
    refine mm_E.iv rfl rfl rfl rfl hx rfl (z_cxN hE hc) ?_
    refine mm_E.s rfl rfl rfl (fun _ => rfl) ?_
    refine mm_E.s rfl rfl rfl (fun _ => rfl) ?_
    refine mm_E.s rfl rfl rfl (fun _ => rfl) ?_
    refine mm_E.s rfl rfl rfl (fun _ => rfl) ?_
    exact mm_E.ret rfl rfl rfl

theorem z_get {h : mm_H} {ro co : Int32} {mi : Int64} {ki : Int32} (hE : x_e0 h ro co mi ki) (c s : Int32) : ∃ h', mm_EC kM 44 [.ref 0, .int c, .int s] h (some (.int 0), h') ∧ x_em h' 0 0 0 := by
  obtain ⟨fx, hx, hx1, hx7, hx14, hx21⟩ := z_x0 hE
  obtain ⟨fa, hca⟩ := z_c1 hE
  obtain ⟨fb, hcb⟩ := z_c7 hE
  obtain ⟨fg, hg⟩ := z_g14 hE
  refine ⟨h, ⟨kq_44, rfl, rfl, ?_⟩, x_e0_em hE⟩
  by_cases hc : c = 0 ∨ c = 1
  · rcases hc with rfl | rfl
    · skip
      refine mm_E.s rfl rfl rfl (fun _ => rfl) ?_
      refine mm_E.s rfl rfl rfl (fun _ => rfl) ?_
      refine mm_E.iv rfl rfl rfl rfl hx rfl (z_cx0 hE) ?_
      refine mm_E.s rfl rfl rfl (fun _ => rfl) ?_
      refine mm_E.s rfl rfl rfl (fun _ => rfl) ?_
      refine mm_E.s rfl rfl rfl (fun _ => rfl) ?_
      refine mm_E.s rfl rfl rfl (fun _ => rfl) ?_
      refine mm_E.s rfl rfl rfl (fun _ => rfl) ?_
      refine mm_E.iv rfl rfl rfl rfl hca rfl (z_holds0 hE s) ?_
      refine mm_E.s rfl rfl rfl (fun _ => rfl) ?_
      refine mm_E.s rfl rfl rfl (fun _ => rfl) ?_
      exact mm_E.ret rfl rfl rfl
    · skip
      refine mm_E.s rfl rfl rfl (fun _ => rfl) ?_
      refine mm_E.s rfl rfl rfl (fun _ => rfl) ?_
      refine mm_E.iv rfl rfl rfl rfl hx rfl (z_cx1 hE) ?_
      refine mm_E.s rfl rfl rfl (fun _ => rfl) ?_
      refine mm_E.s rfl rfl rfl (fun _ => rfl) ?_
      refine mm_E.s rfl rfl rfl (fun _ => rfl) ?_
      refine mm_E.s rfl rfl rfl (fun _ => rfl) ?_
      refine mm_E.s rfl rfl rfl (fun _ => rfl) ?_
      refine mm_E.iv rfl rfl rfl rfl hcb rfl (z_holds1 hE s) ?_
      refine mm_E.s rfl rfl rfl (fun _ => rfl) ?_
      refine mm_E.s rfl rfl rfl (fun _ => rfl) ?_
      exact mm_E.ret rfl rfl rfl
  · skip
    refine mm_E.s rfl rfl rfl (fun _ => rfl) ?_
    refine mm_E.s rfl rfl rfl (fun _ => rfl) ?_
    refine mm_E.iv rfl rfl rfl rfl hx rfl (z_cxN hE hc) ?_
    refine mm_E.s rfl rfl rfl (fun _ => rfl) ?_
    refine mm_E.s rfl rfl rfl (fun _ => rfl) ?_
    refine mm_E.s rfl rfl rfl (fun _ => rfl) ?_
    refine mm_E.s rfl rfl rfl (fun _ => rfl) ?_
    exact mm_E.ret rfl rfl rfl

theorem z_boundary {h : mm_H} {ro co : Int32} {mi : Int64} {ki : Int32} (hE : x_e0 h ro co mi ki) (c s : Int32) : ∃ h', mm_EC kM 45 [.ref 0, .int c, .int s] h (some (.int 0), h') ∧ x_em h' 0 0 0 := by
  obtain ⟨fx, hx, hx1, hx7, hx14, hx21⟩ := z_x0 hE
  obtain ⟨fa, hca⟩ := z_c1 hE
  obtain ⟨fb, hcb⟩ := z_c7 hE
  obtain ⟨fg, hg⟩ := z_g14 hE
  refine ⟨h, ⟨kq_45, rfl, rfl, ?_⟩, x_e0_em hE⟩
  by_cases hc : c = 0 ∨ c = 1
  · rcases hc with rfl | rfl
    · skip
      refine mm_E.s rfl rfl rfl (fun _ => rfl) ?_
      refine mm_E.s rfl rfl rfl (fun _ => rfl) ?_
      refine mm_E.iv rfl rfl rfl rfl hx rfl (z_cx0 hE) ?_
      refine mm_E.s rfl rfl rfl (fun _ => rfl) ?_
      refine mm_E.s rfl rfl rfl (fun _ => rfl) ?_
      refine mm_E.s rfl rfl rfl (fun _ => rfl) ?_
      refine mm_E.s rfl rfl rfl (fun _ => rfl) ?_
      refine mm_E.s rfl rfl rfl (fun _ => rfl) ?_
      refine mm_E.iv rfl rfl rfl rfl hca rfl (z_holds0 hE s) ?_
      refine mm_E.s rfl rfl rfl (fun _ => rfl) ?_
      refine mm_E.s rfl rfl rfl (fun _ => rfl) ?_
      exact mm_E.ret rfl rfl rfl
    · skip
      refine mm_E.s rfl rfl rfl (fun _ => rfl) ?_
      refine mm_E.s rfl rfl rfl (fun _ => rfl) ?_
      refine mm_E.iv rfl rfl rfl rfl hx rfl (z_cx1 hE) ?_
      refine mm_E.s rfl rfl rfl (fun _ => rfl) ?_
      refine mm_E.s rfl rfl rfl (fun _ => rfl) ?_
      refine mm_E.s rfl rfl rfl (fun _ => rfl) ?_
      refine mm_E.s rfl rfl rfl (fun _ => rfl) ?_
      refine mm_E.s rfl rfl rfl (fun _ => rfl) ?_
      refine mm_E.iv rfl rfl rfl rfl hcb rfl (z_holds1 hE s) ?_
      refine mm_E.s rfl rfl rfl (fun _ => rfl) ?_
      refine mm_E.s rfl rfl rfl (fun _ => rfl) ?_
      exact mm_E.ret rfl rfl rfl
  · skip
    refine mm_E.s rfl rfl rfl (fun _ => rfl) ?_
    refine mm_E.s rfl rfl rfl (fun _ => rfl) ?_
    refine mm_E.iv rfl rfl rfl rfl hx rfl (z_cxN hE hc) ?_
    refine mm_E.s rfl rfl rfl (fun _ => rfl) ?_
    refine mm_E.s rfl rfl rfl (fun _ => rfl) ?_
    refine mm_E.s rfl rfl rfl (fun _ => rfl) ?_
    refine mm_E.s rfl rfl rfl (fun _ => rfl) ?_
    exact mm_E.ret rfl rfl rfl

theorem z_image {h : mm_H} {ro co : Int32} {mi : Int64} {ki : Int32} (hE : x_e0 h ro co mi ki) (s : Int32) : ∃ h', mm_EC kM 49 [.ref 0, .int s] h (some (.int 0), h') ∧ x_em h' 0 0 0 := by
  obtain ⟨fx, hx, hx1, hx7, hx14, hx21⟩ := z_x0 hE
  obtain ⟨fa, hca⟩ := z_c1 hE
  obtain ⟨fb, hcb⟩ := z_c7 hE
  obtain ⟨fg, hg⟩ := z_g14 hE
  refine ⟨h, ⟨kq_49, rfl, rfl, ?_⟩, x_e0_em hE⟩
  refine mm_E.s rfl rfl rfl (fun _ => rfl) ?_
  refine mm_E.gf rfl rfl rfl hx hx7 ?_
  refine mm_E.s rfl rfl rfl (fun _ => rfl) ?_
  refine mm_E.iv rfl rfl rfl rfl hcb rfl (z_holds1 hE s) ?_
  refine mm_E.s rfl rfl rfl (fun _ => rfl) ?_
  refine mm_E.s rfl rfl rfl (fun _ => rfl) ?_
  exact mm_E.ret rfl rfl rfl

theorem z_simp {h : mm_H} {ro co : Int32} {mi : Int64} {ki : Int32} (hE : x_e0 h ro co mi ki) : mm_EC kM 48 [.ref 0] h (some (.int 1), h) := by
  obtain ⟨fx, hx, hx1, hx7, hx14, hx21⟩ := z_x0 hE
  obtain ⟨fa, hca⟩ := z_c1 hE
  obtain ⟨fb, hcb⟩ := z_c7 hE
  refine ⟨kq_48, rfl, rfl, ?_⟩
  refine mm_E.s rfl rfl rfl (fun _ => rfl) ?_
  refine mm_E.s rfl rfl rfl (fun _ => rfl) ?_
  refine mm_E.s rfl rfl rfl (fun _ => rfl) ?_
  refine mm_E.s rfl rfl rfl (fun _ => rfl) ?_
  refine mm_E.s rfl rfl rfl (fun _ => rfl) ?_
  refine mm_E.s rfl rfl rfl (fun _ => rfl) ?_
  refine mm_E.s rfl rfl rfl (fun _ => rfl) ?_
  refine mm_E.s rfl rfl rfl (fun _ => rfl) ?_
  refine mm_E.s rfl rfl rfl (fun _ => rfl) ?_
  refine mm_E.gf rfl rfl rfl hx hx1 ?_
  refine mm_E.s rfl rfl rfl (fun _ => rfl) ?_
  refine mm_E.iv rfl rfl rfl rfl hca rfl (z_size0 hE _) ?_
  refine mm_E.s rfl rfl rfl (fun _ => rfl) ?_
  refine mm_E.s rfl rfl rfl (fun _ => rfl) ?_
  refine mm_E.s rfl rfl rfl (fun _ => rfl) ?_
  refine mm_E.s rfl rfl rfl (fun _ => rfl) ?_
  refine mm_E.s rfl rfl rfl (fun _ => rfl) ?_
  refine mm_E.s rfl rfl rfl (fun _ => rfl) ?_
  refine mm_E.s rfl rfl rfl (fun _ => rfl) ?_
  refine mm_E.s rfl rfl rfl (fun _ => rfl) ?_
  refine mm_E.s rfl rfl rfl (fun _ => rfl) ?_
  refine mm_E.s rfl rfl rfl (fun _ => rfl) ?_
  refine mm_E.gf rfl rfl rfl hx hx1 ?_
  refine mm_E.s rfl rfl rfl (fun _ => rfl) ?_
  refine mm_E.iv rfl rfl rfl rfl hca rfl (z_size0 hE _) ?_
  refine mm_E.s rfl rfl rfl (fun _ => rfl) ?_
  refine mm_E.s rfl rfl rfl (fun _ => rfl) ?_
  refine mm_E.s rfl rfl rfl (fun _ => rfl) ?_
  refine mm_E.s rfl rfl rfl (fun _ => rfl) ?_
  refine mm_E.s rfl rfl rfl (fun _ => rfl) ?_
  refine mm_E.s rfl rfl rfl (fun _ => rfl) ?_
  refine mm_E.s rfl rfl rfl (fun _ => rfl) ?_
  refine mm_E.s rfl rfl rfl (fun _ => rfl) ?_
  refine mm_E.s rfl rfl rfl (fun _ => rfl) ?_
  refine mm_E.s rfl rfl rfl (fun _ => rfl) ?_
  refine mm_E.gf rfl rfl rfl hx hx1 ?_
  refine mm_E.s rfl rfl rfl (fun _ => rfl) ?_
  refine mm_E.iv rfl rfl rfl rfl hca rfl (z_size0 hE _) ?_
  refine mm_E.s rfl rfl rfl (fun _ => rfl) ?_
  refine mm_E.s rfl rfl rfl (fun _ => rfl) ?_
  refine mm_E.s rfl rfl rfl (fun _ => rfl) ?_
  refine mm_E.s rfl rfl rfl (fun _ => rfl) ?_
  refine mm_E.s rfl rfl rfl (fun _ => rfl) ?_
  refine mm_E.s rfl rfl rfl (fun _ => rfl) ?_
  refine mm_E.s rfl rfl rfl (fun _ => rfl) ?_
  refine mm_E.s rfl rfl rfl (fun _ => rfl) ?_
  refine mm_E.s rfl rfl rfl (fun _ => rfl) ?_
  refine mm_E.s rfl rfl rfl (fun _ => rfl) ?_
  refine mm_E.gf rfl rfl rfl hx hx1 ?_
  refine mm_E.s rfl rfl rfl (fun _ => rfl) ?_
  refine mm_E.iv rfl rfl rfl rfl hca rfl (z_size0 hE _) ?_
  refine mm_E.s rfl rfl rfl (fun _ => rfl) ?_
  refine mm_E.s rfl rfl rfl (fun _ => rfl) ?_
  refine mm_E.s rfl rfl rfl (fun _ => rfl) ?_
  refine mm_E.s rfl rfl rfl (fun _ => rfl) ?_
  refine mm_E.s rfl rfl rfl (fun _ => rfl) ?_
  refine mm_E.s rfl rfl rfl (fun _ => rfl) ?_
  refine mm_E.s rfl rfl rfl (fun _ => rfl) ?_
  exact mm_E.ret rfl rfl rfl

theorem x_87 {v : Int32} : 8 ≤ v ↔ 7 < v := by
  rw [Int32.le_iff_toInt_le, Int32.lt_iff_toInt_lt]
  have h3 : (7 : Int32).toInt = 7 := rfl
  have h4 : (8 : Int32).toInt = 8 := rfl
  omega
theorem x_78 {v : Int32} : v < 8 ↔ v ≤ 7 := by
  rw [Int32.le_iff_toInt_le, Int32.lt_iff_toInt_lt]
  have h3 : (7 : Int32).toInt = 7 := rfl
  have h4 : (8 : Int32).toInt = 8 := rfl
  omega
theorem z_map {h : mm_H} {ro co : Int32} {mi : Int64} {ki : Int32} (hE : x_e0 h ro co mi ki) (v u : Int32) : ∃ h', mm_EC kM 47 [.ref 0, .int v, .int u] h (some (.int (if (¬ v < 0 ∧ ¬ 7 < v) ∧ ¬ u < 0 ∧ u ≤ 7 then 1 else 0)), h') ∧ x_em h' 0 0 0 := by
  have hE0 := x_e0_em hE
  obtain ⟨pl0, ke0, sz0, se0, gr0, pl1, ke1, sz1, se1, gr1, im, ce, wo, pv, fa, pm, pw, fr, ba, rw, mo, M, rfl, hs0, hs1, hp0, hp1, hM⟩ := hE
  by_cases v0 : v < 0
  · rw [if_neg (fun q => q.1.1 v0)]
    refine ⟨([.inr (3, [.ref 1, .ref 7, .ref 13, .ref 14, .ref 21, .ref 23, .ref 24]), .inr (0, [.ref 2, .ref 3, .ref 4, .ref 5, .ref 6]), x_it 256 pl0, x_it 256 ke0, x_it 4 sz0, x_it 96 se0, x_it 4 gr0, .inr (0, [.ref 8, .ref 9, .ref 10, .ref 11, .ref 12]), x_it 256 pl1, x_it 256 ke1, x_it 4 sz1, x_it 96 se1, x_it 4 gr1, x_it 8 im, .inr (1, [.ref 15, .ref 16, .ref 17, .ref 18, .ref 19, .ref 20, .int ro, .int co, .int mo, .long mi, .int ki]), x_it 2304 ce, x_it 2304 wo, x_it 31 pv, x_it 48 fa, x_it 10 pm, x_it 10 pw, .inr (2, [.ref 22]), x_lg 24 rw, x_it 24 fr, x_it 24 ba] ++ M : mm_H), ⟨kq_47, rfl, rfl, ?_⟩, hE0⟩
    refine mm_E.s rfl rfl rfl (fun _ => rfl) ?_
    refine mm_E.s rfl rfl rfl (fun _ => if_pos v0) ?_
    refine mm_E.s rfl rfl rfl (fun _ => rfl) ?_
    exact mm_E.ret rfl rfl rfl
  · by_cases v7 : 7 < v
    · rw [if_neg (fun q => q.1.2 v7)]
      refine ⟨([.inr (3, [.ref 1, .ref 7, .ref 13, .ref 14, .ref 21, .ref 23, .ref 24]), .inr (0, [.ref 2, .ref 3, .ref 4, .ref 5, .ref 6]), x_it 256 pl0, x_it 256 ke0, x_it 4 sz0, x_it 96 se0, x_it 4 gr0, .inr (0, [.ref 8, .ref 9, .ref 10, .ref 11, .ref 12]), x_it 256 pl1, x_it 256 ke1, x_it 4 sz1, x_it 96 se1, x_it 4 gr1, x_it 8 im, .inr (1, [.ref 15, .ref 16, .ref 17, .ref 18, .ref 19, .ref 20, .int ro, .int co, .int mo, .long mi, .int ki]), x_it 2304 ce, x_it 2304 wo, x_it 31 pv, x_it 48 fa, x_it 10 pm, x_it 10 pw, .inr (2, [.ref 22]), x_lg 24 rw, x_it 24 fr, x_it 24 ba] ++ M : mm_H), ⟨kq_47, rfl, rfl, ?_⟩, hE0⟩
      refine mm_E.s rfl rfl rfl (fun _ => rfl) ?_
      refine mm_E.s rfl rfl rfl (fun _ => if_neg v0) ?_
      refine mm_E.s rfl rfl rfl (fun _ => rfl) ?_
      refine mm_E.s rfl rfl rfl (fun _ => rfl) ?_
      refine mm_E.s rfl rfl rfl (fun _ => if_pos (x_87.mpr v7)) ?_
      refine mm_E.s rfl rfl rfl (fun _ => rfl) ?_
      exact mm_E.ret rfl rfl rfl
    · have v8 : ¬ 8 ≤ v := fun q => v7 (x_87.mp q)
      by_cases u0 : u < 0
      · rw [if_neg (fun q => q.2.1 u0)]
        refine ⟨([.inr (3, [.ref 1, .ref 7, .ref 13, .ref 14, .ref 21, .ref 23, .ref 24]), .inr (0, [.ref 2, .ref 3, .ref 4, .ref 5, .ref 6]), x_it 256 pl0, x_it 256 ke0, x_it 4 sz0, x_it 96 se0, x_it 4 gr0, .inr (0, [.ref 8, .ref 9, .ref 10, .ref 11, .ref 12]), x_it 256 pl1, x_it 256 ke1, x_it 4 sz1, x_it 96 se1, x_it 4 gr1, x_it 8 im, .inr (1, [.ref 15, .ref 16, .ref 17, .ref 18, .ref 19, .ref 20, .int ro, .int co, .int mo, .long mi, .int ki]), x_it 2304 ce, x_it 2304 wo, x_it 31 pv, x_it 48 fa, x_it 10 pm, x_it 10 pw, .inr (2, [.ref 22]), x_lg 24 rw, x_it 24 fr, x_it 24 ba] ++ M : mm_H), ⟨kq_47, rfl, rfl, ?_⟩, hE0⟩
        refine mm_E.s rfl rfl rfl (fun _ => rfl) ?_
        refine mm_E.s rfl rfl rfl (fun _ => if_neg v0) ?_
        refine mm_E.s rfl rfl rfl (fun _ => rfl) ?_
        refine mm_E.s rfl rfl rfl (fun _ => rfl) ?_
        refine mm_E.s rfl rfl rfl (fun _ => if_neg v8) ?_
        refine mm_E.s rfl rfl rfl (fun _ => rfl) ?_
        refine mm_E.s rfl rfl rfl (fun _ => if_pos u0) ?_
        refine mm_E.s rfl rfl rfl (fun _ => rfl) ?_
        exact mm_E.ret rfl rfl rfl
      · by_cases u7 : u ≤ 7
        · rw [if_pos ⟨⟨v0, v7⟩, u0, u7⟩]
          obtain ⟨j, hj, rfl⟩ := nI_of2 (x := v) (M := 7) (n := 7) rfl v0 (Int32.not_lt.mp v7)
          refine ⟨([.inr (3, [.ref 1, .ref 7, .ref 13, .ref 14, .ref 21, .ref 23, .ref 24]), .inr (0, [.ref 2, .ref 3, .ref 4, .ref 5, .ref 6]), x_it 256 pl0, x_it 256 ke0, x_it 4 sz0, x_it 96 se0, x_it 4 gr0, .inr (0, [.ref 8, .ref 9, .ref 10, .ref 11, .ref 12]), x_it 256 pl1, x_it 256 ke1, x_it 4 sz1, x_it 96 se1, x_it 4 gr1, x_it 8 (upd im (nI j).toNatClampNeg u), .inr (1, [.ref 15, .ref 16, .ref 17, .ref 18, .ref 19, .ref 20, .int ro, .int co, .int mo, .long mi, .int ki]), x_it 2304 ce, x_it 2304 wo, x_it 31 pv, x_it 48 fa, x_it 10 pm, x_it 10 pw, .inr (2, [.ref 22]), x_lg 24 rw, x_it 24 fr, x_it 24 ba] ++ M : mm_H), ⟨kq_47, rfl, rfl, ?_⟩, hM _ rfl⟩
          refine mm_E.s rfl rfl rfl (fun _ => rfl) ?_
          refine mm_E.s rfl rfl rfl (fun _ => if_neg v0) ?_
          refine mm_E.s rfl rfl rfl (fun _ => rfl) ?_
          refine mm_E.s rfl rfl rfl (fun _ => rfl) ?_
          refine mm_E.s rfl rfl rfl (fun _ => if_neg v8) ?_
          refine mm_E.s rfl rfl rfl (fun _ => rfl) ?_
          refine mm_E.s rfl rfl rfl (fun _ => if_neg u0) ?_
          refine mm_E.s rfl rfl rfl (fun _ => rfl) ?_
          refine mm_E.s rfl rfl rfl (fun _ => rfl) ?_
          refine mm_E.s rfl rfl rfl (fun _ => if_pos (x_78.mpr u7)) ?_
          refine mm_E.s rfl rfl rfl (fun _ => rfl) ?_
          refine mm_E.gf rfl rfl rfl rfl rfl ?_
          refine mm_E.s rfl rfl rfl (fun _ => rfl) ?_
          refine mm_E.s rfl rfl rfl (fun _ => rfl) ?_
          refine mm_E.is rfl rfl rfl (mm_bd (by omega) (by decide)) rfl ?_
          refine mm_E.s rfl rfl rfl (fun _ => rfl) ?_
          exact mm_E.ret rfl rfl rfl
        · rw [if_neg (fun q => u7 q.2.2)]
          refine ⟨([.inr (3, [.ref 1, .ref 7, .ref 13, .ref 14, .ref 21, .ref 23, .ref 24]), .inr (0, [.ref 2, .ref 3, .ref 4, .ref 5, .ref 6]), x_it 256 pl0, x_it 256 ke0, x_it 4 sz0, x_it 96 se0, x_it 4 gr0, .inr (0, [.ref 8, .ref 9, .ref 10, .ref 11, .ref 12]), x_it 256 pl1, x_it 256 ke1, x_it 4 sz1, x_it 96 se1, x_it 4 gr1, x_it 8 im, .inr (1, [.ref 15, .ref 16, .ref 17, .ref 18, .ref 19, .ref 20, .int ro, .int co, .int mo, .long mi, .int ki]), x_it 2304 ce, x_it 2304 wo, x_it 31 pv, x_it 48 fa, x_it 10 pm, x_it 10 pw, .inr (2, [.ref 22]), x_lg 24 rw, x_it 24 fr, x_it 24 ba] ++ M : mm_H), ⟨kq_47, rfl, rfl, ?_⟩, hE0⟩
          refine mm_E.s rfl rfl rfl (fun _ => rfl) ?_
          refine mm_E.s rfl rfl rfl (fun _ => if_neg v0) ?_
          refine mm_E.s rfl rfl rfl (fun _ => rfl) ?_
          refine mm_E.s rfl rfl rfl (fun _ => rfl) ?_
          refine mm_E.s rfl rfl rfl (fun _ => if_neg v8) ?_
          refine mm_E.s rfl rfl rfl (fun _ => rfl) ?_
          refine mm_E.s rfl rfl rfl (fun _ => if_neg u0) ?_
          refine mm_E.s rfl rfl rfl (fun _ => rfl) ?_
          refine mm_E.s rfl rfl rfl (fun _ => rfl) ?_
          refine mm_E.s rfl rfl rfl (fun _ => if_neg (fun q => u7 (x_78.mp q))) ?_
          refine mm_E.s rfl rfl rfl (fun _ => rfl) ?_
          exact mm_E.ret rfl rfl rfl

theorem z_drop0 {h : mm_H} {ro co : Int32} {mi : Int64} {ki : Int32} (hE : x_e0 h ro co mi ki) : ∃ h', mm_EC kM 3 [.ref 1] h (none, h') ∧ x_em h' 0 0 0 := by
  obtain ⟨pl0, ke0, sz0, se0, gr0, pl1, ke1, sz1, se1, gr1, im, ce, wo, pv, fa, pm, pw, fr, ba, rw, mo, M, rfl, hs0, hs1, hp0, hp1, hM⟩ := hE
  refine ⟨([.inr (3, [.ref 1, .ref 7, .ref 13, .ref 14, .ref 21, .ref 23, .ref 24]), .inr (0, [.ref 2, .ref 3, .ref 4, .ref 5, .ref 6]), x_it 256 (x_fill pl0 (-1) 256), x_it 256 (x_fill ke0 0 256), x_it 4 (x_fill sz0 0 4), x_it 96 se0, x_it 4 gr0, .inr (0, [.ref 8, .ref 9, .ref 10, .ref 11, .ref 12]), x_it 256 pl1, x_it 256 ke1, x_it 4 sz1, x_it 96 se1, x_it 4 gr1, x_it 8 im, .inr (1, [.ref 15, .ref 16, .ref 17, .ref 18, .ref 19, .ref 20, .int ro, .int co, .int mo, .long mi, .int ki]), x_it 2304 ce, x_it 2304 wo, x_it 31 pv, x_it 48 fa, x_it 10 pm, x_it 10 pw, .inr (2, [.ref 22]), x_lg 24 rw, x_it 24 fr, x_it 24 ba] ++ M : mm_H), ⟨kq_3, rfl, rfl, ?_⟩, hM _ rfl⟩
  refine mm_E.s rfl rfl rfl (fun _ => rfl) ?_
  refine mm_E.gf rfl rfl rfl rfl rfl ?_
  refine mm_E.s rfl rfl rfl (fun _ => rfl) ?_
  refine mm_E.ic rfl rfl rfl rfl rfl (x_fill_EC rfl (by decide)) ?_
  refine mm_E.s rfl rfl rfl (fun _ => rfl) ?_
  refine mm_E.gf rfl rfl rfl rfl rfl ?_
  refine mm_E.s rfl rfl rfl (fun _ => rfl) ?_
  refine mm_E.ic rfl rfl rfl rfl rfl (x_fill_EC rfl (by decide)) ?_
  refine mm_E.s rfl rfl rfl (fun _ => rfl) ?_
  refine mm_E.gf rfl rfl rfl rfl rfl ?_
  refine mm_E.s rfl rfl rfl (fun _ => rfl) ?_
  refine mm_E.ic rfl rfl rfl rfl rfl (x_fill_EC rfl (by decide)) ?_
  exact mm_E.ret rfl rfl rfl

theorem z_drop1 {h : mm_H} {ro co : Int32} {mi : Int64} {ki : Int32} (hE : x_e0 h ro co mi ki) : ∃ h', mm_EC kM 3 [.ref 7] h (none, h') ∧ x_em h' 0 0 0 := by
  obtain ⟨pl0, ke0, sz0, se0, gr0, pl1, ke1, sz1, se1, gr1, im, ce, wo, pv, fa, pm, pw, fr, ba, rw, mo, M, rfl, hs0, hs1, hp0, hp1, hM⟩ := hE
  refine ⟨([.inr (3, [.ref 1, .ref 7, .ref 13, .ref 14, .ref 21, .ref 23, .ref 24]), .inr (0, [.ref 2, .ref 3, .ref 4, .ref 5, .ref 6]), x_it 256 pl0, x_it 256 ke0, x_it 4 sz0, x_it 96 se0, x_it 4 gr0, .inr (0, [.ref 8, .ref 9, .ref 10, .ref 11, .ref 12]), x_it 256 (x_fill pl1 (-1) 256), x_it 256 (x_fill ke1 0 256), x_it 4 (x_fill sz1 0 4), x_it 96 se1, x_it 4 gr1, x_it 8 im, .inr (1, [.ref 15, .ref 16, .ref 17, .ref 18, .ref 19, .ref 20, .int ro, .int co, .int mo, .long mi, .int ki]), x_it 2304 ce, x_it 2304 wo, x_it 31 pv, x_it 48 fa, x_it 10 pm, x_it 10 pw, .inr (2, [.ref 22]), x_lg 24 rw, x_it 24 fr, x_it 24 ba] ++ M : mm_H), ⟨kq_3, rfl, rfl, ?_⟩, hM _ rfl⟩
  refine mm_E.s rfl rfl rfl (fun _ => rfl) ?_
  refine mm_E.gf rfl rfl rfl rfl rfl ?_
  refine mm_E.s rfl rfl rfl (fun _ => rfl) ?_
  refine mm_E.ic rfl rfl rfl rfl rfl (x_fill_EC rfl (by decide)) ?_
  refine mm_E.s rfl rfl rfl (fun _ => rfl) ?_
  refine mm_E.gf rfl rfl rfl rfl rfl ?_
  refine mm_E.s rfl rfl rfl (fun _ => rfl) ?_
  refine mm_E.ic rfl rfl rfl rfl rfl (x_fill_EC rfl (by decide)) ?_
  refine mm_E.s rfl rfl rfl (fun _ => rfl) ?_
  refine mm_E.gf rfl rfl rfl rfl rfl ?_
  refine mm_E.s rfl rfl rfl (fun _ => rfl) ?_
  refine mm_E.ic rfl rfl rfl rfl rfl (x_fill_EC rfl (by decide)) ?_
  exact mm_E.ret rfl rfl rfl

theorem z_clear {h : mm_H} {ro co : Int32} {mi : Int64} {ki : Int32} (hE : x_e0 h ro co mi ki) (c : Int32) : ∃ h', mm_EC kM 35 [.ref 0, .int c] h (some (.int (if c = 0 ∨ c = 1 then 1 else 0)), h') ∧ x_em h' 0 0 0 := by
  obtain ⟨fx, hx, hx1, hx7, hx14, hx21⟩ := z_x0 hE
  obtain ⟨fa, hca⟩ := z_c1 hE
  obtain ⟨fb, hcb⟩ := z_c7 hE
  obtain ⟨fg, hg⟩ := z_g14 hE
  by_cases hc : c = 0 ∨ c = 1
  · rw [if_pos hc]
    rcases hc with rfl | rfl
    · obtain ⟨h1, E1, hE1⟩ := z_drop0 hE
      refine ⟨h1, ⟨kq_35, rfl, rfl, ?_⟩, hE1⟩
      refine mm_E.s rfl rfl rfl (fun _ => rfl) ?_
      refine mm_E.s rfl rfl rfl (fun _ => rfl) ?_
      refine mm_E.iv rfl rfl rfl rfl hx rfl (z_cx0 hE) ?_
      refine mm_E.s rfl rfl rfl (fun _ => rfl) ?_
      refine mm_E.s rfl rfl rfl (fun _ => rfl) ?_
      refine mm_E.s rfl rfl rfl (fun _ => rfl) ?_
      refine mm_E.s rfl rfl rfl (fun _ => rfl) ?_
      refine mm_E.iv rfl rfl rfl rfl hca rfl E1 ?_
      refine mm_E.s rfl rfl rfl (fun _ => rfl) ?_
      exact mm_E.ret rfl rfl rfl
    · obtain ⟨h1, E1, hE1⟩ := z_drop1 hE
      refine ⟨h1, ⟨kq_35, rfl, rfl, ?_⟩, hE1⟩
      refine mm_E.s rfl rfl rfl (fun _ => rfl) ?_
      refine mm_E.s rfl rfl rfl (fun _ => rfl) ?_
      refine mm_E.iv rfl rfl rfl rfl hx rfl (z_cx1 hE) ?_
      refine mm_E.s rfl rfl rfl (fun _ => rfl) ?_
      refine mm_E.s rfl rfl rfl (fun _ => rfl) ?_
      refine mm_E.s rfl rfl rfl (fun _ => rfl) ?_
      refine mm_E.s rfl rfl rfl (fun _ => rfl) ?_
      refine mm_E.iv rfl rfl rfl rfl hcb rfl E1 ?_
      refine mm_E.s rfl rfl rfl (fun _ => rfl) ?_
      exact mm_E.ret rfl rfl rfl
  · rw [if_neg hc]
    refine ⟨h, ⟨kq_35, rfl, rfl, ?_⟩, x_e0_em hE⟩
    refine mm_E.s rfl rfl rfl (fun _ => rfl) ?_
    refine mm_E.s rfl rfl rfl (fun _ => rfl) ?_
    refine mm_E.iv rfl rfl rfl rfl hx rfl (z_cxN hE hc) ?_
    refine mm_E.s rfl rfl rfl (fun _ => rfl) ?_
    refine mm_E.s rfl rfl rfl (fun _ => rfl) ?_
    refine mm_E.s rfl rfl rfl (fun _ => rfl) ?_
    refine mm_E.s rfl rfl rfl (fun _ => rfl) ?_
    exact mm_E.ret rfl rfl rfl

theorem z_torsion {h : mm_H} {ro co : Int32} {mi : Int64} {ki : Int32} (hE : x_e0 h ro co mi ki) (c k i : Int32) : ∃ h', mm_EC kM 41 [.ref 0, .int c, .int k, .int i] h (some (.int (if (c = 0 ∨ c = 1) ∧ ¬ k < 0 ∧ ¬ 3 < k ∧ 0 ≤ i then 0 else -1)), h') ∧ x_em h' 0 0 0 := by
  obtain ⟨fx, hx, hx1, hx7, hx14, hx21⟩ := z_x0 hE
  obtain ⟨fa, hca⟩ := z_c1 hE
  obtain ⟨fb, hcb⟩ := z_c7 hE
  obtain ⟨fg, hg⟩ := z_g14 hE
  by_cases hc : c = 0 ∨ c = 1
  · by_cases hk : k < 0 ∨ 3 < k
    · rw [if_neg (fun q => hk.elim q.2.1 q.2.2.1)]
      refine ⟨h, ⟨kq_41, rfl, rfl, ?_⟩, x_e0_em hE⟩
      rcases hc with rfl | rfl
      · skip
        refine mm_E.s rfl rfl rfl (fun _ => rfl) ?_
        refine mm_E.s rfl rfl rfl (fun _ => rfl) ?_
        refine mm_E.iv rfl rfl rfl rfl hx rfl (z_cx0 hE) ?_
        refine mm_E.s rfl rfl rfl (fun _ => rfl) ?_
        refine mm_E.s rfl rfl rfl (fun _ => rfl) ?_
        refine mm_E.s rfl rfl rfl (fun _ => rfl) ?_
        refine mm_E.s rfl rfl rfl (fun _ => rfl) ?_
        refine mm_E.ic rfl rfl rfl rfl rfl (z_isD0 (x_k4.mp hk)) ?_
        refine mm_E.s rfl rfl rfl (fun _ => rfl) ?_
        refine mm_E.s rfl rfl rfl (fun _ => rfl) ?_
        exact mm_E.ret rfl rfl rfl
      · skip
        refine mm_E.s rfl rfl rfl (fun _ => rfl) ?_
        refine mm_E.s rfl rfl rfl (fun _ => rfl) ?_
        refine mm_E.iv rfl rfl rfl rfl hx rfl (z_cx1 hE) ?_
        refine mm_E.s rfl rfl rfl (fun _ => rfl) ?_
        refine mm_E.s rfl rfl rfl (fun _ => rfl) ?_
        refine mm_E.s rfl rfl rfl (fun _ => rfl) ?_
        refine mm_E.s rfl rfl rfl (fun _ => rfl) ?_
        refine mm_E.ic rfl rfl rfl rfl rfl (z_isD0 (x_k4.mp hk)) ?_
        refine mm_E.s rfl rfl rfl (fun _ => rfl) ?_
        refine mm_E.s rfl rfl rfl (fun _ => rfl) ?_
        exact mm_E.ret rfl rfl rfl
    · have k0 : ¬ k < 0 := fun q => hk (Or.inl q)
      have k3 : ¬ 3 < k := fun q => hk (Or.inr q)
      have k4 : ¬ 4 ≤ k := fun q => k3 (x_43 q)
      by_cases hi : 0 ≤ i
      · rw [if_pos ⟨hc, k0, k3, hi⟩]
        rcases hc with rfl | rfl
        · obtain ⟨h1, E1, hE1⟩ := z_lb0 hE (k + 1)
          obtain ⟨fx', hx', hx1', hx7', hx14', hx21'⟩ := z_x0 hE1
          obtain ⟨fg1, hg1⟩ := z_g14 hE1
          obtain ⟨h2, E2, hE2⟩ := z_ff hE1
          refine ⟨h2, ⟨kq_41, rfl, rfl, ?_⟩, x_e0_em hE2⟩
          refine mm_E.s rfl rfl rfl (fun _ => rfl) ?_
          refine mm_E.s rfl rfl rfl (fun _ => rfl) ?_
          refine mm_E.iv rfl rfl rfl rfl hx rfl (z_cx0 hE) ?_
          refine mm_E.s rfl rfl rfl (fun _ => rfl) ?_
          refine mm_E.s rfl rfl rfl (fun _ => rfl) ?_
          refine mm_E.s rfl rfl rfl (fun _ => rfl) ?_
          refine mm_E.s rfl rfl rfl (fun _ => rfl) ?_
          refine mm_E.ic rfl rfl rfl rfl rfl (z_isD1 k0 k4) ?_
          refine mm_E.s rfl rfl rfl (fun _ => rfl) ?_
          refine mm_E.s rfl rfl rfl (fun _ => rfl) ?_
          refine mm_E.s rfl rfl rfl (fun _ => if_pos hi) ?_
          refine mm_E.s rfl rfl rfl (fun _ => rfl) ?_
          refine mm_E.s rfl rfl rfl (fun _ => rfl) ?_
          refine mm_E.s rfl rfl rfl (fun _ => rfl) ?_
          refine mm_E.s rfl rfl rfl (fun _ => rfl) ?_
          refine mm_E.s rfl rfl rfl (fun _ => rfl) ?_
          refine mm_E.iv rfl rfl rfl rfl hx rfl E1 ?_
          refine mm_E.s rfl rfl rfl (fun _ => rfl) ?_
          refine mm_E.gf rfl rfl rfl hx' hx14' ?_
          refine mm_E.iv rfl rfl rfl rfl hg1 rfl E2 ?_
          refine mm_E.s rfl rfl rfl (fun _ => rfl) ?_
          refine mm_E.s rfl rfl rfl (fun _ => rfl) ?_
          refine mm_E.s rfl rfl rfl (fun _ => rfl) ?_
          refine mm_E.s rfl rfl rfl (fun _ => rfl) ?_
          refine mm_E.s rfl rfl rfl (fun _ => rfl) ?_
          refine mm_E.s rfl rfl rfl (fun _ => rfl) ?_
          refine mm_E.s rfl rfl rfl (fun _ => rfl) ?_
          refine mm_E.s rfl rfl rfl (fun _ => rfl) ?_
          refine mm_E.s rfl rfl rfl (fun _ => rfl) ?_
          refine mm_E.s rfl rfl rfl (fun _ => rfl) ?_
          refine mm_E.s rfl rfl rfl (fun _ => if_pos hi) ?_
          refine mm_E.s rfl rfl rfl (fun _ => rfl) ?_
          exact mm_E.ret rfl rfl rfl
        · obtain ⟨h1, E1, hE1⟩ := z_lb1 hE (k + 1)
          obtain ⟨fx', hx', hx1', hx7', hx14', hx21'⟩ := z_x0 hE1
          obtain ⟨fg1, hg1⟩ := z_g14 hE1
          obtain ⟨h2, E2, hE2⟩ := z_ff hE1
          refine ⟨h2, ⟨kq_41, rfl, rfl, ?_⟩, x_e0_em hE2⟩
          refine mm_E.s rfl rfl rfl (fun _ => rfl) ?_
          refine mm_E.s rfl rfl rfl (fun _ => rfl) ?_
          refine mm_E.iv rfl rfl rfl rfl hx rfl (z_cx1 hE) ?_
          refine mm_E.s rfl rfl rfl (fun _ => rfl) ?_
          refine mm_E.s rfl rfl rfl (fun _ => rfl) ?_
          refine mm_E.s rfl rfl rfl (fun _ => rfl) ?_
          refine mm_E.s rfl rfl rfl (fun _ => rfl) ?_
          refine mm_E.ic rfl rfl rfl rfl rfl (z_isD1 k0 k4) ?_
          refine mm_E.s rfl rfl rfl (fun _ => rfl) ?_
          refine mm_E.s rfl rfl rfl (fun _ => rfl) ?_
          refine mm_E.s rfl rfl rfl (fun _ => if_pos hi) ?_
          refine mm_E.s rfl rfl rfl (fun _ => rfl) ?_
          refine mm_E.s rfl rfl rfl (fun _ => rfl) ?_
          refine mm_E.s rfl rfl rfl (fun _ => rfl) ?_
          refine mm_E.s rfl rfl rfl (fun _ => rfl) ?_
          refine mm_E.s rfl rfl rfl (fun _ => rfl) ?_
          refine mm_E.iv rfl rfl rfl rfl hx rfl E1 ?_
          refine mm_E.s rfl rfl rfl (fun _ => rfl) ?_
          refine mm_E.gf rfl rfl rfl hx' hx14' ?_
          refine mm_E.iv rfl rfl rfl rfl hg1 rfl E2 ?_
          refine mm_E.s rfl rfl rfl (fun _ => rfl) ?_
          refine mm_E.s rfl rfl rfl (fun _ => rfl) ?_
          refine mm_E.s rfl rfl rfl (fun _ => rfl) ?_
          refine mm_E.s rfl rfl rfl (fun _ => rfl) ?_
          refine mm_E.s rfl rfl rfl (fun _ => rfl) ?_
          refine mm_E.s rfl rfl rfl (fun _ => rfl) ?_
          refine mm_E.s rfl rfl rfl (fun _ => rfl) ?_
          refine mm_E.s rfl rfl rfl (fun _ => rfl) ?_
          refine mm_E.s rfl rfl rfl (fun _ => rfl) ?_
          refine mm_E.s rfl rfl rfl (fun _ => rfl) ?_
          refine mm_E.s rfl rfl rfl (fun _ => if_pos hi) ?_
          refine mm_E.s rfl rfl rfl (fun _ => rfl) ?_
          exact mm_E.ret rfl rfl rfl
      · rw [if_neg (fun q => hi q.2.2.2)]
        refine ⟨h, ⟨kq_41, rfl, rfl, ?_⟩, x_e0_em hE⟩
        rcases hc with rfl | rfl
        · skip
          refine mm_E.s rfl rfl rfl (fun _ => rfl) ?_
          refine mm_E.s rfl rfl rfl (fun _ => rfl) ?_
          refine mm_E.iv rfl rfl rfl rfl hx rfl (z_cx0 hE) ?_
          refine mm_E.s rfl rfl rfl (fun _ => rfl) ?_
          refine mm_E.s rfl rfl rfl (fun _ => rfl) ?_
          refine mm_E.s rfl rfl rfl (fun _ => rfl) ?_
          refine mm_E.s rfl rfl rfl (fun _ => rfl) ?_
          refine mm_E.ic rfl rfl rfl rfl rfl (z_isD1 k0 k4) ?_
          refine mm_E.s rfl rfl rfl (fun _ => rfl) ?_
          refine mm_E.s rfl rfl rfl (fun _ => rfl) ?_
          refine mm_E.s rfl rfl rfl (fun _ => if_neg hi) ?_
          refine mm_E.s rfl rfl rfl (fun _ => rfl) ?_
          exact mm_E.ret rfl rfl rfl
        · skip
          refine mm_E.s rfl rfl rfl (fun _ => rfl) ?_
          refine mm_E.s rfl rfl rfl (fun _ => rfl) ?_
          refine mm_E.iv rfl rfl rfl rfl hx rfl (z_cx1 hE) ?_
          refine mm_E.s rfl rfl rfl (fun _ => rfl) ?_
          refine mm_E.s rfl rfl rfl (fun _ => rfl) ?_
          refine mm_E.s rfl rfl rfl (fun _ => rfl) ?_
          refine mm_E.s rfl rfl rfl (fun _ => rfl) ?_
          refine mm_E.ic rfl rfl rfl rfl rfl (z_isD1 k0 k4) ?_
          refine mm_E.s rfl rfl rfl (fun _ => rfl) ?_
          refine mm_E.s rfl rfl rfl (fun _ => rfl) ?_
          refine mm_E.s rfl rfl rfl (fun _ => if_neg hi) ?_
          refine mm_E.s rfl rfl rfl (fun _ => rfl) ?_
          exact mm_E.ret rfl rfl rfl
  · rw [if_neg (fun q => hc q.1)]
    refine ⟨h, ⟨kq_41, rfl, rfl, ?_⟩, x_e0_em hE⟩
    refine mm_E.s rfl rfl rfl (fun _ => rfl) ?_
    refine mm_E.s rfl rfl rfl (fun _ => rfl) ?_
    refine mm_E.iv rfl rfl rfl rfl hx rfl (z_cxN hE hc) ?_
    refine mm_E.s rfl rfl rfl (fun _ => rfl) ?_
    refine mm_E.s rfl rfl rfl (fun _ => rfl) ?_
    refine mm_E.s rfl rfl rfl (fun _ => rfl) ?_
    refine mm_E.s rfl rfl rfl (fun _ => rfl) ?_
    exact mm_E.ret rfl rfl rfl

theorem z_order {h : mm_H} {ro co : Int32} {mi : Int64} {ki : Int32} (hE : x_e0 h ro co mi ki) (c k : Int32) : ∃ h', mm_EC kM 46 [.ref 0, .int c, .int k] h (some (.int (if (c = 0 ∨ c = 1) ∧ ¬ k < 0 ∧ ¬ 3 < k then 1 else -1)), h') ∧ x_em h' 0 0 0 := by
  obtain ⟨fx, hx, hx1, hx7, hx14, hx21⟩ := z_x0 hE
  obtain ⟨fa, hca⟩ := z_c1 hE
  obtain ⟨fb, hcb⟩ := z_c7 hE
  obtain ⟨fg, hg⟩ := z_g14 hE
  by_cases hc : c = 0 ∨ c = 1
  · by_cases hk : k < 0 ∨ 3 < k
    · rw [if_neg (fun q => hk.elim q.2.1 q.2.2)]
      refine ⟨h, ⟨kq_46, rfl, rfl, ?_⟩, x_e0_em hE⟩
      rcases hc with rfl | rfl
      · skip
        refine mm_E.s rfl rfl rfl (fun _ => rfl) ?_
        refine mm_E.s rfl rfl rfl (fun _ => rfl) ?_
        refine mm_E.iv rfl rfl rfl rfl hx rfl (z_cx0 hE) ?_
        refine mm_E.s rfl rfl rfl (fun _ => rfl) ?_
        refine mm_E.s rfl rfl rfl (fun _ => rfl) ?_
        refine mm_E.s rfl rfl rfl (fun _ => rfl) ?_
        refine mm_E.s rfl rfl rfl (fun _ => rfl) ?_
        refine mm_E.ic rfl rfl rfl rfl rfl (z_isD0 (x_k4.mp hk)) ?_
        refine mm_E.s rfl rfl rfl (fun _ => rfl) ?_
        refine mm_E.s rfl rfl rfl (fun _ => rfl) ?_
        exact mm_E.ret rfl rfl rfl
      · skip
        refine mm_E.s rfl rfl rfl (fun _ => rfl) ?_
        refine mm_E.s rfl rfl rfl (fun _ => rfl) ?_
        refine mm_E.iv rfl rfl rfl rfl hx rfl (z_cx1 hE) ?_
        refine mm_E.s rfl rfl rfl (fun _ => rfl) ?_
        refine mm_E.s rfl rfl rfl (fun _ => rfl) ?_
        refine mm_E.s rfl rfl rfl (fun _ => rfl) ?_
        refine mm_E.s rfl rfl rfl (fun _ => rfl) ?_
        refine mm_E.ic rfl rfl rfl rfl rfl (z_isD0 (x_k4.mp hk)) ?_
        refine mm_E.s rfl rfl rfl (fun _ => rfl) ?_
        refine mm_E.s rfl rfl rfl (fun _ => rfl) ?_
        exact mm_E.ret rfl rfl rfl
    · have k0 : ¬ k < 0 := fun q => hk (Or.inl q)
      have k3 : ¬ 3 < k := fun q => hk (Or.inr q)
      have k4 : ¬ 4 ≤ k := fun q => k3 (x_43 q)
      rw [if_pos ⟨hc, k0, k3⟩]
      obtain ⟨h1, E1, hE1⟩ := z_shape hE 1
      obtain ⟨fx', hx', hx1', hx7', hx14', hx21'⟩ := z_x0 hE1
      obtain ⟨fa1, hca1⟩ := z_c1 hE1
      obtain ⟨fb1, hcb1⟩ := z_c7 hE1
      obtain ⟨fg1, hg1⟩ := z_g14 hE1
      obtain ⟨h2, E2, hE2⟩ := z_last hE1
      refine ⟨h2, ⟨kq_46, rfl, rfl, ?_⟩, x_e0_em hE2⟩
      rcases hc with rfl | rfl
      · skip
        refine mm_E.s rfl rfl rfl (fun _ => rfl) ?_
        refine mm_E.s rfl rfl rfl (fun _ => rfl) ?_
        refine mm_E.iv rfl rfl rfl rfl hx rfl (z_cx0 hE) ?_
        refine mm_E.s rfl rfl rfl (fun _ => rfl) ?_
        refine mm_E.s rfl rfl rfl (fun _ => rfl) ?_
        refine mm_E.s rfl rfl rfl (fun _ => rfl) ?_
        refine mm_E.s rfl rfl rfl (fun _ => rfl) ?_
        refine mm_E.ic rfl rfl rfl rfl rfl (z_isD1 k0 k4) ?_
        refine mm_E.s rfl rfl rfl (fun _ => rfl) ?_
        refine mm_E.s rfl rfl rfl (fun _ => rfl) ?_
        refine mm_E.s rfl rfl rfl (fun _ => rfl) ?_
        refine mm_E.iv rfl rfl rfl rfl hca rfl (z_cyc0 hE k) ?_
        refine mm_E.s rfl rfl rfl (fun _ => rfl) ?_
        refine mm_E.s rfl rfl rfl (fun _ => rfl) ?_
        refine mm_E.s rfl rfl rfl (fun _ => rfl) ?_
        refine mm_E.s rfl rfl rfl (fun _ => rfl) ?_
        refine mm_E.s rfl rfl rfl (fun _ => rfl) ?_
        refine mm_E.iv rfl rfl rfl rfl hca rfl (z_size0 hE _) ?_
        refine mm_E.s rfl rfl rfl (fun _ => rfl) ?_
        refine mm_E.s rfl rfl rfl (fun _ => rfl) ?_
        refine mm_E.gf rfl rfl rfl hx hx14 ?_
        refine mm_E.s rfl rfl rfl (fun _ => rfl) ?_
        refine mm_E.s rfl rfl rfl (fun _ => rfl) ?_
        refine mm_E.iv rfl rfl rfl rfl hca rfl (z_size0 hE _) ?_
        refine mm_E.s rfl rfl rfl (fun _ => rfl) ?_
        refine mm_E.s rfl rfl rfl (fun _ => rfl) ?_
        refine mm_E.s rfl rfl rfl (fun _ => rfl) ?_
        refine mm_E.iv rfl rfl rfl rfl hg rfl E1 ?_
        refine mm_E.s rfl rfl rfl (fun _ => rfl) ?_
        refine mm_E.s rfl rfl rfl (fun _ => rfl) ?_
        refine mm_E.s rfl rfl rfl (fun _ => rfl) ?_
        refine mm_E.s rfl rfl rfl (fun _ => rfl) ?_
        refine mm_E.s rfl rfl rfl (fun _ => rfl) ?_
        refine mm_E.s rfl rfl rfl (fun _ => rfl) ?_
        refine mm_E.s rfl rfl rfl (fun _ => rfl) ?_
        refine mm_E.iv rfl rfl rfl rfl hx' rfl (z_wb0 hE1 _ _ _) ?_
        refine mm_E.s rfl rfl rfl (fun _ => rfl) ?_
        refine mm_E.s rfl rfl rfl (fun _ => rfl) ?_
        refine mm_E.s rfl rfl rfl (fun _ => rfl) ?_
        refine mm_E.s rfl rfl rfl (fun _ => rfl) ?_
        refine mm_E.s rfl rfl rfl (fun _ => rfl) ?_
        refine mm_E.iv rfl rfl rfl rfl hca1 rfl (z_size0 hE1 _) ?_
        refine mm_E.s rfl rfl rfl (fun _ => rfl) ?_
        refine mm_E.s rfl rfl rfl (fun _ => rfl) ?_
        refine mm_E.gf rfl rfl rfl hx' hx14' ?_
        refine mm_E.iv rfl rfl rfl rfl hg1 rfl E2 ?_
        exact mm_E.ret rfl rfl rfl
      · skip
        refine mm_E.s rfl rfl rfl (fun _ => rfl) ?_
        refine mm_E.s rfl rfl rfl (fun _ => rfl) ?_
        refine mm_E.iv rfl rfl rfl rfl hx rfl (z_cx1 hE) ?_
        refine mm_E.s rfl rfl rfl (fun _ => rfl) ?_
        refine mm_E.s rfl rfl rfl (fun _ => rfl) ?_
        refine mm_E.s rfl rfl rfl (fun _ => rfl) ?_
        refine mm_E.s rfl rfl rfl (fun _ => rfl) ?_
        refine mm_E.ic rfl rfl rfl rfl rfl (z_isD1 k0 k4) ?_
        refine mm_E.s rfl rfl rfl (fun _ => rfl) ?_
        refine mm_E.s rfl rfl rfl (fun _ => rfl) ?_
        refine mm_E.s rfl rfl rfl (fun _ => rfl) ?_
        refine mm_E.iv rfl rfl rfl rfl hcb rfl (z_cyc1 hE k) ?_
        refine mm_E.s rfl rfl rfl (fun _ => rfl) ?_
        refine mm_E.s rfl rfl rfl (fun _ => rfl) ?_
        refine mm_E.s rfl rfl rfl (fun _ => rfl) ?_
        refine mm_E.s rfl rfl rfl (fun _ => rfl) ?_
        refine mm_E.s rfl rfl rfl (fun _ => rfl) ?_
        refine mm_E.iv rfl rfl rfl rfl hcb rfl (z_size1 hE _) ?_
        refine mm_E.s rfl rfl rfl (fun _ => rfl) ?_
        refine mm_E.s rfl rfl rfl (fun _ => rfl) ?_
        refine mm_E.gf rfl rfl rfl hx hx14 ?_
        refine mm_E.s rfl rfl rfl (fun _ => rfl) ?_
        refine mm_E.s rfl rfl rfl (fun _ => rfl) ?_
        refine mm_E.iv rfl rfl rfl rfl hcb rfl (z_size1 hE _) ?_
        refine mm_E.s rfl rfl rfl (fun _ => rfl) ?_
        refine mm_E.s rfl rfl rfl (fun _ => rfl) ?_
        refine mm_E.s rfl rfl rfl (fun _ => rfl) ?_
        refine mm_E.iv rfl rfl rfl rfl hg rfl E1 ?_
        refine mm_E.s rfl rfl rfl (fun _ => rfl) ?_
        refine mm_E.s rfl rfl rfl (fun _ => rfl) ?_
        refine mm_E.s rfl rfl rfl (fun _ => rfl) ?_
        refine mm_E.s rfl rfl rfl (fun _ => rfl) ?_
        refine mm_E.s rfl rfl rfl (fun _ => rfl) ?_
        refine mm_E.s rfl rfl rfl (fun _ => rfl) ?_
        refine mm_E.s rfl rfl rfl (fun _ => rfl) ?_
        refine mm_E.iv rfl rfl rfl rfl hx' rfl (z_wb1 hE1 _ _ _) ?_
        refine mm_E.s rfl rfl rfl (fun _ => rfl) ?_
        refine mm_E.s rfl rfl rfl (fun _ => rfl) ?_
        refine mm_E.s rfl rfl rfl (fun _ => rfl) ?_
        refine mm_E.s rfl rfl rfl (fun _ => rfl) ?_
        refine mm_E.s rfl rfl rfl (fun _ => rfl) ?_
        refine mm_E.iv rfl rfl rfl rfl hcb1 rfl (z_size1 hE1 _) ?_
        refine mm_E.s rfl rfl rfl (fun _ => rfl) ?_
        refine mm_E.s rfl rfl rfl (fun _ => rfl) ?_
        refine mm_E.gf rfl rfl rfl hx' hx14' ?_
        refine mm_E.iv rfl rfl rfl rfl hg1 rfl E2 ?_
        exact mm_E.ret rfl rfl rfl
  · rw [if_neg (fun q => hc q.1)]
    refine ⟨h, ⟨kq_46, rfl, rfl, ?_⟩, x_e0_em hE⟩
    refine mm_E.s rfl rfl rfl (fun _ => rfl) ?_
    refine mm_E.s rfl rfl rfl (fun _ => rfl) ?_
    refine mm_E.iv rfl rfl rfl rfl hx rfl (z_cxN hE hc) ?_
    refine mm_E.s rfl rfl rfl (fun _ => rfl) ?_
    refine mm_E.s rfl rfl rfl (fun _ => rfl) ?_
    refine mm_E.s rfl rfl rfl (fun _ => rfl) ?_
    refine mm_E.s rfl rfl rfl (fun _ => rfl) ?_
    exact mm_E.ret rfl rfl rfl

theorem z_lm {h : mm_H} {ro co : Int32} {mi : Int64} {ki : Int32} (hE : x_e0 h ro co mi ki) (k : Int32) : ∃ h', mm_EC kM 61 [.ref 0, .int k] h (none, h') ∧ x_e0 h' 0 0 mi ki := by
  obtain ⟨fx, hx, hx1, hx7, hx14, hx21⟩ := z_x0 hE
  obtain ⟨fa, hca⟩ := z_c1 hE
  obtain ⟨fb, hcb⟩ := z_c7 hE
  obtain ⟨fg, hg⟩ := z_g14 hE
  obtain ⟨h1, E1, hE1⟩ := z_shape hE 0
  obtain ⟨fx', hx', hx1', hx7', hx14', hx21'⟩ := z_x0 hE1
  refine ⟨h1, ⟨kq_61, rfl, rfl, ?_⟩, hE1⟩
  refine mm_E.s rfl rfl rfl (fun _ => rfl) ?_
  refine mm_E.gf rfl rfl rfl hx hx1 ?_
  refine mm_E.s rfl rfl rfl (fun _ => rfl) ?_
  refine mm_E.s rfl rfl rfl (fun _ => rfl) ?_
  refine mm_E.s rfl rfl rfl (fun _ => rfl) ?_
  refine mm_E.iv rfl rfl rfl rfl hca rfl (z_size0 hE _) ?_
  refine mm_E.s rfl rfl rfl (fun _ => rfl) ?_
  refine mm_E.s rfl rfl rfl (fun _ => rfl) ?_
  refine mm_E.gf rfl rfl rfl hx hx1 ?_
  refine mm_E.s rfl rfl rfl (fun _ => rfl) ?_
  refine mm_E.iv rfl rfl rfl rfl hca rfl (z_size0 hE _) ?_
  refine mm_E.s rfl rfl rfl (fun _ => rfl) ?_
  refine mm_E.s rfl rfl rfl (fun _ => rfl) ?_
  refine mm_E.gf rfl rfl rfl hx hx14 ?_
  refine mm_E.s rfl rfl rfl (fun _ => rfl) ?_
  refine mm_E.s rfl rfl rfl (fun _ => rfl) ?_
  refine mm_E.gf rfl rfl rfl hx hx7 ?_
  refine mm_E.s rfl rfl rfl (fun _ => rfl) ?_
  refine mm_E.iv rfl rfl rfl rfl hcb rfl (z_size1 hE _) ?_
  refine mm_E.s rfl rfl rfl (fun _ => rfl) ?_
  refine mm_E.s rfl rfl rfl (fun _ => rfl) ?_
  refine mm_E.s rfl rfl rfl (fun _ => rfl) ?_
  refine mm_E.gf rfl rfl rfl hx hx7 ?_
  refine mm_E.s rfl rfl rfl (fun _ => rfl) ?_
  refine mm_E.s rfl rfl rfl (fun _ => rfl) ?_
  refine mm_E.s rfl rfl rfl (fun _ => rfl) ?_
  refine mm_E.iv rfl rfl rfl rfl hcb rfl (z_size1 hE _) ?_
  refine mm_E.s rfl rfl rfl (fun _ => rfl) ?_
  refine mm_E.iv rfl rfl rfl rfl hg rfl E1 ?_
  refine mm_E.s rfl rfl rfl (fun _ => rfl) ?_
  refine mm_E.s rfl rfl rfl (fun _ => rfl) ?_
  refine mm_E.gf rfl rfl rfl hx' hx1' ?_
  refine mm_E.s rfl rfl rfl (fun _ => rfl) ?_
  refine mm_E.s rfl rfl rfl (fun _ => rfl) ?_
  refine mm_E.s rfl rfl rfl (fun _ => rfl) ?_
  refine mm_E.iv rfl rfl rfl rfl hx' rfl (z_wb0 hE1 _ _ _) ?_
  refine mm_E.s rfl rfl rfl (fun _ => rfl) ?_
  refine mm_E.s rfl rfl rfl (fun _ => rfl) ?_
  refine mm_E.gf rfl rfl rfl hx' hx7' ?_
  refine mm_E.s rfl rfl rfl (fun _ => rfl) ?_
  refine mm_E.s rfl rfl rfl (fun _ => rfl) ?_
  refine mm_E.s rfl rfl rfl (fun _ => rfl) ?_
  refine mm_E.s rfl rfl rfl (fun _ => rfl) ?_
  refine mm_E.s rfl rfl rfl (fun _ => rfl) ?_
  refine mm_E.iv rfl rfl rfl rfl hx' rfl (z_wb1 hE1 _ _ _) ?_
  refine mm_E.s rfl rfl rfl (fun _ => rfl) ?_
  refine mm_E.s rfl rfl rfl (fun _ => rfl) ?_
  refine mm_E.s rfl rfl rfl (fun _ => rfl) ?_
  refine mm_E.s rfl rfl rfl (fun _ => rfl) ?_
  refine mm_E.s rfl rfl rfl (fun _ => rfl) ?_
  exact mm_E.ret rfl rfl rfl

theorem z_rank {h : mm_H} {ro co : Int32} {mi : Int64} {ki : Int32} (hE : x_e0 h ro co mi ki) (k : Int32) : ∃ h', mm_EC kM 50 [.ref 0, .int k] h (some (.int (if ¬ k < 0 ∧ ¬ 3 < k then 0 else -1)), h') ∧ x_em h' 0 0 0 := by
  obtain ⟨fx, hx, hx1, hx7, hx14, hx21⟩ := z_x0 hE
  obtain ⟨fa, hca⟩ := z_c1 hE
  obtain ⟨fb, hcb⟩ := z_c7 hE
  obtain ⟨fg, hg⟩ := z_g14 hE
  by_cases hk : k < 0 ∨ 3 < k
  · rw [if_neg (fun q => hk.elim q.1 q.2)]
    refine ⟨h, ⟨kq_50, rfl, rfl, ?_⟩, x_e0_em hE⟩
    refine mm_E.s rfl rfl rfl (fun _ => rfl) ?_
    refine mm_E.ic rfl rfl rfl rfl rfl (z_isD0 (x_k4.mp hk)) ?_
    refine mm_E.s rfl rfl rfl (fun _ => rfl) ?_
    refine mm_E.s rfl rfl rfl (fun _ => rfl) ?_
    exact mm_E.ret rfl rfl rfl
  · have k0 : ¬ k < 0 := fun q => hk (Or.inl q)
    have k3 : ¬ 3 < k := fun q => hk (Or.inr q)
    have k4 : ¬ 4 ≤ k := fun q => k3 (x_43 q)
    rw [if_pos ⟨k0, k3⟩]
    obtain ⟨h1, E1, hE1⟩ := z_lm hE k
    obtain ⟨fxa, hxa, hx1a, hx7a, hx14a, hx21a⟩ := z_x0 hE1
    obtain ⟨fg1, hg1⟩ := z_g14 hE1
    obtain ⟨h2, E2, hE2⟩ := z_el0 hE1 2147483647
    obtain ⟨fxb, hxb, hx1b, hx7b, hx14b, hx21b⟩ := z_x0 hE2
    obtain ⟨fg2, hg2⟩ := z_g14 hE2
    obtain ⟨h3, E3, hE3⟩ := z_el0 hE2 2147483629
    obtain ⟨fxc, hxc, hx1c, hx7c, hx14c, hx21c⟩ := z_x0 hE3
    obtain ⟨h4, E4, hE4⟩ := z_br0 hE3 k 2147483647
    obtain ⟨fxd, hxd, hx1d, hx7d, hx14d, hx21d⟩ := z_x0 hE4
    obtain ⟨h5, E5, hE5⟩ := z_br1 hE4 (k + 1) 2147483647
    refine ⟨h5, ⟨kq_50, rfl, rfl, ?_⟩, x_e0_em hE5⟩
    refine mm_E.s rfl rfl rfl (fun _ => rfl) ?_
    refine mm_E.ic rfl rfl rfl rfl rfl (z_isD1 k0 k4) ?_
    refine mm_E.s rfl rfl rfl (fun _ => rfl) ?_
    refine mm_E.s rfl rfl rfl (fun _ => rfl) ?_
    refine mm_E.iv rfl rfl rfl rfl hx rfl (z_simp hE) ?_
    refine mm_E.s rfl rfl rfl (fun _ => rfl) ?_
    refine mm_E.s rfl rfl rfl (fun _ => rfl) ?_
    refine mm_E.s rfl rfl rfl (fun _ => rfl) ?_
    refine mm_E.iv rfl rfl rfl rfl hx rfl E1 ?_
    refine mm_E.s rfl rfl rfl (fun _ => rfl) ?_
    refine mm_E.gf rfl rfl rfl hxa hx14a ?_
    refine mm_E.s rfl rfl rfl (fun _ => rfl) ?_
    refine mm_E.s rfl rfl rfl (fun _ => rfl) ?_
    refine mm_E.iv rfl rfl rfl rfl hg1 rfl E2 ?_
    refine mm_E.s rfl rfl rfl (fun _ => rfl) ?_
    refine mm_E.gf rfl rfl rfl hxb hx14b ?_
    refine mm_E.s rfl rfl rfl (fun _ => rfl) ?_
    refine mm_E.s rfl rfl rfl (fun _ => rfl) ?_
    refine mm_E.iv rfl rfl rfl rfl hg2 rfl E3 ?_
    refine mm_E.s rfl rfl rfl (fun _ => rfl) ?_
    refine mm_E.s rfl rfl rfl (fun _ => rfl) ?_
    refine mm_E.s rfl rfl rfl (fun _ => rfl) ?_
    refine mm_E.s rfl rfl rfl (fun _ => rfl) ?_
    refine mm_E.s rfl rfl rfl (fun _ => rfl) ?_
    refine mm_E.gf rfl rfl rfl hxc hx1c ?_
    refine mm_E.s rfl rfl rfl (fun _ => rfl) ?_
    refine mm_E.s rfl rfl rfl (fun _ => rfl) ?_
    refine mm_E.iv rfl rfl rfl rfl hxc rfl E4 ?_
    refine mm_E.s rfl rfl rfl (fun _ => rfl) ?_
    refine mm_E.s rfl rfl rfl (fun _ => rfl) ?_
    refine mm_E.s rfl rfl rfl (fun _ => rfl) ?_
    refine mm_E.gf rfl rfl rfl hxd hx7d ?_
    refine mm_E.s rfl rfl rfl (fun _ => rfl) ?_
    refine mm_E.s rfl rfl rfl (fun _ => rfl) ?_
    refine mm_E.s rfl rfl rfl (fun _ => rfl) ?_
    refine mm_E.s rfl rfl rfl (fun _ => rfl) ?_
    refine mm_E.iv rfl rfl rfl rfl hxd rfl E5 ?_
    refine mm_E.s rfl rfl rfl (fun _ => rfl) ?_
    exact mm_E.ret rfl rfl rfl

def x_fiL (f : Nat → Int64) (v : Int64) (i : Nat) : Nat → Int64 := fun j => if j < i then v else f j
theorem x_fiL_s (f : Nat → Int64) (v : Int64) (i : Nat) : vp_updL (x_fiL f v i) i v = x_fiL f v (i + 1) := x_pL_s (fun _ => v) f i
theorem x_fiL_0 (f : Nat → Int64) (v : Int64) : x_fiL f v 0 = f := x_pL_0 (fun _ => v) f
set_option maxRecDepth 100000 in
theorem x_fillL {h : mm_H} {a n : Nat} {v : Int64} {f : Nat → Int64} (hc : mm_nth h a = some (x_lg n f)) (hn : n < 2 ^ 31) : mm_EC kM 1 [.ref a, .long v] h (none, h.set a (x_lg n (x_fiL f v n))) := by
  have ha := mm_nth_lt hc
  refine ⟨kq_1, rfl, rfl, ?_⟩
  refine mm_E.hc (h.set a (x_lg n (x_fiL f v 0))) (by rw [x_fiL_0, x_same hc]) ?_
  refine mm_E.s rfl rfl rfl (fun _ => rfl) ?_
  refine mm_E.s rfl rfl rfl (fun _ => rfl) ?_
  refine mm_E.s rfl rfl rfl (fun _ => rfl) ?_
  refine mm_E.al rfl rfl (mm_nth_set ha) ?_
  refine mm_E.s rfl rfl rfl (fun _ => rfl) ?_
  refine mm_E.loop (fun t => [some (.ref a), some (.long v), none, some (.int (nI t)), some (.int (nI n))]) (fun t => h.set a (x_lg n (x_fiL f v t))) n ?_ ?_
  · skip
    refine mm_E.s rfl rfl rfl (fun _ => rfl) ?_
    refine mm_E.s rfl rfl rfl (fun _ => rfl) ?_
    refine mm_E.s rfl rfl rfl (fun _ => if_pos (nI_le (Nat.le_refl n) hn)) ?_
    exact mm_E.ret rfl rfl rfl
  · intro t ht ih
    rw [← nI_1, ← x_fiL_s] at ih
    refine mm_E.s rfl rfl rfl (fun _ => rfl) ?_
    refine mm_E.s rfl rfl rfl (fun _ => rfl) ?_
    refine mm_E.s rfl rfl rfl (fun _ => if_neg (nI_ge ht hn)) ?_
    refine mm_E.s rfl rfl rfl (fun _ => rfl) ?_
    refine mm_E.s rfl rfl rfl (fun _ => rfl) ?_
    refine mm_E.s rfl rfl rfl (fun _ => rfl) ?_
    refine mm_E.ls rfl rfl (mm_nth_set ha) (mm_bd ht hn) (mm_put_some _ _ _ (by simpa using ha)) ?_
    refine mm_E.s rfl rfl rfl (fun _ => rfl) ?_
    refine mm_E.s rfl rfl rfl (fun _ => rfl) ?_
    rw [List.set_set, mm_cl (by omega)]
    exact ih

theorem z_sdrop {h : mm_H} {ro co : Int32} {mi : Int64} {ki : Int32} (hE : x_e0 h ro co mi ki) : ∃ h', mm_EC kM 31 [.ref 21] h (none, h') ∧ x_e0 h' ro co mi ki := by
  obtain ⟨pl0, ke0, sz0, se0, gr0, pl1, ke1, sz1, se1, gr1, im, ce, wo, pv, fa, pm, pw, fr, ba, rw, mo, M, rfl, hs0, hs1, hp0, hp1, hM⟩ := hE
  refine ⟨([.inr (3, [.ref 1, .ref 7, .ref 13, .ref 14, .ref 21, .ref 23, .ref 24]), .inr (0, [.ref 2, .ref 3, .ref 4, .ref 5, .ref 6]), x_it 256 pl0, x_it 256 ke0, x_it 4 sz0, x_it 96 se0, x_it 4 gr0, .inr (0, [.ref 8, .ref 9, .ref 10, .ref 11, .ref 12]), x_it 256 pl1, x_it 256 ke1, x_it 4 sz1, x_it 96 se1, x_it 4 gr1, x_it 8 im, .inr (1, [.ref 15, .ref 16, .ref 17, .ref 18, .ref 19, .ref 20, .int ro, .int co, .int mo, .long mi, .int ki]), x_it 2304 ce, x_it 2304 wo, x_it 31 pv, x_it 48 fa, x_it 10 pm, x_it 10 pw, .inr (2, [.ref 22]), x_lg 24 (x_fiL rw 0 24), x_it 24 fr, x_it 24 ba] ++ M : mm_H), ⟨kq_31, rfl, rfl, ?_⟩, ⟨pl0, ke0, sz0, se0, gr0, pl1, ke1, sz1, se1, gr1, im, ce, wo, pv, fa, pm, pw, fr, ba, _, mo, M, rfl, hs0, hs1, hp0, hp1, hM⟩⟩
  refine mm_E.s rfl rfl rfl (fun _ => rfl) ?_
  refine mm_E.gf rfl rfl rfl rfl rfl ?_
  refine mm_E.s rfl rfl rfl (fun _ => rfl) ?_
  refine mm_E.ic rfl rfl rfl rfl rfl (x_fillL rfl (by decide)) ?_
  exact mm_E.ret rfl rfl rfl
theorem z_s21 {h : mm_H} {ro co : Int32} {mi : Int64} {ki : Int32} (hE : x_e0 h ro co mi ki) : ∃ fs, mm_nth h 21 = some (.inr (2, fs)) := by
  obtain ⟨pl0, ke0, sz0, se0, gr0, pl1, ke1, sz1, se1, gr1, im, ce, wo, pv, fa, pm, pw, fr, ba, rw, mo, M, rfl, hs0, hs1, hp0, hp1, hM⟩ := hE
  exact ⟨_, rfl⟩
theorem z_fc0 {h : mm_H} {ro co : Int32} {mi : Int64} {ki : Int32} (hE : x_e0 h ro co mi ki) : ∃ h', mm_EC kM 64 [.ref 0, .ref 1] h (some (.int 0), h') ∧ x_em h' 0 0 0 := by
  obtain ⟨fx, hx, hx1, hx7, hx14, hx21⟩ := z_x0 hE
  obtain ⟨fs, hs⟩ := z_s21 hE
  obtain ⟨h1, E1, hE1⟩ := z_sdrop hE
  obtain ⟨fa1, hca1⟩ := z_c1 hE1
  obtain ⟨fb1, hcb1⟩ := z_c7 hE1
  refine ⟨h1, ⟨kq_64, rfl, rfl, ?_⟩, x_e0_em hE1⟩
  refine mm_E.s rfl rfl rfl (fun _ => rfl) ?_
  refine mm_E.gf rfl rfl rfl hx hx21 ?_
  refine mm_E.iv rfl rfl rfl rfl hs rfl E1 ?_
  refine mm_E.s rfl rfl rfl (fun _ => rfl) ?_
  refine mm_E.s rfl rfl rfl (fun _ => rfl) ?_
  refine mm_E.s rfl rfl rfl (fun _ => rfl) ?_
  refine mm_E.s rfl rfl rfl (fun _ => rfl) ?_
  refine mm_E.s rfl rfl rfl (fun _ => rfl) ?_
  refine mm_E.s rfl rfl rfl (fun _ => rfl) ?_
  refine mm_E.s rfl rfl rfl (fun _ => rfl) ?_
  refine mm_E.iv rfl rfl rfl rfl hca1 rfl (z_size0 hE1 _) ?_
  refine mm_E.s rfl rfl rfl (fun _ => rfl) ?_
  refine mm_E.s rfl rfl rfl (fun _ => rfl) ?_
  exact mm_E.ret rfl rfl rfl

theorem z_fc1 {h : mm_H} {ro co : Int32} {mi : Int64} {ki : Int32} (hE : x_e0 h ro co mi ki) : ∃ h', mm_EC kM 64 [.ref 0, .ref 7] h (some (.int 0), h') ∧ x_em h' 0 0 0 := by
  obtain ⟨fx, hx, hx1, hx7, hx14, hx21⟩ := z_x0 hE
  obtain ⟨fs, hs⟩ := z_s21 hE
  obtain ⟨h1, E1, hE1⟩ := z_sdrop hE
  obtain ⟨fa1, hca1⟩ := z_c1 hE1
  obtain ⟨fb1, hcb1⟩ := z_c7 hE1
  refine ⟨h1, ⟨kq_64, rfl, rfl, ?_⟩, x_e0_em hE1⟩
  refine mm_E.s rfl rfl rfl (fun _ => rfl) ?_
  refine mm_E.gf rfl rfl rfl hx hx21 ?_
  refine mm_E.iv rfl rfl rfl rfl hs rfl E1 ?_
  refine mm_E.s rfl rfl rfl (fun _ => rfl) ?_
  refine mm_E.s rfl rfl rfl (fun _ => rfl) ?_
  refine mm_E.s rfl rfl rfl (fun _ => rfl) ?_
  refine mm_E.s rfl rfl rfl (fun _ => rfl) ?_
  refine mm_E.s rfl rfl rfl (fun _ => rfl) ?_
  refine mm_E.s rfl rfl rfl (fun _ => rfl) ?_
  refine mm_E.s rfl rfl rfl (fun _ => rfl) ?_
  refine mm_E.iv rfl rfl rfl rfl hcb1 rfl (z_size1 hE1 _) ?_
  refine mm_E.s rfl rfl rfl (fun _ => rfl) ?_
  refine mm_E.s rfl rfl rfl (fun _ => rfl) ?_
  exact mm_E.ret rfl rfl rfl

theorem z_prod {h : mm_H} {ro co : Int32} {mi : Int64} {ki : Int32} (hE : x_e0 h ro co mi ki) (c : Int32) : ∃ h', mm_EC kM 51 [.ref 0, .int c] h (some (.int (if c = 0 ∨ c = 1 then 0 else -1)), h') ∧ x_em h' 0 0 0 := by
  obtain ⟨fx, hx, hx1, hx7, hx14, hx21⟩ := z_x0 hE
  obtain ⟨fa, hca⟩ := z_c1 hE
  obtain ⟨fb, hcb⟩ := z_c7 hE
  obtain ⟨fg, hg⟩ := z_g14 hE
  by_cases hc : c = 0 ∨ c = 1
  · rw [if_pos hc]
    rcases hc with rfl | rfl
    · obtain ⟨h1, E1, hE1⟩ := z_fc0 hE
      refine ⟨h1, ⟨kq_51, rfl, rfl, ?_⟩, hE1⟩
      refine mm_E.s rfl rfl rfl (fun _ => rfl) ?_
      refine mm_E.s rfl rfl rfl (fun _ => rfl) ?_
      refine mm_E.iv rfl rfl rfl rfl hx rfl (z_cx0 hE) ?_
      refine mm_E.s rfl rfl rfl (fun _ => rfl) ?_
      refine mm_E.s rfl rfl rfl (fun _ => rfl) ?_
      refine mm_E.s rfl rfl rfl (fun _ => rfl) ?_
      refine mm_E.s rfl rfl rfl (fun _ => rfl) ?_
      refine mm_E.s rfl rfl rfl (fun _ => rfl) ?_
      refine mm_E.iv rfl rfl rfl rfl hx rfl E1 ?_
      refine mm_E.s rfl rfl rfl (fun _ => rfl) ?_
      refine mm_E.s rfl rfl rfl (fun _ => rfl) ?_
      refine mm_E.s rfl rfl rfl (fun _ => rfl) ?_
      refine mm_E.s rfl rfl rfl (fun _ => rfl) ?_
      refine mm_E.s rfl rfl rfl (fun _ => rfl) ?_
      refine mm_E.s rfl rfl rfl (fun _ => rfl) ?_
      refine mm_E.s rfl rfl rfl (fun _ => rfl) ?_
      refine mm_E.s rfl rfl rfl (fun _ => rfl) ?_
      refine mm_E.s rfl rfl rfl (fun _ => rfl) ?_
      exact mm_E.ret rfl rfl rfl
    · obtain ⟨h1, E1, hE1⟩ := z_fc1 hE
      refine ⟨h1, ⟨kq_51, rfl, rfl, ?_⟩, hE1⟩
      refine mm_E.s rfl rfl rfl (fun _ => rfl) ?_
      refine mm_E.s rfl rfl rfl (fun _ => rfl) ?_
      refine mm_E.iv rfl rfl rfl rfl hx rfl (z_cx1 hE) ?_
      refine mm_E.s rfl rfl rfl (fun _ => rfl) ?_
      refine mm_E.s rfl rfl rfl (fun _ => rfl) ?_
      refine mm_E.s rfl rfl rfl (fun _ => rfl) ?_
      refine mm_E.s rfl rfl rfl (fun _ => rfl) ?_
      refine mm_E.s rfl rfl rfl (fun _ => rfl) ?_
      refine mm_E.iv rfl rfl rfl rfl hx rfl E1 ?_
      refine mm_E.s rfl rfl rfl (fun _ => rfl) ?_
      refine mm_E.s rfl rfl rfl (fun _ => rfl) ?_
      refine mm_E.s rfl rfl rfl (fun _ => rfl) ?_
      refine mm_E.s rfl rfl rfl (fun _ => rfl) ?_
      refine mm_E.s rfl rfl rfl (fun _ => rfl) ?_
      refine mm_E.s rfl rfl rfl (fun _ => rfl) ?_
      refine mm_E.s rfl rfl rfl (fun _ => rfl) ?_
      refine mm_E.s rfl rfl rfl (fun _ => rfl) ?_
      refine mm_E.s rfl rfl rfl (fun _ => rfl) ?_
      exact mm_E.ret rfl rfl rfl
  · rw [if_neg hc]
    refine ⟨h, ⟨kq_51, rfl, rfl, ?_⟩, x_e0_em hE⟩
    refine mm_E.s rfl rfl rfl (fun _ => rfl) ?_
    refine mm_E.s rfl rfl rfl (fun _ => rfl) ?_
    refine mm_E.iv rfl rfl rfl rfl hx rfl (z_cxN hE hc) ?_
    refine mm_E.s rfl rfl rfl (fun _ => rfl) ?_
    refine mm_E.s rfl rfl rfl (fun _ => rfl) ?_
    refine mm_E.s rfl rfl rfl (fun _ => rfl) ?_
    refine mm_E.s rfl rfl rfl (fun _ => rfl) ?_
    exact mm_E.ret rfl rfl rfl
end
section
def x_sz8 (x : Int32) : Nat → Int32
  | 0 => 0
  | n + 1 => x_sz8 x n + ((x >>> (nI n &&& 31)) &&& 1)
abbrev x_A (s q : Nat) : Prop := (nI q &&& (nI s ^^^ (Int32.ofInt (-1)))) = 0
def x_cn (s k : Nat) : Nat → Int32
  | 0 => 0
  | t + 1 => if x_A s (t + 1) ∧ x_sz8 (nI (t + 1)) 8 = nI k + 1 then x_cn s k t + 1 else x_cn s k t
def x_mr (s : Nat) : Nat → Int32
  | 0 => 0
  | t + 1 => if x_A s (t + 1) then x_mr s t + 1 else x_mr s t
def x_sv (f : Nat → Int32) (s a : Nat) (v : Int32) (t : Nat) : Nat → Int32 := fun j => if a < j ∧ j ≤ a + t ∧ x_A s (j - a) then v else f j
theorem x_sv_0 (f : Nat → Int32) (s a : Nat) (v : Int32) : x_sv f s a v 0 = f := by
  funext j
  unfold x_sv
  rw [if_neg (fun q => by omega)]
theorem x_sv_y (f : Nat → Int32) (s a : Nat) (v : Int32) {t : Nat} (h : x_A s (t + 1)) : upd (x_sv f s a v t) (a + (t + 1)) v = x_sv f s a v (t + 1) := by
  funext j
  unfold upd x_sv
  by_cases h1 : j = a + (t + 1)
  · subst h1
    rw [if_pos rfl, if_pos ⟨by omega, by omega, by rw [show a + (t + 1) - a = t + 1 by omega]; exact h⟩]
  · rw [if_neg h1]
    by_cases h2 : a < j ∧ j ≤ a + t ∧ x_A s (j - a)
    · rw [if_pos h2, if_pos ⟨h2.1, by omega, h2.2.2⟩]
    · rw [if_neg h2, if_neg (fun q => h2 ⟨q.1, by omega, q.2.2⟩)]
theorem x_sv_n (f : Nat → Int32) (s a : Nat) (v : Int32) {t : Nat} (h : ¬ x_A s (t + 1)) : x_sv f s a v (t + 1) = x_sv f s a v t := by
  funext j
  unfold x_sv
  by_cases h1 : j = a + (t + 1)
  · subst h1
    rw [if_neg (fun q => h (by have z := q.2.2; rwa [show a + (t + 1) - a = t + 1 by omega] at z)), if_neg (fun q => by omega)]
  · by_cases h2 : a < j ∧ j ≤ a + t ∧ x_A s (j - a)
    · rw [if_pos h2, if_pos ⟨h2.1, by omega, h2.2.2⟩]
    · rw [if_neg h2, if_neg (fun q => h2 ⟨q.1, by omega, q.2.2⟩)]
theorem x_sv_at (f : Nat → Int32) (s a : Nat) (v : Int32) (t : Nat) : x_sv f s a v t (a + (t + 1)) = f (a + (t + 1)) := by
  unfold x_sv
  rw [if_neg (fun q => by omega)]
theorem x_size {h : mm_H} (x : Int32) : mm_EC kM 65 [.int x] h (some (.int (x_sz8 x 8)), h) := by
  refine ⟨kq_65, rfl, rfl, ?_⟩
  refine mm_E.s rfl rfl rfl (fun _ => rfl) ?_
  refine mm_E.s rfl rfl rfl (fun _ => rfl) ?_
  refine mm_E.s rfl rfl rfl (fun _ => rfl) ?_
  refine mm_E.s rfl rfl rfl (fun _ => rfl) ?_
  refine mm_E.loop (fun t => [some (.int x), some (.int (x_sz8 x t)), some (.int (nI t))]) (fun _ => h) 8 ?_ ?_
  · skip
    refine mm_E.s rfl rfl rfl (fun _ => rfl) ?_
    refine mm_E.s rfl rfl rfl (fun _ => rfl) ?_
    refine mm_E.s rfl rfl rfl (fun _ => rfl) ?_
    refine mm_E.s rfl rfl rfl (fun _ => rfl) ?_
    exact mm_E.ret rfl rfl rfl
  · intro t ht ih
    rw [← nI_1] at ih
    refine mm_E.s rfl rfl rfl (fun _ => rfl) ?_
    refine mm_E.s rfl rfl rfl (fun _ => rfl) ?_
    refine mm_E.s rfl rfl rfl (fun _ => if_neg (nI_ge (a := t) (b := 8) (by omega) (by decide))) ?_
    refine mm_E.s rfl rfl rfl (fun _ => rfl) ?_
    refine mm_E.s rfl rfl rfl (fun _ => rfl) ?_
    refine mm_E.s rfl rfl rfl (fun _ => rfl) ?_
    refine mm_E.s rfl rfl rfl (fun _ => rfl) ?_
    refine mm_E.s rfl rfl rfl (fun _ => rfl) ?_
    refine mm_E.s rfl rfl rfl (fun _ => rfl) ?_
    refine mm_E.s rfl rfl rfl (fun _ => rfl) ?_
    refine mm_E.s rfl rfl rfl (fun _ => rfl) ?_
    refine mm_E.s rfl rfl rfl (fun _ => rfl) ?_
    refine mm_E.s rfl rfl rfl (fun _ => rfl) ?_
    exact ih

theorem y_addA {h : mm_H} {ro co di tr : Int32} {has : Nat → Int32} (hO : mm_nth h 25 = some (x_mo ro co di tr)) (hH : mm_nth h 26 = some (x_ha has)) (hz : x_no has) {n s k : Nat} (hn : n < 2) (hs : s < 256) {res : Option Value × mm_H} (hk : mm_E kM none 72 47 [some (.ref 25), some (.int (nI n)), some (.int (nI s)), some (.int (nI k)), some (.int (x_cn s k s)), some (.int (nI (s + 1)))] [] h res) : mm_E kM none 72 47 [some (.ref 25), some (.int (nI n)), some (.int (nI s)), some (.int (nI k)), some (.int 0), some (.int 1)] [] h res := by
  refine mm_E.loop (fun t => [some (.ref 25), some (.int (nI n)), some (.int (nI s)), some (.int (nI k)), some (.int (x_cn s k t)), some (.int (nI (t + 1)))]) (fun _ => h) s hk ?_
  intro t ht ih
  rw [← nI_1] at ih
  by_cases hA : x_A s (t + 1)
  · by_cases hB : x_sz8 (nI (t + 1)) 8 = nI k + 1
    · rw [show x_cn s k (t + 1) = x_cn s k t + 1 from if_pos ⟨hA, hB⟩] at ih
      refine mm_E.s rfl rfl rfl (fun _ => rfl) ?_
      refine mm_E.s rfl rfl rfl (fun _ => rfl) ?_
      refine mm_E.s rfl rfl rfl (fun _ => if_neg (nI_nlt (a := s) (b := t + 1) (by omega) (by omega))) ?_
      refine mm_E.s rfl rfl rfl (fun _ => rfl) ?_
      refine mm_E.s rfl rfl rfl (fun _ => rfl) ?_
      refine mm_E.s rfl rfl rfl (fun _ => rfl) ?_
      refine mm_E.s rfl rfl rfl (fun _ => rfl) ?_
      refine mm_E.s rfl rfl rfl (fun _ => rfl) ?_
      refine mm_E.s rfl rfl rfl (fun _ => if_pos hA) ?_
      refine mm_E.s rfl rfl rfl (fun _ => rfl) ?_
      refine mm_E.ic rfl rfl rfl rfl rfl (x_size _) ?_
      refine mm_E.s rfl rfl rfl (fun _ => rfl) ?_
      refine mm_E.s rfl rfl rfl (fun _ => rfl) ?_
      refine mm_E.s rfl rfl rfl (fun _ => rfl) ?_
      refine mm_E.s rfl rfl rfl (fun _ => if_pos hB) ?_
      refine mm_E.s rfl rfl rfl (fun _ => rfl) ?_
      refine mm_E.gf rfl rfl rfl hO rfl ?_
      refine mm_E.s rfl rfl rfl (fun _ => rfl) ?_
      refine mm_E.s rfl rfl rfl (fun _ => rfl) ?_
      refine mm_E.s rfl rfl rfl (fun _ => rfl) ?_
      refine mm_E.s rfl rfl rfl (fun _ => rfl) ?_
      refine mm_E.s rfl rfl rfl (fun _ => rfl) ?_
      refine mm_E.ti _ (x_ix n (t + 1)) ?_
      refine mm_E.za rfl rfl hH (mm_bd (by omega) (by decide)) (v := 0) (by rw [mm_cl (by omega)]; exact hz _ (by omega)) ?_
      refine mm_E.s rfl rfl rfl (fun _ => rfl) ?_
      refine mm_E.s rfl rfl rfl (fun _ => rfl) ?_
      refine mm_E.s rfl rfl rfl (fun _ => rfl) ?_
      refine mm_E.s rfl rfl rfl (fun _ => rfl) ?_
      refine mm_E.s rfl rfl rfl (fun _ => rfl) ?_
      refine mm_E.s rfl rfl rfl (fun _ => rfl) ?_
      refine mm_E.s rfl rfl rfl (fun _ => rfl) ?_
      refine mm_E.s rfl rfl rfl (fun _ => rfl) ?_
      exact ih
    · rw [show x_cn s k (t + 1) = x_cn s k t from if_neg (fun q => hB q.2)] at ih
      refine mm_E.s rfl rfl rfl (fun _ => rfl) ?_
      refine mm_E.s rfl rfl rfl (fun _ => rfl) ?_
      refine mm_E.s rfl rfl rfl (fun _ => if_neg (nI_nlt (a := s) (b := t + 1) (by omega) (by omega))) ?_
      refine mm_E.s rfl rfl rfl (fun _ => rfl) ?_
      refine mm_E.s rfl rfl rfl (fun _ => rfl) ?_
      refine mm_E.s rfl rfl rfl (fun _ => rfl) ?_
      refine mm_E.s rfl rfl rfl (fun _ => rfl) ?_
      refine mm_E.s rfl rfl rfl (fun _ => rfl) ?_
      refine mm_E.s rfl rfl rfl (fun _ => if_pos hA) ?_
      refine mm_E.s rfl rfl rfl (fun _ => rfl) ?_
      refine mm_E.ic rfl rfl rfl rfl rfl (x_size _) ?_
      refine mm_E.s rfl rfl rfl (fun _ => rfl) ?_
      refine mm_E.s rfl rfl rfl (fun _ => rfl) ?_
      refine mm_E.s rfl rfl rfl (fun _ => rfl) ?_
      refine mm_E.s rfl rfl rfl (fun _ => if_neg hB) ?_
      refine mm_E.s rfl rfl rfl (fun _ => rfl) ?_
      refine mm_E.s rfl rfl rfl (fun _ => rfl) ?_
      refine mm_E.s rfl rfl rfl (fun _ => rfl) ?_
      refine mm_E.s rfl rfl rfl (fun _ => rfl) ?_
      exact ih
  · rw [show x_cn s k (t + 1) = x_cn s k t from if_neg (fun q => hA q.1)] at ih
    refine mm_E.s rfl rfl rfl (fun _ => rfl) ?_
    refine mm_E.s rfl rfl rfl (fun _ => rfl) ?_
    refine mm_E.s rfl rfl rfl (fun _ => if_neg (nI_nlt (a := s) (b := t + 1) (by omega) (by omega))) ?_
    refine mm_E.s rfl rfl rfl (fun _ => rfl) ?_
    refine mm_E.s rfl rfl rfl (fun _ => rfl) ?_
    refine mm_E.s rfl rfl rfl (fun _ => rfl) ?_
    refine mm_E.s rfl rfl rfl (fun _ => rfl) ?_
    refine mm_E.s rfl rfl rfl (fun _ => rfl) ?_
    refine mm_E.s rfl rfl rfl (fun _ => if_neg hA) ?_
    refine mm_E.s rfl rfl rfl (fun _ => rfl) ?_
    refine mm_E.s rfl rfl rfl (fun _ => rfl) ?_
    refine mm_E.s rfl rfl rfl (fun _ => rfl) ?_
    refine mm_E.s rfl rfl rfl (fun _ => rfl) ?_
    exact ih

theorem y_add {h : mm_H} {ro co di : Int32} (hE : x_em h ro co di) {n s : Nat} (hn : n < 2) (hs1 : 1 ≤ s) (hs : s < 256) (h4 : x_sz8 (nI s) 8 ≤ 4) (h24 : ∀ k, k < 4 → x_cn s k s ≤ 24) : ∃ h', mm_EC kM 72 [.ref 25, .int (nI n), .int (nI s)] h (some (.int (x_mr s s)), h') := by
  obtain ⟨tr, has, kept, f, cc, sp, e1, e2, e3, mat, work, dv, hO, hH, hz, h27, h28, h29, h30, h31, h32, h33, h34, h35, h36⟩ := hE
  have l26 := mm_nth_lt hH
  have l27 := mm_nth_lt h27
  have hc : nI n = 0 ∨ nI n = 1 := by
    rcases (show n = 0 ∨ n = 1 by omega) with rfl | rfl
    · exact Or.inl rfl
    · exact Or.inr rfl
  refine ⟨(h.set 26 (x_ha (x_sv has s (256 * n) 1 s))).set 27 (x_it 512 (x_sv kept s (256 * n) 0 s)), kq_72, rfl, rfl, ?_⟩
  refine mm_E.s rfl rfl rfl (fun _ => rfl) ?_
  refine mm_E.ic rfl rfl rfl rfl rfl (x_isC1 hc) ?_
  refine mm_E.s rfl rfl rfl (fun _ => rfl) ?_
  refine mm_E.s rfl rfl rfl (fun _ => rfl) ?_
  refine mm_E.s rfl rfl rfl (fun _ => rfl) ?_
  refine mm_E.s rfl rfl rfl (fun _ => if_neg (nI_nlt (a := s) (b := 1) (by omega) (by omega))) ?_
  refine mm_E.s rfl rfl rfl (fun _ => rfl) ?_
  refine mm_E.s rfl rfl rfl (fun _ => rfl) ?_
  refine mm_E.s rfl rfl rfl (fun _ => if_neg (nI_nlt (a := 255) (b := s) (by omega) (by decide))) ?_
  refine mm_E.s rfl rfl rfl (fun _ => rfl) ?_
  refine mm_E.ic rfl rfl rfl rfl rfl (x_size _) ?_
  refine mm_E.s rfl rfl rfl (fun _ => rfl) ?_
  refine mm_E.s rfl rfl rfl (fun _ => if_pos h4) ?_
  refine mm_E.s rfl rfl rfl (fun _ => rfl) ?_
  refine mm_E.s rfl rfl rfl (fun _ => rfl) ?_
  refine mm_E.loop (fun t => [some (.ref 25), some (.int (nI n)), some (.int (nI s)), some (.int (nI t)), (match t with
    | 0 => none
    | j + 1 => some (.int (x_cn s j s))), (match t with
    | 0 => none
    | _ + 1 => some (.int (nI (s + 1))))]) (fun _ => h) 4 ?_ ?_
  · refine mm_E.hc ((h.set 26 (x_ha (x_sv has s (256 * n) 1 0))).set 27 (x_it 512 (x_sv kept s (256 * n) 0 0))) (by rw [x_sv_0, x_sv_0, x_same hH, x_same h27]) ?_
    refine mm_E.s rfl rfl rfl (fun _ => rfl) ?_
    refine mm_E.s rfl rfl rfl (fun _ => rfl) ?_
    refine mm_E.s rfl rfl rfl (fun _ => rfl) ?_
    refine mm_E.s rfl rfl rfl (fun _ => rfl) ?_
    refine mm_E.s rfl rfl rfl (fun _ => rfl) ?_
    refine mm_E.s rfl rfl rfl (fun _ => rfl) ?_
    refine mm_E.s rfl rfl rfl (fun _ => rfl) ?_
    refine mm_E.loop (fun t => [some (.ref 25), some (.int (nI n)), some (.int (nI s)), some (.int (x_mr s t)), some (.int (nI (t + 1))), some (.int (nI (s + 1)))]) (fun t => (h.set 26 (x_ha (x_sv has s (256 * n) 1 t))).set 27 (x_it 512 (x_sv kept s (256 * n) 0 t))) s ?_ ?_
    · skip
      refine mm_E.s rfl rfl rfl (fun _ => rfl) ?_
      refine mm_E.s rfl rfl rfl (fun _ => rfl) ?_
      refine mm_E.s rfl rfl rfl (fun _ => if_pos (nI_lt (a := s) (b := s + 1) (by omega) (by omega))) ?_
      refine mm_E.s rfl rfl rfl (fun _ => rfl) ?_
      exact mm_E.ret rfl rfl rfl
    · intro t ht ih
      rw [← nI_1] at ih
      have hO2 : mm_nth ((h.set 26 (x_ha (x_sv has s (256 * n) 1 t))).set 27 (x_it 512 (x_sv kept s (256 * n) 0 t))) 25 = some (x_mo ro co di tr) := by rw [mm_nth_set_ne (by decide), mm_nth_set_ne (by decide)]; exact hO
      have hH2 : mm_nth ((h.set 26 (x_ha (x_sv has s (256 * n) 1 t))).set 27 (x_it 512 (x_sv kept s (256 * n) 0 t))) 26 = some (x_ha (x_sv has s (256 * n) 1 t)) := by rw [mm_nth_set_ne (by decide)]; exact mm_nth_set l26
      by_cases hA : x_A s (t + 1)
      · rw [show x_mr s (t + 1) = x_mr s t + 1 from if_pos hA, ← x_sv_y has s (256 * n) 1 hA, ← x_sv_y kept s (256 * n) 0 hA] at ih
        have hO3 : mm_nth (((h.set 26 (x_ha (x_sv has s (256 * n) 1 t))).set 27 (x_it 512 (x_sv kept s (256 * n) 0 t))).set 26 (x_ha (upd (x_sv has s (256 * n) 1 t) (256 * n + (t + 1)) 1))) 25 = some (x_mo ro co di tr) := by rw [mm_nth_set_ne (by decide)]; exact hO2
        have h27b : mm_nth (((h.set 26 (x_ha (x_sv has s (256 * n) 1 t))).set 27 (x_it 512 (x_sv kept s (256 * n) 0 t))).set 26 (x_ha (upd (x_sv has s (256 * n) 1 t) (256 * n + (t + 1)) 1))) 27 = some (x_it 512 (x_sv kept s (256 * n) 0 t)) := by rw [mm_nth_set_ne (by decide)]; exact mm_nth_set (by simpa using l27)
        refine mm_E.s rfl rfl rfl (fun _ => rfl) ?_
        refine mm_E.s rfl rfl rfl (fun _ => rfl) ?_
        refine mm_E.s rfl rfl rfl (fun _ => if_neg (nI_nlt (a := s) (b := t + 1) (by omega) (by omega))) ?_
        refine mm_E.s rfl rfl rfl (fun _ => rfl) ?_
        refine mm_E.s rfl rfl rfl (fun _ => rfl) ?_
        refine mm_E.s rfl rfl rfl (fun _ => rfl) ?_
        refine mm_E.s rfl rfl rfl (fun _ => rfl) ?_
        refine mm_E.s rfl rfl rfl (fun _ => rfl) ?_
        refine mm_E.s rfl rfl rfl (fun _ => if_pos hA) ?_
        refine mm_E.s rfl rfl rfl (fun _ => rfl) ?_
        refine mm_E.gf rfl rfl rfl hO2 rfl ?_
        refine mm_E.s rfl rfl rfl (fun _ => rfl) ?_
        refine mm_E.s rfl rfl rfl (fun _ => rfl) ?_
        refine mm_E.s rfl rfl rfl (fun _ => rfl) ?_
        refine mm_E.s rfl rfl rfl (fun _ => rfl) ?_
        refine mm_E.s rfl rfl rfl (fun _ => rfl) ?_
        refine mm_E.ti _ (x_ix n (t + 1)) ?_
        refine mm_E.za rfl rfl hH2 (mm_bd (by omega) (by decide)) (v := 0) (by rw [mm_cl (by omega), x_sv_at]; exact hz _ (by omega)) ?_
        refine mm_E.s rfl rfl rfl (fun _ => rfl) ?_
        refine mm_E.s rfl rfl rfl (fun _ => rfl) ?_
        refine mm_E.gf rfl rfl rfl hO2 rfl ?_
        refine mm_E.s rfl rfl rfl (fun _ => rfl) ?_
        refine mm_E.s rfl rfl rfl (fun _ => rfl) ?_
        refine mm_E.s rfl rfl rfl (fun _ => rfl) ?_
        refine mm_E.s rfl rfl rfl (fun _ => rfl) ?_
        refine mm_E.s rfl rfl rfl (fun _ => rfl) ?_
        refine mm_E.ti _ (x_ix n (t + 1)) ?_
        refine mm_E.s rfl rfl rfl (fun _ => rfl) ?_
        refine mm_E.zs rfl rfl hH2 (mm_bd (by omega) (by decide)) (mm_put_some _ _ _ (by simpa using l26)) ?_
        rw [mm_cl (by omega)]
        refine mm_E.s rfl rfl rfl (fun _ => rfl) ?_
        refine mm_E.gf rfl rfl rfl hO3 rfl ?_
        refine mm_E.s rfl rfl rfl (fun _ => rfl) ?_
        refine mm_E.s rfl rfl rfl (fun _ => rfl) ?_
        refine mm_E.s rfl rfl rfl (fun _ => rfl) ?_
        refine mm_E.s rfl rfl rfl (fun _ => rfl) ?_
        refine mm_E.s rfl rfl rfl (fun _ => rfl) ?_
        refine mm_E.ti _ (x_ix n (t + 1)) ?_
        refine mm_E.s rfl rfl rfl (fun _ => rfl) ?_
        refine mm_E.is rfl rfl h27b (mm_bd (by omega) (by decide)) (mm_put_some _ _ _ (by simpa using l27)) ?_
        rw [mm_cl (by omega)]
        refine mm_E.s rfl rfl rfl (fun _ => rfl) ?_
        refine mm_E.s rfl rfl rfl (fun _ => rfl) ?_
        refine mm_E.s rfl rfl rfl (fun _ => rfl) ?_
        refine mm_E.hc _ ?_ ih
        rw [List.set_comm _ _ (show (27 : Nat) ≠ 26 by decide), List.set_set, List.set_set]
        rfl
      · rw [show x_mr s (t + 1) = x_mr s t from if_neg hA, x_sv_n has s (256 * n) 1 hA, x_sv_n kept s (256 * n) 0 hA] at ih
        refine mm_E.s rfl rfl rfl (fun _ => rfl) ?_
        refine mm_E.s rfl rfl rfl (fun _ => rfl) ?_
        refine mm_E.s rfl rfl rfl (fun _ => if_neg (nI_nlt (a := s) (b := t + 1) (by omega) (by omega))) ?_
        refine mm_E.s rfl rfl rfl (fun _ => rfl) ?_
        refine mm_E.s rfl rfl rfl (fun _ => rfl) ?_
        refine mm_E.s rfl rfl rfl (fun _ => rfl) ?_
        refine mm_E.s rfl rfl rfl (fun _ => rfl) ?_
        refine mm_E.s rfl rfl rfl (fun _ => rfl) ?_
        refine mm_E.s rfl rfl rfl (fun _ => if_neg hA) ?_
        refine mm_E.s rfl rfl rfl (fun _ => rfl) ?_
        refine mm_E.s rfl rfl rfl (fun _ => rfl) ?_
        exact ih
  · intro t ht ih
    rw [← nI_1] at ih
    refine mm_E.s rfl rfl rfl (fun _ => rfl) ?_
    refine mm_E.s rfl rfl rfl (fun _ => rfl) ?_
    refine mm_E.s rfl rfl rfl (fun _ => if_neg (nI_ge (a := t) (b := 4) (by omega) (by decide))) ?_
    refine mm_E.s rfl rfl rfl (fun _ => rfl) ?_
    refine mm_E.s rfl rfl rfl (fun _ => rfl) ?_
    refine mm_E.s rfl rfl rfl (fun _ => rfl) ?_
    refine mm_E.iv rfl rfl rfl rfl hO rfl (x_many0 hO hH hz hn _) ?_
    refine mm_E.s rfl rfl rfl (fun _ => rfl) ?_
    refine mm_E.s rfl rfl rfl (fun _ => rfl) ?_
    refine mm_E.s rfl rfl rfl (fun _ => rfl) ?_
    refine y_addA hO hH hz hn hs ?_
    refine mm_E.s rfl rfl rfl (fun _ => rfl) ?_
    refine mm_E.s rfl rfl rfl (fun _ => rfl) ?_
    refine mm_E.s rfl rfl rfl (fun _ => if_pos (nI_lt (a := s) (b := s + 1) (by omega) (by omega))) ?_
    refine mm_E.s rfl rfl rfl (fun _ => rfl) ?_
    refine mm_E.s rfl rfl rfl (fun _ => rfl) ?_
    refine mm_E.s rfl rfl rfl (fun _ => if_pos (h24 t ht)) ?_
    refine mm_E.s rfl rfl rfl (fun _ => rfl) ?_
    refine mm_E.s rfl rfl rfl (fun _ => rfl) ?_
    exact ih

theorem y_addB {h : mm_H} {c s : Int32} (hb : ¬ ((c = 0 ∨ c = 1) ∧ ¬ s < 1 ∧ ¬ 255 < s ∧ x_sz8 s 8 ≤ 4)) : mm_EC kM 72 [.ref 25, .int c, .int s] h (some (.int (-1)), h) := by
  refine ⟨kq_72, rfl, rfl, ?_⟩
  by_cases hc : c = 0 ∨ c = 1
  · by_cases h1 : s < 1
    · skip
      refine mm_E.s rfl rfl rfl (fun _ => rfl) ?_
      refine mm_E.ic rfl rfl rfl rfl rfl (x_isC1 hc) ?_
      refine mm_E.s rfl rfl rfl (fun _ => rfl) ?_
      refine mm_E.s rfl rfl rfl (fun _ => rfl) ?_
      refine mm_E.s rfl rfl rfl (fun _ => rfl) ?_
      refine mm_E.s rfl rfl rfl (fun _ => if_pos h1) ?_
      refine mm_E.s rfl rfl rfl (fun _ => rfl) ?_
      exact mm_E.ret rfl rfl rfl
    · by_cases h2 : 255 < s
      · skip
        refine mm_E.s rfl rfl rfl (fun _ => rfl) ?_
        refine mm_E.ic rfl rfl rfl rfl rfl (x_isC1 hc) ?_
        refine mm_E.s rfl rfl rfl (fun _ => rfl) ?_
        refine mm_E.s rfl rfl rfl (fun _ => rfl) ?_
        refine mm_E.s rfl rfl rfl (fun _ => rfl) ?_
        refine mm_E.s rfl rfl rfl (fun _ => if_neg h1) ?_
        refine mm_E.s rfl rfl rfl (fun _ => rfl) ?_
        refine mm_E.s rfl rfl rfl (fun _ => rfl) ?_
        refine mm_E.s rfl rfl rfl (fun _ => if_pos h2) ?_
        refine mm_E.s rfl rfl rfl (fun _ => rfl) ?_
        exact mm_E.ret rfl rfl rfl
      · have h4 : ¬ x_sz8 s 8 ≤ 4 := fun q => hb ⟨hc, h1, h2, q⟩
        refine mm_E.s rfl rfl rfl (fun _ => rfl) ?_
        refine mm_E.ic rfl rfl rfl rfl rfl (x_isC1 hc) ?_
        refine mm_E.s rfl rfl rfl (fun _ => rfl) ?_
        refine mm_E.s rfl rfl rfl (fun _ => rfl) ?_
        refine mm_E.s rfl rfl rfl (fun _ => rfl) ?_
        refine mm_E.s rfl rfl rfl (fun _ => if_neg h1) ?_
        refine mm_E.s rfl rfl rfl (fun _ => rfl) ?_
        refine mm_E.s rfl rfl rfl (fun _ => rfl) ?_
        refine mm_E.s rfl rfl rfl (fun _ => if_neg h2) ?_
        refine mm_E.s rfl rfl rfl (fun _ => rfl) ?_
        refine mm_E.ic rfl rfl rfl rfl rfl (x_size _) ?_
        refine mm_E.s rfl rfl rfl (fun _ => rfl) ?_
        refine mm_E.s rfl rfl rfl (fun _ => if_neg h4) ?_
        refine mm_E.s rfl rfl rfl (fun _ => rfl) ?_
        exact mm_E.ret rfl rfl rfl
  · skip
    refine mm_E.s rfl rfl rfl (fun _ => rfl) ?_
    refine mm_E.ic rfl rfl rfl rfl rfl (x_isC0 hc) ?_
    refine mm_E.s rfl rfl rfl (fun _ => rfl) ?_
    refine mm_E.s rfl rfl rfl (fun _ => rfl) ?_
    exact mm_E.ret rfl rfl rfl

def x_cz (f : Nat → Int32) (a t : Nat) : Nat → Int32 := fun j => if a ≤ j ∧ j < a + t then 0 else f j
theorem x_cz_0 (f : Nat → Int32) (a : Nat) : x_cz f a 0 = f := by
  funext j
  unfold x_cz
  rw [if_neg (fun q => by omega)]
theorem x_cz_s (f : Nat → Int32) (a t : Nat) : upd (x_cz f a t) (a + t) 0 = x_cz f a (t + 1) := by
  funext j
  unfold upd x_cz
  by_cases h1 : j = a + t
  · subst h1
    rw [if_pos rfl, if_pos ⟨by omega, by omega⟩]
  · rw [if_neg h1]
    by_cases h2 : a ≤ j ∧ j < a + t
    · rw [if_pos h2, if_pos ⟨h2.1, by omega⟩]
    · rw [if_neg h2, if_neg (fun q => h2 ⟨q.1, by omega⟩)]
theorem y_clear {h : mm_H} {ro co di : Int32} (hE : x_em h ro co di) (c : Int32) : ∃ h', mm_EC kM 73 [.ref 25, .int c] h (some (.int (if c = 0 ∨ c = 1 then 1 else 0)), h') := by
  by_cases hc : c = 0 ∨ c = 1
  · rw [if_pos hc]
    obtain ⟨tr, has, kept, f, cc, sp, e1, e2, e3, mat, work, dv, hO, hH, hz, h27, h28, h29, h30, h31, h32, h33, h34, h35, h36⟩ := hE
    have l26 := mm_nth_lt hH
    have l27 := mm_nth_lt h27
    obtain ⟨n, hn, rfl⟩ := x_c01 hc
    refine ⟨(h.set 26 (x_ha (x_cz has (256 * n) 256))).set 27 (x_it 512 (x_cz kept (256 * n) 256)), kq_73, rfl, rfl, ?_⟩
    refine mm_E.hc ((h.set 26 (x_ha (x_cz has (256 * n) 0))).set 27 (x_it 512 (x_cz kept (256 * n) 0))) (by rw [x_cz_0, x_cz_0, x_same hH, x_same h27]) ?_
    refine mm_E.s rfl rfl rfl (fun _ => rfl) ?_
    refine mm_E.ic rfl rfl rfl rfl rfl (x_isC1 hc) ?_
    refine mm_E.s rfl rfl rfl (fun _ => rfl) ?_
    refine mm_E.s rfl rfl rfl (fun _ => rfl) ?_
    refine mm_E.s rfl rfl rfl (fun _ => rfl) ?_
    refine mm_E.loop (fun t => [some (.ref 25), some (.int (nI n)), some (.int (nI t))]) (fun t => (h.set 26 (x_ha (x_cz has (256 * n) t))).set 27 (x_it 512 (x_cz kept (256 * n) t))) 256 ?_ ?_
    · skip
      refine mm_E.s rfl rfl rfl (fun _ => rfl) ?_
      refine mm_E.s rfl rfl rfl (fun _ => rfl) ?_
      refine mm_E.s rfl rfl rfl (fun _ => rfl) ?_
      refine mm_E.s rfl rfl rfl (fun _ => rfl) ?_
      exact mm_E.ret rfl rfl rfl
    · intro t ht ih
      rw [← nI_1, ← x_cz_s, ← x_cz_s] at ih
      have hO2 : mm_nth ((h.set 26 (x_ha (x_cz has (256 * n) t))).set 27 (x_it 512 (x_cz kept (256 * n) t))) 25 = some (x_mo ro co di tr) := by rw [mm_nth_set_ne (by decide), mm_nth_set_ne (by decide)]; exact hO
      have hH2 : mm_nth ((h.set 26 (x_ha (x_cz has (256 * n) t))).set 27 (x_it 512 (x_cz kept (256 * n) t))) 26 = some (x_ha (x_cz has (256 * n) t)) := by rw [mm_nth_set_ne (by decide)]; exact mm_nth_set l26
      have hO3 : mm_nth (((h.set 26 (x_ha (x_cz has (256 * n) t))).set 27 (x_it 512 (x_cz kept (256 * n) t))).set 26 (x_ha (upd (x_cz has (256 * n) t) (256 * n + t) 0))) 25 = some (x_mo ro co di tr) := by rw [mm_nth_set_ne (by decide)]; exact hO2
      have h27b : mm_nth (((h.set 26 (x_ha (x_cz has (256 * n) t))).set 27 (x_it 512 (x_cz kept (256 * n) t))).set 26 (x_ha (upd (x_cz has (256 * n) t) (256 * n + t) 0))) 27 = some (x_it 512 (x_cz kept (256 * n) t)) := by rw [mm_nth_set_ne (by decide)]; exact mm_nth_set (by simpa using l27)
      refine mm_E.s rfl rfl rfl (fun _ => rfl) ?_
      refine mm_E.s rfl rfl rfl (fun _ => rfl) ?_
      refine mm_E.s rfl rfl rfl (fun _ => if_neg (nI_ge (a := t) (b := 256) (by omega) (by decide))) ?_
      refine mm_E.s rfl rfl rfl (fun _ => rfl) ?_
      refine mm_E.gf rfl rfl rfl hO2 rfl ?_
      refine mm_E.s rfl rfl rfl (fun _ => rfl) ?_
      refine mm_E.s rfl rfl rfl (fun _ => rfl) ?_
      refine mm_E.s rfl rfl rfl (fun _ => rfl) ?_
      refine mm_E.s rfl rfl rfl (fun _ => rfl) ?_
      refine mm_E.s rfl rfl rfl (fun _ => rfl) ?_
      refine mm_E.ti _ (x_ix n t) ?_
      refine mm_E.s rfl rfl rfl (fun _ => rfl) ?_
      refine mm_E.zs rfl rfl hH2 (mm_bd (by omega) (by decide)) (mm_put_some _ _ _ (by simpa using l26)) ?_
      rw [mm_cl (by omega)]
      refine mm_E.s rfl rfl rfl (fun _ => rfl) ?_
      refine mm_E.gf rfl rfl rfl hO3 rfl ?_
      refine mm_E.s rfl rfl rfl (fun _ => rfl) ?_
      refine mm_E.s rfl rfl rfl (fun _ => rfl) ?_
      refine mm_E.s rfl rfl rfl (fun _ => rfl) ?_
      refine mm_E.s rfl rfl rfl (fun _ => rfl) ?_
      refine mm_E.s rfl rfl rfl (fun _ => rfl) ?_
      refine mm_E.ti _ (x_ix n t) ?_
      refine mm_E.s rfl rfl rfl (fun _ => rfl) ?_
      refine mm_E.is rfl rfl h27b (mm_bd (by omega) (by decide)) (mm_put_some _ _ _ (by simpa using l27)) ?_
      rw [mm_cl (by omega)]
      refine mm_E.s rfl rfl rfl (fun _ => rfl) ?_
      refine mm_E.s rfl rfl rfl (fun _ => rfl) ?_
      refine mm_E.hc _ ?_ ih
      rw [List.set_comm _ _ (show (27 : Nat) ≠ 26 by decide), List.set_set, List.set_set]
      rfl
  · rw [if_neg hc]
    refine ⟨h, kq_73, rfl, rfl, ?_⟩
    refine mm_E.s rfl rfl rfl (fun _ => rfl) ?_
    refine mm_E.ic rfl rfl rfl rfl rfl (x_isC0 hc) ?_
    refine mm_E.s rfl rfl rfl (fun _ => rfl) ?_
    refine mm_E.s rfl rfl rfl (fun _ => rfl) ?_
    exact mm_E.ret rfl rfl rfl
end
section
def x_us (x : Int32) (k : Int32) : Int32 := (x.toUInt32 >>> (k.toUInt32 &&& Int32.toUInt32 31)).toInt32
def x_b1 (x : Int32) : Int32 := x - (x_us x (Int32.ofInt 1) &&& 1431655765)
def x_b2 (x : Int32) : Int32 := (x &&& 858993459) + (x_us x (Int32.ofInt 2) &&& 858993459)
def x_b3 (x : Int32) : Int32 := (x + x_us x (Int32.ofInt 4)) &&& 252645135
def x_b4 (x : Int32) : Int32 := x + x_us x (Int8.ofInt 8).toInt32
def x_b5 (x : Int32) : Int32 := x + x_us x (Int8.ofInt 16).toInt32
def x_bc (x : Int32) : Int32 := x_b5 (x_b4 (x_b3 (x_b2 (x_b1 x)))) &&& (Int8.ofInt 63).toInt32
theorem z_bc {h : mm_H} (x : Int32) : mm_EC kM 0 [.int x] h (some (.int (x_bc x)), h) := by
  refine ⟨kq_0, rfl, rfl, ?_⟩
  refine mm_E.s rfl rfl rfl (fun _ => rfl) ?_
  refine mm_E.s rfl rfl rfl (fun _ => rfl) ?_
  refine mm_E.s rfl rfl rfl (fun _ => rfl) ?_
  refine mm_E.s rfl rfl rfl (fun _ => rfl) ?_
  refine mm_E.s rfl rfl rfl (fun _ => rfl) ?_
  refine mm_E.s rfl rfl rfl (fun _ => rfl) ?_
  refine mm_E.s rfl rfl rfl (fun _ => rfl) ?_
  refine mm_E.s rfl rfl rfl (fun _ => rfl) ?_
  refine mm_E.lc [some (.int (x_b1 x))] rfl ?_
  generalize ex1 : x_b1 x = x1
  refine mm_E.s rfl rfl rfl (fun _ => rfl) ?_
  refine mm_E.s rfl rfl rfl (fun _ => rfl) ?_
  refine mm_E.s rfl rfl rfl (fun _ => rfl) ?_
  refine mm_E.s rfl rfl rfl (fun _ => rfl) ?_
  refine mm_E.s rfl rfl rfl (fun _ => rfl) ?_
  refine mm_E.s rfl rfl rfl (fun _ => rfl) ?_
  refine mm_E.s rfl rfl rfl (fun _ => rfl) ?_
  refine mm_E.s rfl rfl rfl (fun _ => rfl) ?_
  refine mm_E.s rfl rfl rfl (fun _ => rfl) ?_
  refine mm_E.s rfl rfl rfl (fun _ => rfl) ?_
  refine mm_E.lc [some (.int (x_b2 x1))] rfl ?_
  generalize ex2 : x_b2 x1 = x2
  refine mm_E.s rfl rfl rfl (fun _ => rfl) ?_
  refine mm_E.s rfl rfl rfl (fun _ => rfl) ?_
  refine mm_E.s rfl rfl rfl (fun _ => rfl) ?_
  refine mm_E.s rfl rfl rfl (fun _ => rfl) ?_
  refine mm_E.s rfl rfl rfl (fun _ => rfl) ?_
  refine mm_E.s rfl rfl rfl (fun _ => rfl) ?_
  refine mm_E.s rfl rfl rfl (fun _ => rfl) ?_
  refine mm_E.s rfl rfl rfl (fun _ => rfl) ?_
  refine mm_E.lc [some (.int (x_b3 x2))] rfl ?_
  generalize ex3 : x_b3 x2 = x3
  refine mm_E.s rfl rfl rfl (fun _ => rfl) ?_
  refine mm_E.s rfl rfl rfl (fun _ => rfl) ?_
  refine mm_E.s rfl rfl rfl (fun _ => rfl) ?_
  refine mm_E.s rfl rfl rfl (fun _ => rfl) ?_
  refine mm_E.s rfl rfl rfl (fun _ => rfl) ?_
  refine mm_E.s rfl rfl rfl (fun _ => rfl) ?_
  refine mm_E.lc [some (.int (x_b4 x3))] rfl ?_
  generalize ex4 : x_b4 x3 = x4
  refine mm_E.s rfl rfl rfl (fun _ => rfl) ?_
  refine mm_E.s rfl rfl rfl (fun _ => rfl) ?_
  refine mm_E.s rfl rfl rfl (fun _ => rfl) ?_
  refine mm_E.s rfl rfl rfl (fun _ => rfl) ?_
  refine mm_E.s rfl rfl rfl (fun _ => rfl) ?_
  refine mm_E.s rfl rfl rfl (fun _ => rfl) ?_
  refine mm_E.lc [some (.int (x_b5 x4))] rfl ?_
  rw [show x_bc x = x_b5 x4 &&& (Int8.ofInt 63).toInt32 by rw [← ex4, ← ex3, ← ex2, ← ex1]; rfl]
  refine mm_E.s rfl rfl rfl (fun _ => rfl) ?_
  refine mm_E.s rfl rfl rfl (fun _ => rfl) ?_
  refine mm_E.s rfl rfl rfl (fun _ => rfl) ?_
  exact mm_E.ret rfl rfl rfl

def x_dm (x : Int32) : Int32 := x_bc x - 1
theorem z_dm {h : mm_H} (x : Int32) : mm_EC kM 54 [.int x] h (some (.int (x_dm x)), h) := by
  refine ⟨kq_54, rfl, rfl, ?_⟩
  refine mm_E.s rfl rfl rfl (fun _ => rfl) ?_
  refine mm_E.ic rfl rfl rfl rfl rfl (z_bc x) ?_
  refine mm_E.s rfl rfl rfl (fun _ => rfl) ?_
  refine mm_E.s rfl rfl rfl (fun _ => rfl) ?_
  exact mm_E.ret rfl rfl rfl

/-- place, sizes, sets behind t sets -/
def x_na (pl sz se : Nat → Int32) : Nat → (Nat → Int32) × (Nat → Int32) × (Nat → Int32)
  | 0 => (pl, sz, se)
  | t + 1 => if pl (t + 1) = -1 then x_na pl sz se t else
    (upd (x_na pl sz se t).1 (t + 1) ((x_na pl sz se t).2.1 (x_dm (nI (t + 1))).toNatClampNeg),
      upd (x_na pl sz se t).2.1 (x_dm (nI (t + 1))).toNatClampNeg ((x_na pl sz se t).2.1 (x_dm (nI (t + 1))).toNatClampNeg + 1),
      upd (x_na pl sz se t).2.2 (x_dm (nI (t + 1)) * 24 + (x_na pl sz se t).2.1 (x_dm (nI (t + 1))).toNatClampNeg).toNatClampNeg (nI (t + 1)))
theorem x_na_pl (pl sz se : Nat → Int32) : ∀ (t j : Nat), t < j → (x_na pl sz se t).1 j = pl j
  | 0, j, h => rfl
  | t + 1, j, h => by
    unfold x_na
    split
    · exact x_na_pl pl sz se t j (by omega)
    · show upd _ (t + 1) _ j = _
      unfold upd
      rw [if_neg (by omega)]
      exact x_na_pl pl sz se t j (by omega)
/-- the places that it writes are there -/
def x_nb (pl sz se : Nat → Int32) : Prop := ∀ t, t < 255 → ¬ pl (t + 1) = -1 → (0 ≤ (x_dm (nI (t + 1))).toInt ∧ (x_dm (nI (t + 1))).toInt < 4) ∧ 0 ≤ (x_dm (nI (t + 1)) * 24 + (x_na pl sz se t).2.1 (x_dm (nI (t + 1))).toNatClampNeg).toInt ∧ (x_dm (nI (t + 1)) * 24 + (x_na pl sz se t).2.1 (x_dm (nI (t + 1))).toNatClampNeg).toInt < 96
/-- the dimension that was noted last -/
def x_lo (pl : Nat → Int32) : Nat → Option Value
  | 0 => none
  | t + 1 => if pl (t + 1) = -1 then x_lo pl t else some (.int (x_dm (nI (t + 1))))
set_option maxHeartbeats 4000000 in
theorem z_num0 {pl0 ke0 sz0 se0 gr0 pl1 ke1 sz1 se1 gr1 im ce wo pv fa pm pw fr ba : Nat → Int32} {rw : Nat → Int64} {ro co mo : Int32} {mi : Int64} {ki : Int32} {M : mm_H} (hb : x_nb pl0 (x_fill sz0 0 4) se0) : mm_EC kM 11 [.ref 1] ([.inr (3, [.ref 1, .ref 7, .ref 13, .ref 14, .ref 21, .ref 23, .ref 24]), .inr (0, [.ref 2, .ref 3, .ref 4, .ref 5, .ref 6]), x_it 256 pl0, x_it 256 ke0, x_it 4 sz0, x_it 96 se0, x_it 4 gr0, .inr (0, [.ref 8, .ref 9, .ref 10, .ref 11, .ref 12]), x_it 256 pl1, x_it 256 ke1, x_it 4 sz1, x_it 96 se1, x_it 4 gr1, x_it 8 im, .inr (1, [.ref 15, .ref 16, .ref 17, .ref 18, .ref 19, .ref 20, .int ro, .int co, .int mo, .long mi, .int ki]), x_it 2304 ce, x_it 2304 wo, x_it 31 pv, x_it 48 fa, x_it 10 pm, x_it 10 pw, .inr (2, [.ref 22]), x_lg 24 rw, x_it 24 fr, x_it 24 ba] ++ M : mm_H) (none, ([.inr (3, [.ref 1, .ref 7, .ref 13, .ref 14, .ref 21, .ref 23, .ref 24]), .inr (0, [.ref 2, .ref 3, .ref 4, .ref 5, .ref 6]), x_it 256 (x_na pl0 (x_fill sz0 0 4) se0 255).1, x_it 256 ke0, x_it 4 (x_na pl0 (x_fill sz0 0 4) se0 255).2.1, x_it 96 (x_na pl0 (x_fill sz0 0 4) se0 255).2.2, x_it 4 gr0, .inr (0, [.ref 8, .ref 9, .ref 10, .ref 11, .ref 12]), x_it 256 pl1, x_it 256 ke1, x_it 4 sz1, x_it 96 se1, x_it 4 gr1, x_it 8 im, .inr (1, [.ref 15, .ref 16, .ref 17, .ref 18, .ref 19, .ref 20, .int ro, .int co, .int mo, .long mi, .int ki]), x_it 2304 ce, x_it 2304 wo, x_it 31 pv, x_it 48 fa, x_it 10 pm, x_it 10 pw, .inr (2, [.ref 22]), x_lg 24 rw, x_it 24 fr, x_it 24 ba] ++ M : mm_H)) := by
  refine ⟨kq_11, rfl, rfl, ?_⟩
  refine mm_E.s rfl rfl rfl (fun _ => rfl) ?_
  refine mm_E.gf rfl rfl rfl rfl rfl ?_
  refine mm_E.s rfl rfl rfl (fun _ => rfl) ?_
  refine mm_E.ic rfl rfl rfl rfl rfl (x_fill_EC rfl (by decide)) ?_
  refine mm_E.hc ([.inr (3, [.ref 1, .ref 7, .ref 13, .ref 14, .ref 21, .ref 23, .ref 24]), .inr (0, [.ref 2, .ref 3, .ref 4, .ref 5, .ref 6]), x_it 256 (x_na pl0 (x_fill sz0 0 4) se0 0).1, x_it 256 ke0, x_it 4 (x_na pl0 (x_fill sz0 0 4) se0 0).2.1, x_it 96 (x_na pl0 (x_fill sz0 0 4) se0 0).2.2, x_it 4 gr0, .inr (0, [.ref 8, .ref 9, .ref 10, .ref 11, .ref 12]), x_it 256 pl1, x_it 256 ke1, x_it 4 sz1, x_it 96 se1, x_it 4 gr1, x_it 8 im, .inr (1, [.ref 15, .ref 16, .ref 17, .ref 18, .ref 19, .ref 20, .int ro, .int co, .int mo, .long mi, .int ki]), x_it 2304 ce, x_it 2304 wo, x_it 31 pv, x_it 48 fa, x_it 10 pm, x_it 10 pw, .inr (2, [.ref 22]), x_lg 24 rw, x_it 24 fr, x_it 24 ba] ++ M : mm_H) rfl ?_
  refine mm_E.s rfl rfl rfl (fun _ => rfl) ?_
  refine mm_E.s rfl rfl rfl (fun _ => rfl) ?_
  have hloop := mm_E.loop (G := kM) (scr := none) (k := 11) (pc := 10) (res := (none, ([.inr (3, [.ref 1, .ref 7, .ref 13, .ref 14, .ref 21, .ref 23, .ref 24]), .inr (0, [.ref 2, .ref 3, .ref 4, .ref 5, .ref 6]), x_it 256 (x_na pl0 (x_fill sz0 0 4) se0 255).1, x_it 256 ke0, x_it 4 (x_na pl0 (x_fill sz0 0 4) se0 255).2.1, x_it 96 (x_na pl0 (x_fill sz0 0 4) se0 255).2.2, x_it 4 gr0, .inr (0, [.ref 8, .ref 9, .ref 10, .ref 11, .ref 12]), x_it 256 pl1, x_it 256 ke1, x_it 4 sz1, x_it 96 se1, x_it 4 gr1, x_it 8 im, .inr (1, [.ref 15, .ref 16, .ref 17, .ref 18, .ref 19, .ref 20, .int ro, .int co, .int mo, .long mi, .int ki]), x_it 2304 ce, x_it 2304 wo, x_it 31 pv, x_it 48 fa, x_it 10 pm, x_it 10 pw, .inr (2, [.ref 22]), x_lg 24 rw, x_it 24 fr, x_it 24 ba] ++ M : mm_H))) (fun t => [some (.ref 1), some (.int (nI (t + 1))), x_lo pl0 t]) (fun t => ([.inr (3, [.ref 1, .ref 7, .ref 13, .ref 14, .ref 21, .ref 23, .ref 24]), .inr (0, [.ref 2, .ref 3, .ref 4, .ref 5, .ref 6]), x_it 256 (x_na pl0 (x_fill sz0 0 4) se0 t).1, x_it 256 ke0, x_it 4 (x_na pl0 (x_fill sz0 0 4) se0 t).2.1, x_it 96 (x_na pl0 (x_fill sz0 0 4) se0 t).2.2, x_it 4 gr0, .inr (0, [.ref 8, .ref 9, .ref 10, .ref 11, .ref 12]), x_it 256 pl1, x_it 256 ke1, x_it 4 sz1, x_it 96 se1, x_it 4 gr1, x_it 8 im, .inr (1, [.ref 15, .ref 16, .ref 17, .ref 18, .ref 19, .ref 20, .int ro, .int co, .int mo, .long mi, .int ki]), x_it 2304 ce, x_it 2304 wo, x_it 31 pv, x_it 48 fa, x_it 10 pm, x_it 10 pw, .inr (2, [.ref 22]), x_lg 24 rw, x_it 24 fr, x_it 24 ba] ++ M : mm_H)) 255 ?_ ?_
  · exact hloop
  · skip
    refine mm_E.s rfl rfl rfl (fun _ => rfl) ?_
    refine mm_E.s rfl rfl rfl (fun _ => rfl) ?_
    refine mm_E.s rfl rfl rfl (fun _ => rfl) ?_
    exact mm_E.ret rfl rfl rfl
  · intro t ht ih
    have e1 : (x_na pl0 (x_fill sz0 0 4) se0 t).1 (t + 1) = pl0 (t + 1) := x_na_pl _ _ _ t (t + 1) (by omega)
    rw [← nI_1] at ih
    by_cases hp : pl0 (t + 1) = -1
    · rw [show x_na pl0 (x_fill sz0 0 4) se0 (t + 1) = x_na pl0 (x_fill sz0 0 4) se0 t from if_pos hp, show x_lo pl0 (t + 1) = x_lo pl0 t from if_pos hp] at ih
      refine mm_E.s rfl rfl rfl (fun _ => rfl) ?_
      refine mm_E.s rfl rfl rfl (fun _ => rfl) ?_
      refine mm_E.s rfl rfl rfl (fun _ => if_neg (nI_ge (a := t + 1) (b := 256) (by omega) (by decide))) ?_
      refine mm_E.s rfl rfl rfl (fun _ => rfl) ?_
      refine mm_E.gf rfl rfl rfl rfl rfl ?_
      refine mm_E.s rfl rfl rfl (fun _ => rfl) ?_
      refine mm_E.ia rfl rfl rfl (mm_bd (by omega) (by decide)) (v := pl0 (t + 1)) (by rw [mm_cl (by omega)]; exact e1) ?_
      refine mm_E.s rfl rfl rfl (fun _ => rfl) ?_
      refine mm_E.s rfl rfl rfl (fun _ => if_pos hp) ?_
      refine mm_E.s rfl rfl rfl (fun _ => rfl) ?_
      refine mm_E.s rfl rfl rfl (fun _ => rfl) ?_
      exact ih
    · rw [show x_na pl0 (x_fill sz0 0 4) se0 (t + 1) = _ from if_neg hp, show x_lo pl0 (t + 1) = some (.int (x_dm (nI (t + 1)))) from if_neg hp] at ih
      obtain ⟨hd, hi0, hi1⟩ := hb t ht hp
      generalize hdm : x_dm (nI (t + 1)) = d at hd hi0 hi1 ih
      refine mm_E.s rfl rfl rfl (fun _ => rfl) ?_
      refine mm_E.s rfl rfl rfl (fun _ => rfl) ?_
      refine mm_E.s rfl rfl rfl (fun _ => if_neg (nI_ge (a := t + 1) (b := 256) (by omega) (by decide))) ?_
      refine mm_E.s rfl rfl rfl (fun _ => rfl) ?_
      refine mm_E.gf rfl rfl rfl rfl rfl ?_
      refine mm_E.s rfl rfl rfl (fun _ => rfl) ?_
      refine mm_E.ia rfl rfl rfl (mm_bd (by omega) (by decide)) (v := pl0 (t + 1)) (by rw [mm_cl (by omega)]; exact e1) ?_
      refine mm_E.s rfl rfl rfl (fun _ => rfl) ?_
      refine mm_E.s rfl rfl rfl (fun _ => if_neg hp) ?_
      refine mm_E.s rfl rfl rfl (fun _ => rfl) ?_
      refine mm_E.ic rfl rfl rfl rfl rfl (z_dm _) ?_
      refine mm_E.ti d hdm ?_
      refine mm_E.s rfl rfl rfl (fun _ => rfl) ?_
      refine mm_E.s rfl rfl rfl (fun _ => rfl) ?_
      refine mm_E.gf rfl rfl rfl rfl rfl ?_
      refine mm_E.s rfl rfl rfl (fun _ => rfl) ?_
      refine mm_E.s rfl rfl rfl (fun _ => rfl) ?_
      refine mm_E.gf rfl rfl rfl rfl rfl ?_
      refine mm_E.s rfl rfl rfl (fun _ => rfl) ?_
      refine mm_E.ia rfl rfl rfl hd rfl ?_
      refine mm_E.is rfl rfl rfl (mm_bd (by omega) (by decide)) rfl ?_
      refine mm_E.s rfl rfl rfl (fun _ => rfl) ?_
      refine mm_E.gf rfl rfl rfl rfl rfl ?_
      refine mm_E.s rfl rfl rfl (fun _ => rfl) ?_
      refine mm_E.s rfl rfl rfl (fun _ => rfl) ?_
      refine mm_E.s rfl rfl rfl (fun _ => rfl) ?_
      refine mm_E.s rfl rfl rfl (fun _ => rfl) ?_
      refine mm_E.gf rfl rfl rfl rfl rfl ?_
      refine mm_E.s rfl rfl rfl (fun _ => rfl) ?_
      refine mm_E.ia rfl rfl rfl hd rfl ?_
      refine mm_E.s rfl rfl rfl (fun _ => rfl) ?_
      refine mm_E.s rfl rfl rfl (fun _ => rfl) ?_
      refine mm_E.is rfl rfl rfl ⟨hi0, hi1⟩ rfl ?_
      refine mm_E.s rfl rfl rfl (fun _ => rfl) ?_
      refine mm_E.gf rfl rfl rfl rfl rfl ?_
      refine mm_E.s rfl rfl rfl (fun _ => rfl) ?_
      refine mm_E.s rfl rfl rfl (fun _ => rfl) ?_
      refine mm_E.ia rfl rfl rfl hd rfl ?_
      refine mm_E.s rfl rfl rfl (fun _ => rfl) ?_
      refine mm_E.s rfl rfl rfl (fun _ => rfl) ?_
      refine mm_E.is rfl rfl rfl hd rfl ?_
      refine mm_E.s rfl rfl rfl (fun _ => rfl) ?_
      refine mm_E.s rfl rfl rfl (fun _ => rfl) ?_
      refine mm_E.hc _ ?_ ih
      rw [mm_cl (by omega)]
      rfl
set_option maxHeartbeats 4000000 in
theorem z_num1 {pl0 ke0 sz0 se0 gr0 pl1 ke1 sz1 se1 gr1 im ce wo pv fa pm pw fr ba : Nat → Int32} {rw : Nat → Int64} {ro co mo : Int32} {mi : Int64} {ki : Int32} {M : mm_H} (hb : x_nb pl1 (x_fill sz1 0 4) se1) : mm_EC kM 11 [.ref 7] ([.inr (3, [.ref 1, .ref 7, .ref 13, .ref 14, .ref 21, .ref 23, .ref 24]), .inr (0, [.ref 2, .ref 3, .ref 4, .ref 5, .ref 6]), x_it 256 pl0, x_it 256 ke0, x_it 4 sz0, x_it 96 se0, x_it 4 gr0, .inr (0, [.ref 8, .ref 9, .ref 10, .ref 11, .ref 12]), x_it 256 pl1, x_it 256 ke1, x_it 4 sz1, x_it 96 se1, x_it 4 gr1, x_it 8 im, .inr (1, [.ref 15, .ref 16, .ref 17, .ref 18, .ref 19, .ref 20, .int ro, .int co, .int mo, .long mi, .int ki]), x_it 2304 ce, x_it 2304 wo, x_it 31 pv, x_it 48 fa, x_it 10 pm, x_it 10 pw, .inr (2, [.ref 22]), x_lg 24 rw, x_it 24 fr, x_it 24 ba] ++ M : mm_H) (none, ([.inr (3, [.ref 1, .ref 7, .ref 13, .ref 14, .ref 21, .ref 23, .ref 24]), .inr (0, [.ref 2, .ref 3, .ref 4, .ref 5, .ref 6]), x_it 256 pl0, x_it 256 ke0, x_it 4 sz0, x_it 96 se0, x_it 4 gr0, .inr (0, [.ref 8, .ref 9, .ref 10, .ref 11, .ref 12]), x_it 256 (x_na pl1 (x_fill sz1 0 4) se1 255).1, x_it 256 ke1, x_it 4 (x_na pl1 (x_fill sz1 0 4) se1 255).2.1, x_it 96 (x_na pl1 (x_fill sz1 0 4) se1 255).2.2, x_it 4 gr1, x_it 8 im, .inr (1, [.ref 15, .ref 16, .ref 17, .ref 18, .ref 19, .ref 20, .int ro, .int co, .int mo, .long mi, .int ki]), x_it 2304 ce, x_it 2304 wo, x_it 31 pv, x_it 48 fa, x_it 10 pm, x_it 10 pw, .inr (2, [.ref 22]), x_lg 24 rw, x_it 24 fr, x_it 24 ba] ++ M : mm_H)) := by
  refine ⟨kq_11, rfl, rfl, ?_⟩
  refine mm_E.s rfl rfl rfl (fun _ => rfl) ?_
  refine mm_E.gf rfl rfl rfl rfl rfl ?_
  refine mm_E.s rfl rfl rfl (fun _ => rfl) ?_
  refine mm_E.ic rfl rfl rfl rfl rfl (x_fill_EC rfl (by decide)) ?_
  refine mm_E.hc ([.inr (3, [.ref 1, .ref 7, .ref 13, .ref 14, .ref 21, .ref 23, .ref 24]), .inr (0, [.ref 2, .ref 3, .ref 4, .ref 5, .ref 6]), x_it 256 pl0, x_it 256 ke0, x_it 4 sz0, x_it 96 se0, x_it 4 gr0, .inr (0, [.ref 8, .ref 9, .ref 10, .ref 11, .ref 12]), x_it 256 (x_na pl1 (x_fill sz1 0 4) se1 0).1, x_it 256 ke1, x_it 4 (x_na pl1 (x_fill sz1 0 4) se1 0).2.1, x_it 96 (x_na pl1 (x_fill sz1 0 4) se1 0).2.2, x_it 4 gr1, x_it 8 im, .inr (1, [.ref 15, .ref 16, .ref 17, .ref 18, .ref 19, .ref 20, .int ro, .int co, .int mo, .long mi, .int ki]), x_it 2304 ce, x_it 2304 wo, x_it 31 pv, x_it 48 fa, x_it 10 pm, x_it 10 pw, .inr (2, [.ref 22]), x_lg 24 rw, x_it 24 fr, x_it 24 ba] ++ M : mm_H) rfl ?_
  refine mm_E.s rfl rfl rfl (fun _ => rfl) ?_
  refine mm_E.s rfl rfl rfl (fun _ => rfl) ?_
  have hloop := mm_E.loop (G := kM) (scr := none) (k := 11) (pc := 10) (res := (none, ([.inr (3, [.ref 1, .ref 7, .ref 13, .ref 14, .ref 21, .ref 23, .ref 24]), .inr (0, [.ref 2, .ref 3, .ref 4, .ref 5, .ref 6]), x_it 256 pl0, x_it 256 ke0, x_it 4 sz0, x_it 96 se0, x_it 4 gr0, .inr (0, [.ref 8, .ref 9, .ref 10, .ref 11, .ref 12]), x_it 256 (x_na pl1 (x_fill sz1 0 4) se1 255).1, x_it 256 ke1, x_it 4 (x_na pl1 (x_fill sz1 0 4) se1 255).2.1, x_it 96 (x_na pl1 (x_fill sz1 0 4) se1 255).2.2, x_it 4 gr1, x_it 8 im, .inr (1, [.ref 15, .ref 16, .ref 17, .ref 18, .ref 19, .ref 20, .int ro, .int co, .int mo, .long mi, .int ki]), x_it 2304 ce, x_it 2304 wo, x_it 31 pv, x_it 48 fa, x_it 10 pm, x_it 10 pw, .inr (2, [.ref 22]), x_lg 24 rw, x_it 24 fr, x_it 24 ba] ++ M : mm_H))) (fun t => [some (.ref 7), some (.int (nI (t + 1))), x_lo pl1 t]) (fun t => ([.inr (3, [.ref 1, .ref 7, .ref 13, .ref 14, .ref 21, .ref 23, .ref 24]), .inr (0, [.ref 2, .ref 3, .ref 4, .ref 5, .ref 6]), x_it 256 pl0, x_it 256 ke0, x_it 4 sz0, x_it 96 se0, x_it 4 gr0, .inr (0, [.ref 8, .ref 9, .ref 10, .ref 11, .ref 12]), x_it 256 (x_na pl1 (x_fill sz1 0 4) se1 t).1, x_it 256 ke1, x_it 4 (x_na pl1 (x_fill sz1 0 4) se1 t).2.1, x_it 96 (x_na pl1 (x_fill sz1 0 4) se1 t).2.2, x_it 4 gr1, x_it 8 im, .inr (1, [.ref 15, .ref 16, .ref 17, .ref 18, .ref 19, .ref 20, .int ro, .int co, .int mo, .long mi, .int ki]), x_it 2304 ce, x_it 2304 wo, x_it 31 pv, x_it 48 fa, x_it 10 pm, x_it 10 pw, .inr (2, [.ref 22]), x_lg 24 rw, x_it 24 fr, x_it 24 ba] ++ M : mm_H)) 255 ?_ ?_
  · exact hloop
  · skip
    refine mm_E.s rfl rfl rfl (fun _ => rfl) ?_
    refine mm_E.s rfl rfl rfl (fun _ => rfl) ?_
    refine mm_E.s rfl rfl rfl (fun _ => rfl) ?_
    exact mm_E.ret rfl rfl rfl
  · intro t ht ih
    have e1 : (x_na pl1 (x_fill sz1 0 4) se1 t).1 (t + 1) = pl1 (t + 1) := x_na_pl _ _ _ t (t + 1) (by omega)
    rw [← nI_1] at ih
    by_cases hp : pl1 (t + 1) = -1
    · rw [show x_na pl1 (x_fill sz1 0 4) se1 (t + 1) = x_na pl1 (x_fill sz1 0 4) se1 t from if_pos hp, show x_lo pl1 (t + 1) = x_lo pl1 t from if_pos hp] at ih
      refine mm_E.s rfl rfl rfl (fun _ => rfl) ?_
      refine mm_E.s rfl rfl rfl (fun _ => rfl) ?_
      refine mm_E.s rfl rfl rfl (fun _ => if_neg (nI_ge (a := t + 1) (b := 256) (by omega) (by decide))) ?_
      refine mm_E.s rfl rfl rfl (fun _ => rfl) ?_
      refine mm_E.gf rfl rfl rfl rfl rfl ?_
      refine mm_E.s rfl rfl rfl (fun _ => rfl) ?_
      refine mm_E.ia rfl rfl rfl (mm_bd (by omega) (by decide)) (v := pl1 (t + 1)) (by rw [mm_cl (by omega)]; exact e1) ?_
      refine mm_E.s rfl rfl rfl (fun _ => rfl) ?_
      refine mm_E.s rfl rfl rfl (fun _ => if_pos hp) ?_
      refine mm_E.s rfl rfl rfl (fun _ => rfl) ?_
      refine mm_E.s rfl rfl rfl (fun _ => rfl) ?_
      exact ih
    · rw [show x_na pl1 (x_fill sz1 0 4) se1 (t + 1) = _ from if_neg hp, show x_lo pl1 (t + 1) = some (.int (x_dm (nI (t + 1)))) from if_neg hp] at ih
      obtain ⟨hd, hi0, hi1⟩ := hb t ht hp
      generalize hdm : x_dm (nI (t + 1)) = d at hd hi0 hi1 ih
      refine mm_E.s rfl rfl rfl (fun _ => rfl) ?_
      refine mm_E.s rfl rfl rfl (fun _ => rfl) ?_
      refine mm_E.s rfl rfl rfl (fun _ => if_neg (nI_ge (a := t + 1) (b := 256) (by omega) (by decide))) ?_
      refine mm_E.s rfl rfl rfl (fun _ => rfl) ?_
      refine mm_E.gf rfl rfl rfl rfl rfl ?_
      refine mm_E.s rfl rfl rfl (fun _ => rfl) ?_
      refine mm_E.ia rfl rfl rfl (mm_bd (by omega) (by decide)) (v := pl1 (t + 1)) (by rw [mm_cl (by omega)]; exact e1) ?_
      refine mm_E.s rfl rfl rfl (fun _ => rfl) ?_
      refine mm_E.s rfl rfl rfl (fun _ => if_neg hp) ?_
      refine mm_E.s rfl rfl rfl (fun _ => rfl) ?_
      refine mm_E.ic rfl rfl rfl rfl rfl (z_dm _) ?_
      refine mm_E.ti d hdm ?_
      refine mm_E.s rfl rfl rfl (fun _ => rfl) ?_
      refine mm_E.s rfl rfl rfl (fun _ => rfl) ?_
      refine mm_E.gf rfl rfl rfl rfl rfl ?_
      refine mm_E.s rfl rfl rfl (fun _ => rfl) ?_
      refine mm_E.s rfl rfl rfl (fun _ => rfl) ?_
      refine mm_E.gf rfl rfl rfl rfl rfl ?_
      refine mm_E.s rfl rfl rfl (fun _ => rfl) ?_
      refine mm_E.ia rfl rfl rfl hd rfl ?_
      refine mm_E.is rfl rfl rfl (mm_bd (by omega) (by decide)) rfl ?_
      refine mm_E.s rfl rfl rfl (fun _ => rfl) ?_
      refine mm_E.gf rfl rfl rfl rfl rfl ?_
      refine mm_E.s rfl rfl rfl (fun _ => rfl) ?_
      refine mm_E.s rfl rfl rfl (fun _ => rfl) ?_
      refine mm_E.s rfl rfl rfl (fun _ => rfl) ?_
      refine mm_E.s rfl rfl rfl (fun _ => rfl) ?_
      refine mm_E.gf rfl rfl rfl rfl rfl ?_
      refine mm_E.s rfl rfl rfl (fun _ => rfl) ?_
      refine mm_E.ia rfl rfl rfl hd rfl ?_
      refine mm_E.s rfl rfl rfl (fun _ => rfl) ?_
      refine mm_E.s rfl rfl rfl (fun _ => rfl) ?_
      refine mm_E.is rfl rfl rfl ⟨hi0, hi1⟩ rfl ?_
      refine mm_E.s rfl rfl rfl (fun _ => rfl) ?_
      refine mm_E.gf rfl rfl rfl rfl rfl ?_
      refine mm_E.s rfl rfl rfl (fun _ => rfl) ?_
      refine mm_E.s rfl rfl rfl (fun _ => rfl) ?_
      refine mm_E.ia rfl rfl rfl hd rfl ?_
      refine mm_E.s rfl rfl rfl (fun _ => rfl) ?_
      refine mm_E.s rfl rfl rfl (fun _ => rfl) ?_
      refine mm_E.is rfl rfl rfl hd rfl ?_
      refine mm_E.s rfl rfl rfl (fun _ => rfl) ?_
      refine mm_E.s rfl rfl rfl (fun _ => rfl) ?_
      refine mm_E.hc _ ?_ ih
      rw [mm_cl (by omega)]
      rfl
end
section
def x_fc (s : Nat) : Nat → Int32
  | 0 => nI s
  | t + 1 => (x_fc s t - 1) &&& nI s
def x_gr (s : Nat) (g : Nat → Int32) : Nat → Nat → Int32
  | 0 => g
  | t + 1 => upd (x_gr s g t) (x_dm (x_fc s t)).toNatClampNeg (x_gr s g t (x_dm (x_fc s t)).toNatClampNeg + 1)
def x_pp (s : Nat) (p : Nat → Int32) : Nat → Nat → Int32
  | 0 => p
  | t + 1 => upd (x_pp s p t) (x_fc s t).toNatClampNeg 0
def x_sm (g : Nat → Int32) : Nat → Int32
  | 0 => 0
  | k + 1 => x_sm g k + g k
def x_N (s : Nat) : Nat := ((List.range 17).find? (fun t => decide (x_fc s t ≤ 0))).getD 0
abbrev x_P0 : Nat → Int32 := x_fill (fun _ => 0) (-1) 256
abbrev x_G0 : Nat → Int32 := x_fill (fun _ => 0) 0 4
def x_ct (pl : Nat → Int32) (k : Nat) : Nat → Nat
  | 0 => 0
  | t + 1 => if ¬ pl (t + 1) = -1 ∧ x_dm (nI (t + 1)) = nI k then x_ct pl k t + 1 else x_ct pl k t
theorem x_ct_le (pl : Nat → Int32) (k : Nat) : ∀ (d t : Nat), x_ct pl k t ≤ x_ct pl k (t + d)
  | 0, t => Nat.le_refl _
  | d + 1, t => by
    have z := x_ct_le pl k d t
    have e : x_ct pl k (t + (d + 1)) = if ¬ pl (t + d + 1) = -1 ∧ x_dm (nI (t + d + 1)) = nI k then x_ct pl k (t + d) + 1 else x_ct pl k (t + d) := rfl
    rw [e]
    split <;> omega
theorem x_na_ct {pl sz se : Nat → Int32} (hd : ∀ t, t < 255 → ¬ pl (t + 1) = -1 → 0 ≤ (x_dm (nI (t + 1))).toInt ∧ (x_dm (nI (t + 1))).toInt < 4) (h0 : ∀ k, k < 4 → sz k = 0) : ∀ (t : Nat), t ≤ 255 → ∀ k, k < 4 → (x_na pl sz se t).2.1 k = nI (x_ct pl k t)
  | 0, _, k, hk => h0 k hk
  | t + 1, ht, k, hk => by
    have ih := x_na_ct (se := se) hd h0 t (by omega)
    by_cases hp : pl (t + 1) = -1
    · rw [show x_na pl sz se (t + 1) = x_na pl sz se t from if_pos hp, show x_ct pl k (t + 1) = x_ct pl k t from if_neg (fun q => q.1 hp)]
      exact ih k hk
    · rw [show x_na pl sz se (t + 1) = _ from if_neg hp]
      obtain ⟨d0, d4⟩ := hd t (by omega) hp
      obtain ⟨j, hj, ej⟩ : ∃ j : Nat, j < 4 ∧ x_dm (nI (t + 1)) = nI j := ⟨(x_dm (nI (t + 1))).toInt.toNat, by omega, Int32.toInt_inj.mp (by rw [nI_toInt (by omega)]; omega)⟩
      show upd _ _ _ k = _
      rw [ej, mm_cl (by omega)]
      unfold upd
      by_cases hkj : k = j
      · subst hkj
        rw [if_pos rfl, show x_ct pl k (t + 1) = x_ct pl k t + 1 from if_pos ⟨hp, ej⟩, ih k hk]
        exact nI_1 _
      · rw [if_neg hkj, show x_ct pl k (t + 1) = x_ct pl k t from if_neg (fun q => hkj (((nI_eq (by omega) (by omega)).mp (q.2.symm.trans ej))))]
        exact ih k hk
theorem x_nb_of {pl sz se : Nat → Int32} (hd : ∀ t, t < 255 → ¬ pl (t + 1) = -1 → 0 ≤ (x_dm (nI (t + 1))).toInt ∧ (x_dm (nI (t + 1))).toInt < 4) (h0 : ∀ k, k < 4 → sz k = 0) (hc : ∀ k, k < 4 → x_ct pl k 255 < 24) : x_nb pl sz se := by
  intro t ht hp
  obtain ⟨d0, d4⟩ := hd t ht hp
  obtain ⟨j, hj, ej⟩ : ∃ j : Nat, j < 4 ∧ x_dm (nI (t + 1)) = nI j := ⟨(x_dm (nI (t + 1))).toInt.toNat, by omega, Int32.toInt_inj.mp (by rw [nI_toInt (by omega)]; omega)⟩
  refine ⟨⟨d0, d4⟩, ?_⟩
  rw [ej, mm_cl (by omega), x_na_ct hd h0 t (by omega) j hj]
  have z := x_ct_le pl j (255 - t) t
  rw [show t + (255 - t) = 255 by omega] at z
  have z2 := hc j hj
  rw [show nI j * 24 + nI (x_ct pl j t) = nI (j * 24 + x_ct pl j t) by rw [show (24 : Int32) = nI 24 from rfl, pk_mul, nI_add], nI_toInt (by omega)]
  omega
/-- what is wanted of a set of at most four -/
abbrev x_ok (s : Nat) : Prop := (∀ t, t < x_N s → ¬ x_fc s t ≤ 0 ∧ (0 ≤ (x_fc s t).toInt ∧ (x_fc s t).toInt < 256) ∧ 0 ≤ (x_dm (x_fc s t)).toInt ∧ (x_dm (x_fc s t)).toInt < 4) ∧ x_fc s (x_N s) ≤ 0 ∧ (∀ k, k < 4 → 0 + x_gr s x_G0 (x_N s) k ≤ 24) ∧ x_sm (x_gr s x_G0 (x_N s)) 4 = x_mr s s ∧ (∀ t, t < 255 → ¬ x_pp s x_P0 (x_N s) (t + 1) = -1 → 0 ≤ (x_dm (nI (t + 1))).toInt ∧ (x_dm (nI (t + 1))).toInt < 4) ∧ (∀ k, k < 4 → x_ct (x_pp s x_P0 (x_N s)) k 255 < 24) ∧ ∀ k, k < 4 → x_cn s k s ≤ 24

theorem x_P0_at {x : Int32} (h : 0 ≤ x.toInt ∧ x.toInt < 256) : x_P0 x.toNatClampNeg = -1 := by
  have e : x.toNatClampNeg = x.toInt.toNat := rfl
  exact if_pos (show x.toNatClampNeg < 256 by omega)
theorem x_P0_j (j : Nat) (h : j < 256) : x_P0 j = -1 := by
  exact if_pos h
theorem x_fz (k : Nat) (_ : k < 4) : x_fill (fun _ => 0) 0 4 k = 0 := by
  unfold x_fill
  split <;> rfl
theorem z_fresh {M : mm_H} (hM : x_eM M) : x_e0 ([.inr (3, [.ref 1, .ref 7, .ref 13, .ref 14, .ref 21, .ref 23, .ref 24]), .inr (0, [.ref 2, .ref 3, .ref 4, .ref 5, .ref 6]), x_it 256 x_P0, x_it 256 (fun _ => 0), x_it 4 (fun _ => 0), x_it 96 (fun _ => 0), x_it 4 (fun _ => 0), .inr (0, [.ref 8, .ref 9, .ref 10, .ref 11, .ref 12]), x_it 256 x_P0, x_it 256 (fun _ => 0), x_it 4 (fun _ => 0), x_it 96 (fun _ => 0), x_it 4 (fun _ => 0), x_it 8 (x_idn 8), .inr (1, [.ref 15, .ref 16, .ref 17, .ref 18, .ref 19, .ref 20, .int 0, .int 0, .int 2147483647, .long 0, .int 0]), x_it 2304 (fun _ => 0), x_it 2304 (fun _ => 0), x_it 31 (fun _ => 0), x_it 48 (fun _ => 0), x_it 10 (fun _ => 0), x_it 10 (fun _ => 0), .inr (2, [.ref 22]), x_lg 24 (fun _ => 0), x_it 24 (fun _ => 0), x_it 24 (fun _ => 0)] ++ M : mm_H) 0 0 0 0 := ⟨x_P0, (fun _ => 0), (fun _ => 0), (fun _ => 0), (fun _ => 0), x_P0, (fun _ => 0), (fun _ => 0), (fun _ => 0), (fun _ => 0), (x_idn 8), (fun _ => 0), (fun _ => 0), (fun _ => 0), (fun _ => 0), (fun _ => 0), (fun _ => 0), (fun _ => 0), (fun _ => 0), (fun _ => 0), 2147483647, M, rfl, fun _ _ => rfl, fun _ _ => rfl, x_P0_j, x_P0_j, hM⟩
set_option maxHeartbeats 4000000 in
theorem z_inc0 {M : mm_H} {s : Nat} (hs1 : 1 ≤ s) (hs : s < 256) (hok : x_ok s) : mm_EC kM 10 [.ref 1, .int (nI s)] ([.inr (3, [.ref 1, .ref 7, .ref 13, .ref 14, .ref 21, .ref 23, .ref 24]), .inr (0, [.ref 2, .ref 3, .ref 4, .ref 5, .ref 6]), x_it 256 x_P0, x_it 256 (fun _ => 0), x_it 4 (fun _ => 0), x_it 96 (fun _ => 0), x_it 4 (fun _ => 0), .inr (0, [.ref 8, .ref 9, .ref 10, .ref 11, .ref 12]), x_it 256 x_P0, x_it 256 (fun _ => 0), x_it 4 (fun _ => 0), x_it 96 (fun _ => 0), x_it 4 (fun _ => 0), x_it 8 (x_idn 8), .inr (1, [.ref 15, .ref 16, .ref 17, .ref 18, .ref 19, .ref 20, .int 0, .int 0, .int 2147483647, .long 0, .int 0]), x_it 2304 (fun _ => 0), x_it 2304 (fun _ => 0), x_it 31 (fun _ => 0), x_it 48 (fun _ => 0), x_it 10 (fun _ => 0), x_it 10 (fun _ => 0), .inr (2, [.ref 22]), x_lg 24 (fun _ => 0), x_it 24 (fun _ => 0), x_it 24 (fun _ => 0)] ++ M : mm_H) (some (.int (x_mr s s)), ([.inr (3, [.ref 1, .ref 7, .ref 13, .ref 14, .ref 21, .ref 23, .ref 24]), .inr (0, [.ref 2, .ref 3, .ref 4, .ref 5, .ref 6]), x_it 256 (x_na (x_pp s x_P0 (x_N s)) (x_fill (fun _ => 0) 0 4) (fun _ => 0) 255).1, x_it 256 (fun _ => 0), x_it 4 (x_na (x_pp s x_P0 (x_N s)) (x_fill (fun _ => 0) 0 4) (fun _ => 0) 255).2.1, x_it 96 (x_na (x_pp s x_P0 (x_N s)) (x_fill (fun _ => 0) 0 4) (fun _ => 0) 255).2.2, x_it 4 (x_gr s x_G0 (x_N s)), .inr (0, [.ref 8, .ref 9, .ref 10, .ref 11, .ref 12]), x_it 256 x_P0, x_it 256 (fun _ => 0), x_it 4 (fun _ => 0), x_it 96 (fun _ => 0), x_it 4 (fun _ => 0), x_it 8 (x_idn 8), .inr (1, [.ref 15, .ref 16, .ref 17, .ref 18, .ref 19, .ref 20, .int 0, .int 0, .int 2147483647, .long 0, .int 0]), x_it 2304 (fun _ => 0), x_it 2304 (fun _ => 0), x_it 31 (fun _ => 0), x_it 48 (fun _ => 0), x_it 10 (fun _ => 0), x_it 10 (fun _ => 0), .inr (2, [.ref 22]), x_lg 24 (fun _ => 0), x_it 24 (fun _ => 0), x_it 24 (fun _ => 0)] ++ M : mm_H)) := by
  rw [← hok.2.2.2.1]
  have hnb : x_nb (x_pp s x_P0 (x_N s)) (x_fill (fun _ => 0) 0 4) (fun _ => 0) := x_nb_of hok.2.2.2.2.1 x_fz hok.2.2.2.2.2.1
  refine ⟨kq_10, rfl, rfl, ?_⟩
  refine mm_E.s rfl rfl rfl (fun _ => rfl) ?_
  refine mm_E.gf rfl rfl rfl rfl rfl ?_
  refine mm_E.s rfl rfl rfl (fun _ => rfl) ?_
  refine mm_E.ic rfl rfl rfl rfl rfl (x_fill_EC rfl (by decide)) ?_
  refine mm_E.s rfl rfl rfl (fun _ => rfl) ?_
  refine mm_E.s rfl rfl rfl (fun _ => rfl) ?_
  refine mm_E.hc ([.inr (3, [.ref 1, .ref 7, .ref 13, .ref 14, .ref 21, .ref 23, .ref 24]), .inr (0, [.ref 2, .ref 3, .ref 4, .ref 5, .ref 6]), x_it 256 x_P0, x_it 256 (fun _ => 0), x_it 4 (fun _ => 0), x_it 96 (fun _ => 0), x_it 4 (x_gr s x_G0 0), .inr (0, [.ref 8, .ref 9, .ref 10, .ref 11, .ref 12]), x_it 256 x_P0, x_it 256 (fun _ => 0), x_it 4 (fun _ => 0), x_it 96 (fun _ => 0), x_it 4 (fun _ => 0), x_it 8 (x_idn 8), .inr (1, [.ref 15, .ref 16, .ref 17, .ref 18, .ref 19, .ref 20, .int 0, .int 0, .int 2147483647, .long 0, .int 0]), x_it 2304 (fun _ => 0), x_it 2304 (fun _ => 0), x_it 31 (fun _ => 0), x_it 48 (fun _ => 0), x_it 10 (fun _ => 0), x_it 10 (fun _ => 0), .inr (2, [.ref 22]), x_lg 24 (fun _ => 0), x_it 24 (fun _ => 0), x_it 24 (fun _ => 0)] ++ M : mm_H) rfl ?_
  refine mm_E.loop (fun t => [some (.ref 1), some (.int (nI s)), some (.int (x_fc s t)), none]) (fun t => ([.inr (3, [.ref 1, .ref 7, .ref 13, .ref 14, .ref 21, .ref 23, .ref 24]), .inr (0, [.ref 2, .ref 3, .ref 4, .ref 5, .ref 6]), x_it 256 x_P0, x_it 256 (fun _ => 0), x_it 4 (fun _ => 0), x_it 96 (fun _ => 0), x_it 4 (x_gr s x_G0 t), .inr (0, [.ref 8, .ref 9, .ref 10, .ref 11, .ref 12]), x_it 256 x_P0, x_it 256 (fun _ => 0), x_it 4 (fun _ => 0), x_it 96 (fun _ => 0), x_it 4 (fun _ => 0), x_it 8 (x_idn 8), .inr (1, [.ref 15, .ref 16, .ref 17, .ref 18, .ref 19, .ref 20, .int 0, .int 0, .int 2147483647, .long 0, .int 0]), x_it 2304 (fun _ => 0), x_it 2304 (fun _ => 0), x_it 31 (fun _ => 0), x_it 48 (fun _ => 0), x_it 10 (fun _ => 0), x_it 10 (fun _ => 0), .inr (2, [.ref 22]), x_lg 24 (fun _ => 0), x_it 24 (fun _ => 0), x_it 24 (fun _ => 0)] ++ M : mm_H)) (x_N s) ?_ ?_
  · skip
    refine mm_E.s rfl rfl rfl (fun _ => rfl) ?_
    refine mm_E.s rfl rfl rfl (fun _ => if_pos hok.2.1) ?_
    refine mm_E.s rfl rfl rfl (fun _ => rfl) ?_
    refine mm_E.s rfl rfl rfl (fun _ => rfl) ?_
    refine mm_E.s rfl rfl rfl (fun _ => rfl) ?_
    refine mm_E.s rfl rfl rfl (fun _ => rfl) ?_
    refine mm_E.loop (fun k => [some (.ref 1), some (.int (nI s)), some (.int (x_sm (x_gr s x_G0 (x_N s)) k)), some (.int (nI k))]) (fun _ => ([.inr (3, [.ref 1, .ref 7, .ref 13, .ref 14, .ref 21, .ref 23, .ref 24]), .inr (0, [.ref 2, .ref 3, .ref 4, .ref 5, .ref 6]), x_it 256 x_P0, x_it 256 (fun _ => 0), x_it 4 (fun _ => 0), x_it 96 (fun _ => 0), x_it 4 (x_gr s x_G0 (x_N s)), .inr (0, [.ref 8, .ref 9, .ref 10, .ref 11, .ref 12]), x_it 256 x_P0, x_it 256 (fun _ => 0), x_it 4 (fun _ => 0), x_it 96 (fun _ => 0), x_it 4 (fun _ => 0), x_it 8 (x_idn 8), .inr (1, [.ref 15, .ref 16, .ref 17, .ref 18, .ref 19, .ref 20, .int 0, .int 0, .int 2147483647, .long 0, .int 0]), x_it 2304 (fun _ => 0), x_it 2304 (fun _ => 0), x_it 31 (fun _ => 0), x_it 48 (fun _ => 0), x_it 10 (fun _ => 0), x_it 10 (fun _ => 0), .inr (2, [.ref 22]), x_lg 24 (fun _ => 0), x_it 24 (fun _ => 0), x_it 24 (fun _ => 0)] ++ M : mm_H)) 4 ?_ ?_
    · skip
      refine mm_E.s rfl rfl rfl (fun _ => rfl) ?_
      refine mm_E.s rfl rfl rfl (fun _ => rfl) ?_
      refine mm_E.s rfl rfl rfl (fun _ => rfl) ?_
      refine mm_E.s rfl rfl rfl (fun _ => rfl) ?_
      refine mm_E.s rfl rfl rfl (fun _ => rfl) ?_
      refine mm_E.hc ([.inr (3, [.ref 1, .ref 7, .ref 13, .ref 14, .ref 21, .ref 23, .ref 24]), .inr (0, [.ref 2, .ref 3, .ref 4, .ref 5, .ref 6]), x_it 256 (x_pp s x_P0 0), x_it 256 (fun _ => 0), x_it 4 (fun _ => 0), x_it 96 (fun _ => 0), x_it 4 (x_gr s x_G0 (x_N s)), .inr (0, [.ref 8, .ref 9, .ref 10, .ref 11, .ref 12]), x_it 256 x_P0, x_it 256 (fun _ => 0), x_it 4 (fun _ => 0), x_it 96 (fun _ => 0), x_it 4 (fun _ => 0), x_it 8 (x_idn 8), .inr (1, [.ref 15, .ref 16, .ref 17, .ref 18, .ref 19, .ref 20, .int 0, .int 0, .int 2147483647, .long 0, .int 0]), x_it 2304 (fun _ => 0), x_it 2304 (fun _ => 0), x_it 31 (fun _ => 0), x_it 48 (fun _ => 0), x_it 10 (fun _ => 0), x_it 10 (fun _ => 0), .inr (2, [.ref 22]), x_lg 24 (fun _ => 0), x_it 24 (fun _ => 0), x_it 24 (fun _ => 0)] ++ M : mm_H) rfl ?_
      refine mm_E.loop (fun t => [some (.ref 1), some (.int (nI s)), some (.int (x_sm (x_gr s x_G0 (x_N s)) 4)), some (.int (x_fc s t))]) (fun t => ([.inr (3, [.ref 1, .ref 7, .ref 13, .ref 14, .ref 21, .ref 23, .ref 24]), .inr (0, [.ref 2, .ref 3, .ref 4, .ref 5, .ref 6]), x_it 256 (x_pp s x_P0 t), x_it 256 (fun _ => 0), x_it 4 (fun _ => 0), x_it 96 (fun _ => 0), x_it 4 (x_gr s x_G0 (x_N s)), .inr (0, [.ref 8, .ref 9, .ref 10, .ref 11, .ref 12]), x_it 256 x_P0, x_it 256 (fun _ => 0), x_it 4 (fun _ => 0), x_it 96 (fun _ => 0), x_it 4 (fun _ => 0), x_it 8 (x_idn 8), .inr (1, [.ref 15, .ref 16, .ref 17, .ref 18, .ref 19, .ref 20, .int 0, .int 0, .int 2147483647, .long 0, .int 0]), x_it 2304 (fun _ => 0), x_it 2304 (fun _ => 0), x_it 31 (fun _ => 0), x_it 48 (fun _ => 0), x_it 10 (fun _ => 0), x_it 10 (fun _ => 0), .inr (2, [.ref 22]), x_lg 24 (fun _ => 0), x_it 24 (fun _ => 0), x_it 24 (fun _ => 0)] ++ M : mm_H)) (x_N s) ?_ ?_
      · skip
        refine mm_E.s rfl rfl rfl (fun _ => rfl) ?_
        refine mm_E.s rfl rfl rfl (fun _ => if_pos hok.2.1) ?_
        refine mm_E.s rfl rfl rfl (fun _ => rfl) ?_
        refine mm_E.iv rfl rfl rfl rfl rfl rfl (z_num0 hnb) ?_
        refine mm_E.s rfl rfl rfl (fun _ => rfl) ?_
        exact mm_E.ret rfl rfl rfl
      · intro t ht ih
        refine mm_E.s rfl rfl rfl (fun _ => rfl) ?_
        refine mm_E.s rfl rfl rfl (fun _ => if_neg (hok.1 t ht).1) ?_
        refine mm_E.s rfl rfl rfl (fun _ => rfl) ?_
        refine mm_E.gf rfl rfl rfl rfl rfl ?_
        refine mm_E.s rfl rfl rfl (fun _ => rfl) ?_
        refine mm_E.s rfl rfl rfl (fun _ => rfl) ?_
        refine mm_E.is rfl rfl rfl (hok.1 t ht).2.1 rfl ?_
        refine mm_E.s rfl rfl rfl (fun _ => rfl) ?_
        refine mm_E.s rfl rfl rfl (fun _ => rfl) ?_
        refine mm_E.s rfl rfl rfl (fun _ => rfl) ?_
        refine mm_E.s rfl rfl rfl (fun _ => rfl) ?_
        refine mm_E.s rfl rfl rfl (fun _ => rfl) ?_
        refine mm_E.s rfl rfl rfl (fun _ => rfl) ?_
        refine mm_E.s rfl rfl rfl (fun _ => rfl) ?_
        exact ih
    · intro k hk ih
      rw [← nI_1] at ih
      refine mm_E.s rfl rfl rfl (fun _ => rfl) ?_
      refine mm_E.s rfl rfl rfl (fun _ => rfl) ?_
      refine mm_E.s rfl rfl rfl (fun _ => if_neg (nI_ge (a := k) (b := 4) (by omega) (by decide))) ?_
      refine mm_E.s rfl rfl rfl (fun _ => rfl) ?_
      refine mm_E.gf rfl rfl rfl rfl rfl ?_
      refine mm_E.s rfl rfl rfl (fun _ => rfl) ?_
      refine mm_E.ia rfl rfl rfl (mm_bd (by omega) (by decide)) (v := 0) rfl ?_
      refine mm_E.s rfl rfl rfl (fun _ => rfl) ?_
      refine mm_E.gf rfl rfl rfl rfl rfl ?_
      refine mm_E.s rfl rfl rfl (fun _ => rfl) ?_
      refine mm_E.ia rfl rfl rfl (mm_bd (by omega) (by decide)) (v := (x_gr s x_G0 (x_N s)) k) (by rw [mm_cl (by omega)]) ?_
      refine mm_E.s rfl rfl rfl (fun _ => rfl) ?_
      refine mm_E.s rfl rfl rfl (fun _ => rfl) ?_
      refine mm_E.s rfl rfl rfl (fun _ => if_pos (hok.2.2.1 k hk)) ?_
      refine mm_E.s rfl rfl rfl (fun _ => rfl) ?_
      refine mm_E.s rfl rfl rfl (fun _ => rfl) ?_
      refine mm_E.gf rfl rfl rfl rfl rfl ?_
      refine mm_E.s rfl rfl rfl (fun _ => rfl) ?_
      refine mm_E.ia rfl rfl rfl (mm_bd (by omega) (by decide)) (v := (x_gr s x_G0 (x_N s)) k) (by rw [mm_cl (by omega)]) ?_
      refine mm_E.s rfl rfl rfl (fun _ => rfl) ?_
      refine mm_E.s rfl rfl rfl (fun _ => rfl) ?_
      refine mm_E.s rfl rfl rfl (fun _ => rfl) ?_
      refine mm_E.s rfl rfl rfl (fun _ => rfl) ?_
      exact ih
  · intro t ht ih
    refine mm_E.s rfl rfl rfl (fun _ => rfl) ?_
    refine mm_E.s rfl rfl rfl (fun _ => if_neg (hok.1 t ht).1) ?_
    refine mm_E.s rfl rfl rfl (fun _ => rfl) ?_
    refine mm_E.gf rfl rfl rfl rfl rfl ?_
    refine mm_E.s rfl rfl rfl (fun _ => rfl) ?_
    refine mm_E.ia rfl rfl rfl (hok.1 t ht).2.1 (v := -1) (x_P0_at (hok.1 t ht).2.1) ?_
    refine mm_E.s rfl rfl rfl (fun _ => rfl) ?_
    refine mm_E.s rfl rfl rfl (fun _ => rfl) ?_
    refine mm_E.s rfl rfl rfl (fun _ => rfl) ?_
    refine mm_E.gf rfl rfl rfl rfl rfl ?_
    refine mm_E.s rfl rfl rfl (fun _ => rfl) ?_
    refine mm_E.ic rfl rfl rfl rfl rfl (z_dm _) ?_
    refine mm_E.s rfl rfl rfl (fun _ => rfl) ?_
    refine mm_E.ia rfl rfl rfl (hok.1 t ht).2.2 rfl ?_
    refine mm_E.s rfl rfl rfl (fun _ => rfl) ?_
    refine mm_E.s rfl rfl rfl (fun _ => rfl) ?_
    refine mm_E.is rfl rfl rfl (hok.1 t ht).2.2 rfl ?_
    refine mm_E.s rfl rfl rfl (fun _ => rfl) ?_
    refine mm_E.s rfl rfl rfl (fun _ => rfl) ?_
    refine mm_E.s rfl rfl rfl (fun _ => rfl) ?_
    refine mm_E.s rfl rfl rfl (fun _ => rfl) ?_
    refine mm_E.s rfl rfl rfl (fun _ => rfl) ?_
    refine mm_E.s rfl rfl rfl (fun _ => rfl) ?_
    refine mm_E.s rfl rfl rfl (fun _ => rfl) ?_
    exact ih

theorem z_add0 {M : mm_H} (hM : x_eM M) {s : Nat} (hs1 : 1 ≤ s) (hs : s < 256) (h4 : x_bc (nI s) ≤ 4) (hok : x_ok s) : ∃ h', mm_EC kM 34 [.ref 0, .int 0, .int (nI s)] ([.inr (3, [.ref 1, .ref 7, .ref 13, .ref 14, .ref 21, .ref 23, .ref 24]), .inr (0, [.ref 2, .ref 3, .ref 4, .ref 5, .ref 6]), x_it 256 x_P0, x_it 256 (fun _ => 0), x_it 4 (fun _ => 0), x_it 96 (fun _ => 0), x_it 4 (fun _ => 0), .inr (0, [.ref 8, .ref 9, .ref 10, .ref 11, .ref 12]), x_it 256 x_P0, x_it 256 (fun _ => 0), x_it 4 (fun _ => 0), x_it 96 (fun _ => 0), x_it 4 (fun _ => 0), x_it 8 (x_idn 8), .inr (1, [.ref 15, .ref 16, .ref 17, .ref 18, .ref 19, .ref 20, .int 0, .int 0, .int 2147483647, .long 0, .int 0]), x_it 2304 (fun _ => 0), x_it 2304 (fun _ => 0), x_it 31 (fun _ => 0), x_it 48 (fun _ => 0), x_it 10 (fun _ => 0), x_it 10 (fun _ => 0), .inr (2, [.ref 22]), x_lg 24 (fun _ => 0), x_it 24 (fun _ => 0), x_it 24 (fun _ => 0)] ++ M : mm_H) (some (.int (x_mr s s)), h') ∧ x_em h' 0 0 0 := by
  have hE := z_fresh hM
  refine ⟨_, ⟨kq_34, rfl, rfl, ?_⟩, hM [.inr (3, [.ref 1, .ref 7, .ref 13, .ref 14, .ref 21, .ref 23, .ref 24]), .inr (0, [.ref 2, .ref 3, .ref 4, .ref 5, .ref 6]), x_it 256 (x_na (x_pp s x_P0 (x_N s)) (x_fill (fun _ => 0) 0 4) (fun _ => 0) 255).1, x_it 256 (fun _ => 0), x_it 4 (x_na (x_pp s x_P0 (x_N s)) (x_fill (fun _ => 0) 0 4) (fun _ => 0) 255).2.1, x_it 96 (x_na (x_pp s x_P0 (x_N s)) (x_fill (fun _ => 0) 0 4) (fun _ => 0) 255).2.2, x_it 4 (x_gr s x_G0 (x_N s)), .inr (0, [.ref 8, .ref 9, .ref 10, .ref 11, .ref 12]), x_it 256 x_P0, x_it 256 (fun _ => 0), x_it 4 (fun _ => 0), x_it 96 (fun _ => 0), x_it 4 (fun _ => 0), x_it 8 (x_idn 8), .inr (1, [.ref 15, .ref 16, .ref 17, .ref 18, .ref 19, .ref 20, .int 0, .int 0, .int 2147483647, .long 0, .int 0]), x_it 2304 (fun _ => 0), x_it 2304 (fun _ => 0), x_it 31 (fun _ => 0), x_it 48 (fun _ => 0), x_it 10 (fun _ => 0), x_it 10 (fun _ => 0), .inr (2, [.ref 22]), x_lg 24 (fun _ => 0), x_it 24 (fun _ => 0), x_it 24 (fun _ => 0)] rfl⟩
  refine mm_E.s rfl rfl rfl (fun _ => rfl) ?_
  refine mm_E.s rfl rfl rfl (fun _ => rfl) ?_
  refine mm_E.iv rfl rfl rfl rfl rfl rfl (z_cx0 hE) ?_
  refine mm_E.s rfl rfl rfl (fun _ => rfl) ?_
  refine mm_E.s rfl rfl rfl (fun _ => rfl) ?_
  refine mm_E.s rfl rfl rfl (fun _ => rfl) ?_
  refine mm_E.s rfl rfl rfl (fun _ => rfl) ?_
  refine mm_E.s rfl rfl rfl (fun _ => rfl) ?_
  refine mm_E.s rfl rfl rfl (fun _ => if_neg (nI_nlt (a := s) (b := 1) (by omega) (by omega))) ?_
  refine mm_E.s rfl rfl rfl (fun _ => rfl) ?_
  refine mm_E.s rfl rfl rfl (fun _ => rfl) ?_
  refine mm_E.s rfl rfl rfl (fun _ => if_neg (nI_ge (a := s) (b := 256) (by omega) (by decide))) ?_
  refine mm_E.s rfl rfl rfl (fun _ => rfl) ?_
  refine mm_E.ic rfl rfl rfl rfl rfl (z_bc _) ?_
  refine mm_E.s rfl rfl rfl (fun _ => rfl) ?_
  refine mm_E.s rfl rfl rfl (fun _ => if_pos h4) ?_
  refine mm_E.s rfl rfl rfl (fun _ => rfl) ?_
  refine mm_E.s rfl rfl rfl (fun _ => rfl) ?_
  refine mm_E.iv rfl rfl rfl rfl rfl rfl (z_inc0 hs1 hs hok) ?_
  exact mm_E.ret rfl rfl rfl

set_option maxHeartbeats 4000000 in
theorem z_inc1 {M : mm_H} {s : Nat} (hs1 : 1 ≤ s) (hs : s < 256) (hok : x_ok s) : mm_EC kM 10 [.ref 7, .int (nI s)] ([.inr (3, [.ref 1, .ref 7, .ref 13, .ref 14, .ref 21, .ref 23, .ref 24]), .inr (0, [.ref 2, .ref 3, .ref 4, .ref 5, .ref 6]), x_it 256 x_P0, x_it 256 (fun _ => 0), x_it 4 (fun _ => 0), x_it 96 (fun _ => 0), x_it 4 (fun _ => 0), .inr (0, [.ref 8, .ref 9, .ref 10, .ref 11, .ref 12]), x_it 256 x_P0, x_it 256 (fun _ => 0), x_it 4 (fun _ => 0), x_it 96 (fun _ => 0), x_it 4 (fun _ => 0), x_it 8 (x_idn 8), .inr (1, [.ref 15, .ref 16, .ref 17, .ref 18, .ref 19, .ref 20, .int 0, .int 0, .int 2147483647, .long 0, .int 0]), x_it 2304 (fun _ => 0), x_it 2304 (fun _ => 0), x_it 31 (fun _ => 0), x_it 48 (fun _ => 0), x_it 10 (fun _ => 0), x_it 10 (fun _ => 0), .inr (2, [.ref 22]), x_lg 24 (fun _ => 0), x_it 24 (fun _ => 0), x_it 24 (fun _ => 0)] ++ M : mm_H) (some (.int (x_mr s s)), ([.inr (3, [.ref 1, .ref 7, .ref 13, .ref 14, .ref 21, .ref 23, .ref 24]), .inr (0, [.ref 2, .ref 3, .ref 4, .ref 5, .ref 6]), x_it 256 x_P0, x_it 256 (fun _ => 0), x_it 4 (fun _ => 0), x_it 96 (fun _ => 0), x_it 4 (fun _ => 0), .inr (0, [.ref 8, .ref 9, .ref 10, .ref 11, .ref 12]), x_it 256 (x_na (x_pp s x_P0 (x_N s)) (x_fill (fun _ => 0) 0 4) (fun _ => 0) 255).1, x_it 256 (fun _ => 0), x_it 4 (x_na (x_pp s x_P0 (x_N s)) (x_fill (fun _ => 0) 0 4) (fun _ => 0) 255).2.1, x_it 96 (x_na (x_pp s x_P0 (x_N s)) (x_fill (fun _ => 0) 0 4) (fun _ => 0) 255).2.2, x_it 4 (x_gr s x_G0 (x_N s)), x_it 8 (x_idn 8), .inr (1, [.ref 15, .ref 16, .ref 17, .ref 18, .ref 19, .ref 20, .int 0, .int 0, .int 2147483647, .long 0, .int 0]), x_it 2304 (fun _ => 0), x_it 2304 (fun _ => 0), x_it 31 (fun _ => 0), x_it 48 (fun _ => 0), x_it 10 (fun _ => 0), x_it 10 (fun _ => 0), .inr (2, [.ref 22]), x_lg 24 (fun _ => 0), x_it 24 (fun _ => 0), x_it 24 (fun _ => 0)] ++ M : mm_H)) := by
  rw [← hok.2.2.2.1]
  have hnb : x_nb (x_pp s x_P0 (x_N s)) (x_fill (fun _ => 0) 0 4) (fun _ => 0) := x_nb_of hok.2.2.2.2.1 x_fz hok.2.2.2.2.2.1
  refine ⟨kq_10, rfl, rfl, ?_⟩
  refine mm_E.s rfl rfl rfl (fun _ => rfl) ?_
  refine mm_E.gf rfl rfl rfl rfl rfl ?_
  refine mm_E.s rfl rfl rfl (fun _ => rfl) ?_
  refine mm_E.ic rfl rfl rfl rfl rfl (x_fill_EC rfl (by decide)) ?_
  refine mm_E.s rfl rfl rfl (fun _ => rfl) ?_
  refine mm_E.s rfl rfl rfl (fun _ => rfl) ?_
  refine mm_E.hc ([.inr (3, [.ref 1, .ref 7, .ref 13, .ref 14, .ref 21, .ref 23, .ref 24]), .inr (0, [.ref 2, .ref 3, .ref 4, .ref 5, .ref 6]), x_it 256 x_P0, x_it 256 (fun _ => 0), x_it 4 (fun _ => 0), x_it 96 (fun _ => 0), x_it 4 (fun _ => 0), .inr (0, [.ref 8, .ref 9, .ref 10, .ref 11, .ref 12]), x_it 256 x_P0, x_it 256 (fun _ => 0), x_it 4 (fun _ => 0), x_it 96 (fun _ => 0), x_it 4 (x_gr s x_G0 0), x_it 8 (x_idn 8), .inr (1, [.ref 15, .ref 16, .ref 17, .ref 18, .ref 19, .ref 20, .int 0, .int 0, .int 2147483647, .long 0, .int 0]), x_it 2304 (fun _ => 0), x_it 2304 (fun _ => 0), x_it 31 (fun _ => 0), x_it 48 (fun _ => 0), x_it 10 (fun _ => 0), x_it 10 (fun _ => 0), .inr (2, [.ref 22]), x_lg 24 (fun _ => 0), x_it 24 (fun _ => 0), x_it 24 (fun _ => 0)] ++ M : mm_H) rfl ?_
  refine mm_E.loop (fun t => [some (.ref 7), some (.int (nI s)), some (.int (x_fc s t)), none]) (fun t => ([.inr (3, [.ref 1, .ref 7, .ref 13, .ref 14, .ref 21, .ref 23, .ref 24]), .inr (0, [.ref 2, .ref 3, .ref 4, .ref 5, .ref 6]), x_it 256 x_P0, x_it 256 (fun _ => 0), x_it 4 (fun _ => 0), x_it 96 (fun _ => 0), x_it 4 (fun _ => 0), .inr (0, [.ref 8, .ref 9, .ref 10, .ref 11, .ref 12]), x_it 256 x_P0, x_it 256 (fun _ => 0), x_it 4 (fun _ => 0), x_it 96 (fun _ => 0), x_it 4 (x_gr s x_G0 t), x_it 8 (x_idn 8), .inr (1, [.ref 15, .ref 16, .ref 17, .ref 18, .ref 19, .ref 20, .int 0, .int 0, .int 2147483647, .long 0, .int 0]), x_it 2304 (fun _ => 0), x_it 2304 (fun _ => 0), x_it 31 (fun _ => 0), x_it 48 (fun _ => 0), x_it 10 (fun _ => 0), x_it 10 (fun _ => 0), .inr (2, [.ref 22]), x_lg 24 (fun _ => 0), x_it 24 (fun _ => 0), x_it 24 (fun _ => 0)] ++ M : mm_H)) (x_N s) ?_ ?_
  · skip
    refine mm_E.s rfl rfl rfl (fun _ => rfl) ?_
    refine mm_E.s rfl rfl rfl (fun _ => if_pos hok.2.1) ?_
    refine mm_E.s rfl rfl rfl (fun _ => rfl) ?_
    refine mm_E.s rfl rfl rfl (fun _ => rfl) ?_
    refine mm_E.s rfl rfl rfl (fun _ => rfl) ?_
    refine mm_E.s rfl rfl rfl (fun _ => rfl) ?_
    refine mm_E.loop (fun k => [some (.ref 7), some (.int (nI s)), some (.int (x_sm (x_gr s x_G0 (x_N s)) k)), some (.int (nI k))]) (fun _ => ([.inr (3, [.ref 1, .ref 7, .ref 13, .ref 14, .ref 21, .ref 23, .ref 24]), .inr (0, [.ref 2, .ref 3, .ref 4, .ref 5, .ref 6]), x_it 256 x_P0, x_it 256 (fun _ => 0), x_it 4 (fun _ => 0), x_it 96 (fun _ => 0), x_it 4 (fun _ => 0), .inr (0, [.ref 8, .ref 9, .ref 10, .ref 11, .ref 12]), x_it 256 x_P0, x_it 256 (fun _ => 0), x_it 4 (fun _ => 0), x_it 96 (fun _ => 0), x_it 4 (x_gr s x_G0 (x_N s)), x_it 8 (x_idn 8), .inr (1, [.ref 15, .ref 16, .ref 17, .ref 18, .ref 19, .ref 20, .int 0, .int 0, .int 2147483647, .long 0, .int 0]), x_it 2304 (fun _ => 0), x_it 2304 (fun _ => 0), x_it 31 (fun _ => 0), x_it 48 (fun _ => 0), x_it 10 (fun _ => 0), x_it 10 (fun _ => 0), .inr (2, [.ref 22]), x_lg 24 (fun _ => 0), x_it 24 (fun _ => 0), x_it 24 (fun _ => 0)] ++ M : mm_H)) 4 ?_ ?_
    · skip
      refine mm_E.s rfl rfl rfl (fun _ => rfl) ?_
      refine mm_E.s rfl rfl rfl (fun _ => rfl) ?_
      refine mm_E.s rfl rfl rfl (fun _ => rfl) ?_
      refine mm_E.s rfl rfl rfl (fun _ => rfl) ?_
      refine mm_E.s rfl rfl rfl (fun _ => rfl) ?_
      refine mm_E.hc ([.inr (3, [.ref 1, .ref 7, .ref 13, .ref 14, .ref 21, .ref 23, .ref 24]), .inr (0, [.ref 2, .ref 3, .ref 4, .ref 5, .ref 6]), x_it 256 x_P0, x_it 256 (fun _ => 0), x_it 4 (fun _ => 0), x_it 96 (fun _ => 0), x_it 4 (fun _ => 0), .inr (0, [.ref 8, .ref 9, .ref 10, .ref 11, .ref 12]), x_it 256 (x_pp s x_P0 0), x_it 256 (fun _ => 0), x_it 4 (fun _ => 0), x_it 96 (fun _ => 0), x_it 4 (x_gr s x_G0 (x_N s)), x_it 8 (x_idn 8), .inr (1, [.ref 15, .ref 16, .ref 17, .ref 18, .ref 19, .ref 20, .int 0, .int 0, .int 2147483647, .long 0, .int 0]), x_it 2304 (fun _ => 0), x_it 2304 (fun _ => 0), x_it 31 (fun _ => 0), x_it 48 (fun _ => 0), x_it 10 (fun _ => 0), x_it 10 (fun _ => 0), .inr (2, [.ref 22]), x_lg 24 (fun _ => 0), x_it 24 (fun _ => 0), x_it 24 (fun _ => 0)] ++ M : mm_H) rfl ?_
      refine mm_E.loop (fun t => [some (.ref 7), some (.int (nI s)), some (.int (x_sm (x_gr s x_G0 (x_N s)) 4)), some (.int (x_fc s t))]) (fun t => ([.inr (3, [.ref 1, .ref 7, .ref 13, .ref 14, .ref 21, .ref 23, .ref 24]), .inr (0, [.ref 2, .ref 3, .ref 4, .ref 5, .ref 6]), x_it 256 x_P0, x_it 256 (fun _ => 0), x_it 4 (fun _ => 0), x_it 96 (fun _ => 0), x_it 4 (fun _ => 0), .inr (0, [.ref 8, .ref 9, .ref 10, .ref 11, .ref 12]), x_it 256 (x_pp s x_P0 t), x_it 256 (fun _ => 0), x_it 4 (fun _ => 0), x_it 96 (fun _ => 0), x_it 4 (x_gr s x_G0 (x_N s)), x_it 8 (x_idn 8), .inr (1, [.ref 15, .ref 16, .ref 17, .ref 18, .ref 19, .ref 20, .int 0, .int 0, .int 2147483647, .long 0, .int 0]), x_it 2304 (fun _ => 0), x_it 2304 (fun _ => 0), x_it 31 (fun _ => 0), x_it 48 (fun _ => 0), x_it 10 (fun _ => 0), x_it 10 (fun _ => 0), .inr (2, [.ref 22]), x_lg 24 (fun _ => 0), x_it 24 (fun _ => 0), x_it 24 (fun _ => 0)] ++ M : mm_H)) (x_N s) ?_ ?_
      · skip
        refine mm_E.s rfl rfl rfl (fun _ => rfl) ?_
        refine mm_E.s rfl rfl rfl (fun _ => if_pos hok.2.1) ?_
        refine mm_E.s rfl rfl rfl (fun _ => rfl) ?_
        refine mm_E.iv rfl rfl rfl rfl rfl rfl (z_num1 hnb) ?_
        refine mm_E.s rfl rfl rfl (fun _ => rfl) ?_
        exact mm_E.ret rfl rfl rfl
      · intro t ht ih
        refine mm_E.s rfl rfl rfl (fun _ => rfl) ?_
        refine mm_E.s rfl rfl rfl (fun _ => if_neg (hok.1 t ht).1) ?_
        refine mm_E.s rfl rfl rfl (fun _ => rfl) ?_
        refine mm_E.gf rfl rfl rfl rfl rfl ?_
        refine mm_E.s rfl rfl rfl (fun _ => rfl) ?_
        refine mm_E.s rfl rfl rfl (fun _ => rfl) ?_
        refine mm_E.is rfl rfl rfl (hok.1 t ht).2.1 rfl ?_
        refine mm_E.s rfl rfl rfl (fun _ => rfl) ?_
        refine mm_E.s rfl rfl rfl (fun _ => rfl) ?_
        refine mm_E.s rfl rfl rfl (fun _ => rfl) ?_
        refine mm_E.s rfl rfl rfl (fun _ => rfl) ?_
        refine mm_E.s rfl rfl rfl (fun _ => rfl) ?_
        refine mm_E.s rfl rfl rfl (fun _ => rfl) ?_
        refine mm_E.s rfl rfl rfl (fun _ => rfl) ?_
        exact ih
    · intro k hk ih
      rw [← nI_1] at ih
      refine mm_E.s rfl rfl rfl (fun _ => rfl) ?_
      refine mm_E.s rfl rfl rfl (fun _ => rfl) ?_
      refine mm_E.s rfl rfl rfl (fun _ => if_neg (nI_ge (a := k) (b := 4) (by omega) (by decide))) ?_
      refine mm_E.s rfl rfl rfl (fun _ => rfl) ?_
      refine mm_E.gf rfl rfl rfl rfl rfl ?_
      refine mm_E.s rfl rfl rfl (fun _ => rfl) ?_
      refine mm_E.ia rfl rfl rfl (mm_bd (by omega) (by decide)) (v := 0) rfl ?_
      refine mm_E.s rfl rfl rfl (fun _ => rfl) ?_
      refine mm_E.gf rfl rfl rfl rfl rfl ?_
      refine mm_E.s rfl rfl rfl (fun _ => rfl) ?_
      refine mm_E.ia rfl rfl rfl (mm_bd (by omega) (by decide)) (v := (x_gr s x_G0 (x_N s)) k) (by rw [mm_cl (by omega)]) ?_
      refine mm_E.s rfl rfl rfl (fun _ => rfl) ?_
      refine mm_E.s rfl rfl rfl (fun _ => rfl) ?_
      refine mm_E.s rfl rfl rfl (fun _ => if_pos (hok.2.2.1 k hk)) ?_
      refine mm_E.s rfl rfl rfl (fun _ => rfl) ?_
      refine mm_E.s rfl rfl rfl (fun _ => rfl) ?_
      refine mm_E.gf rfl rfl rfl rfl rfl ?_
      refine mm_E.s rfl rfl rfl (fun _ => rfl) ?_
      refine mm_E.ia rfl rfl rfl (mm_bd (by omega) (by decide)) (v := (x_gr s x_G0 (x_N s)) k) (by rw [mm_cl (by omega)]) ?_
      refine mm_E.s rfl rfl rfl (fun _ => rfl) ?_
      refine mm_E.s rfl rfl rfl (fun _ => rfl) ?_
      refine mm_E.s rfl rfl rfl (fun _ => rfl) ?_
      refine mm_E.s rfl rfl rfl (fun _ => rfl) ?_
      exact ih
  · intro t ht ih
    refine mm_E.s rfl rfl rfl (fun _ => rfl) ?_
    refine mm_E.s rfl rfl rfl (fun _ => if_neg (hok.1 t ht).1) ?_
    refine mm_E.s rfl rfl rfl (fun _ => rfl) ?_
    refine mm_E.gf rfl rfl rfl rfl rfl ?_
    refine mm_E.s rfl rfl rfl (fun _ => rfl) ?_
    refine mm_E.ia rfl rfl rfl (hok.1 t ht).2.1 (v := -1) (x_P0_at (hok.1 t ht).2.1) ?_
    refine mm_E.s rfl rfl rfl (fun _ => rfl) ?_
    refine mm_E.s rfl rfl rfl (fun _ => rfl) ?_
    refine mm_E.s rfl rfl rfl (fun _ => rfl) ?_
    refine mm_E.gf rfl rfl rfl rfl rfl ?_
    refine mm_E.s rfl rfl rfl (fun _ => rfl) ?_
    refine mm_E.ic rfl rfl rfl rfl rfl (z_dm _) ?_
    refine mm_E.s rfl rfl rfl (fun _ => rfl) ?_
    refine mm_E.ia rfl rfl rfl (hok.1 t ht).2.2 rfl ?_
    refine mm_E.s rfl rfl rfl (fun _ => rfl) ?_
    refine mm_E.s rfl rfl rfl (fun _ => rfl) ?_
    refine mm_E.is rfl rfl rfl (hok.1 t ht).2.2 rfl ?_
    refine mm_E.s rfl rfl rfl (fun _ => rfl) ?_
    refine mm_E.s rfl rfl rfl (fun _ => rfl) ?_
    refine mm_E.s rfl rfl rfl (fun _ => rfl) ?_
    refine mm_E.s rfl rfl rfl (fun _ => rfl) ?_
    refine mm_E.s rfl rfl rfl (fun _ => rfl) ?_
    refine mm_E.s rfl rfl rfl (fun _ => rfl) ?_
    refine mm_E.s rfl rfl rfl (fun _ => rfl) ?_
    exact ih

theorem z_add1 {M : mm_H} (hM : x_eM M) {s : Nat} (hs1 : 1 ≤ s) (hs : s < 256) (h4 : x_bc (nI s) ≤ 4) (hok : x_ok s) : ∃ h', mm_EC kM 34 [.ref 0, .int 1, .int (nI s)] ([.inr (3, [.ref 1, .ref 7, .ref 13, .ref 14, .ref 21, .ref 23, .ref 24]), .inr (0, [.ref 2, .ref 3, .ref 4, .ref 5, .ref 6]), x_it 256 x_P0, x_it 256 (fun _ => 0), x_it 4 (fun _ => 0), x_it 96 (fun _ => 0), x_it 4 (fun _ => 0), .inr (0, [.ref 8, .ref 9, .ref 10, .ref 11, .ref 12]), x_it 256 x_P0, x_it 256 (fun _ => 0), x_it 4 (fun _ => 0), x_it 96 (fun _ => 0), x_it 4 (fun _ => 0), x_it 8 (x_idn 8), .inr (1, [.ref 15, .ref 16, .ref 17, .ref 18, .ref 19, .ref 20, .int 0, .int 0, .int 2147483647, .long 0, .int 0]), x_it 2304 (fun _ => 0), x_it 2304 (fun _ => 0), x_it 31 (fun _ => 0), x_it 48 (fun _ => 0), x_it 10 (fun _ => 0), x_it 10 (fun _ => 0), .inr (2, [.ref 22]), x_lg 24 (fun _ => 0), x_it 24 (fun _ => 0), x_it 24 (fun _ => 0)] ++ M : mm_H) (some (.int (x_mr s s)), h') ∧ x_em h' 0 0 0 := by
  have hE := z_fresh hM
  refine ⟨_, ⟨kq_34, rfl, rfl, ?_⟩, hM [.inr (3, [.ref 1, .ref 7, .ref 13, .ref 14, .ref 21, .ref 23, .ref 24]), .inr (0, [.ref 2, .ref 3, .ref 4, .ref 5, .ref 6]), x_it 256 x_P0, x_it 256 (fun _ => 0), x_it 4 (fun _ => 0), x_it 96 (fun _ => 0), x_it 4 (fun _ => 0), .inr (0, [.ref 8, .ref 9, .ref 10, .ref 11, .ref 12]), x_it 256 (x_na (x_pp s x_P0 (x_N s)) (x_fill (fun _ => 0) 0 4) (fun _ => 0) 255).1, x_it 256 (fun _ => 0), x_it 4 (x_na (x_pp s x_P0 (x_N s)) (x_fill (fun _ => 0) 0 4) (fun _ => 0) 255).2.1, x_it 96 (x_na (x_pp s x_P0 (x_N s)) (x_fill (fun _ => 0) 0 4) (fun _ => 0) 255).2.2, x_it 4 (x_gr s x_G0 (x_N s)), x_it 8 (x_idn 8), .inr (1, [.ref 15, .ref 16, .ref 17, .ref 18, .ref 19, .ref 20, .int 0, .int 0, .int 2147483647, .long 0, .int 0]), x_it 2304 (fun _ => 0), x_it 2304 (fun _ => 0), x_it 31 (fun _ => 0), x_it 48 (fun _ => 0), x_it 10 (fun _ => 0), x_it 10 (fun _ => 0), .inr (2, [.ref 22]), x_lg 24 (fun _ => 0), x_it 24 (fun _ => 0), x_it 24 (fun _ => 0)] rfl⟩
  refine mm_E.s rfl rfl rfl (fun _ => rfl) ?_
  refine mm_E.s rfl rfl rfl (fun _ => rfl) ?_
  refine mm_E.iv rfl rfl rfl rfl rfl rfl (z_cx1 hE) ?_
  refine mm_E.s rfl rfl rfl (fun _ => rfl) ?_
  refine mm_E.s rfl rfl rfl (fun _ => rfl) ?_
  refine mm_E.s rfl rfl rfl (fun _ => rfl) ?_
  refine mm_E.s rfl rfl rfl (fun _ => rfl) ?_
  refine mm_E.s rfl rfl rfl (fun _ => rfl) ?_
  refine mm_E.s rfl rfl rfl (fun _ => if_neg (nI_nlt (a := s) (b := 1) (by omega) (by omega))) ?_
  refine mm_E.s rfl rfl rfl (fun _ => rfl) ?_
  refine mm_E.s rfl rfl rfl (fun _ => rfl) ?_
  refine mm_E.s rfl rfl rfl (fun _ => if_neg (nI_ge (a := s) (b := 256) (by omega) (by decide))) ?_
  refine mm_E.s rfl rfl rfl (fun _ => rfl) ?_
  refine mm_E.ic rfl rfl rfl rfl rfl (z_bc _) ?_
  refine mm_E.s rfl rfl rfl (fun _ => rfl) ?_
  refine mm_E.s rfl rfl rfl (fun _ => if_pos h4) ?_
  refine mm_E.s rfl rfl rfl (fun _ => rfl) ?_
  refine mm_E.s rfl rfl rfl (fun _ => rfl) ?_
  refine mm_E.iv rfl rfl rfl rfl rfl rfl (z_inc1 hs1 hs hok) ?_
  exact mm_E.ret rfl rfl rfl

theorem z_addB {h : mm_H} {ro co : Int32} {mi : Int64} {ki : Int32} (hE : x_e0 h ro co mi ki) {c s : Int32} (hb : ¬ ((c = 0 ∨ c = 1) ∧ ¬ s < 1 ∧ ¬ 256 ≤ s ∧ x_bc s ≤ 4)) : mm_EC kM 34 [.ref 0, .int c, .int s] h (some (.int (-1)), h) := by
  obtain ⟨fx, hx, hx1, hx7, hx14, hx21⟩ := z_x0 hE
  refine ⟨kq_34, rfl, rfl, ?_⟩
  by_cases hc : c = 0 ∨ c = 1
  · by_cases h1 : s < 1
    · rcases hc with rfl | rfl
      · skip
        refine mm_E.s rfl rfl rfl (fun _ => rfl) ?_
        refine mm_E.s rfl rfl rfl (fun _ => rfl) ?_
        refine mm_E.iv rfl rfl rfl rfl hx rfl (z_cx0 hE) ?_
        refine mm_E.s rfl rfl rfl (fun _ => rfl) ?_
        refine mm_E.s rfl rfl rfl (fun _ => rfl) ?_
        refine mm_E.s rfl rfl rfl (fun _ => rfl) ?_
        refine mm_E.s rfl rfl rfl (fun _ => rfl) ?_
        refine mm_E.s rfl rfl rfl (fun _ => rfl) ?_
        refine mm_E.s rfl rfl rfl (fun _ => if_pos h1) ?_
        refine mm_E.s rfl rfl rfl (fun _ => rfl) ?_
        exact mm_E.ret rfl rfl rfl
      · skip
        refine mm_E.s rfl rfl rfl (fun _ => rfl) ?_
        refine mm_E.s rfl rfl rfl (fun _ => rfl) ?_
        refine mm_E.iv rfl rfl rfl rfl hx rfl (z_cx1 hE) ?_
        refine mm_E.s rfl rfl rfl (fun _ => rfl) ?_
        refine mm_E.s rfl rfl rfl (fun _ => rfl) ?_
        refine mm_E.s rfl rfl rfl (fun _ => rfl) ?_
        refine mm_E.s rfl rfl rfl (fun _ => rfl) ?_
        refine mm_E.s rfl rfl rfl (fun _ => rfl) ?_
        refine mm_E.s rfl rfl rfl (fun _ => if_pos h1) ?_
        refine mm_E.s rfl rfl rfl (fun _ => rfl) ?_
        exact mm_E.ret rfl rfl rfl
    · by_cases h2 : 256 ≤ s
      · rcases hc with rfl | rfl
        · skip
          refine mm_E.s rfl rfl rfl (fun _ => rfl) ?_
          refine mm_E.s rfl rfl rfl (fun _ => rfl) ?_
          refine mm_E.iv rfl rfl rfl rfl hx rfl (z_cx0 hE) ?_
          refine mm_E.s rfl rfl rfl (fun _ => rfl) ?_
          refine mm_E.s rfl rfl rfl (fun _ => rfl) ?_
          refine mm_E.s rfl rfl rfl (fun _ => rfl) ?_
          refine mm_E.s rfl rfl rfl (fun _ => rfl) ?_
          refine mm_E.s rfl rfl rfl (fun _ => rfl) ?_
          refine mm_E.s rfl rfl rfl (fun _ => if_neg h1) ?_
          refine mm_E.s rfl rfl rfl (fun _ => rfl) ?_
          refine mm_E.s rfl rfl rfl (fun _ => rfl) ?_
          refine mm_E.s rfl rfl rfl (fun _ => if_pos h2) ?_
          refine mm_E.s rfl rfl rfl (fun _ => rfl) ?_
          exact mm_E.ret rfl rfl rfl
        · skip
          refine mm_E.s rfl rfl rfl (fun _ => rfl) ?_
          refine mm_E.s rfl rfl rfl (fun _ => rfl) ?_
          refine mm_E.iv rfl rfl rfl rfl hx rfl (z_cx1 hE) ?_
          refine mm_E.s rfl rfl rfl (fun _ => rfl) ?_
          refine mm_E.s rfl rfl rfl (fun _ => rfl) ?_
          refine mm_E.s rfl rfl rfl (fun _ => rfl) ?_
          refine mm_E.s rfl rfl rfl (fun _ => rfl) ?_
          refine mm_E.s rfl rfl rfl (fun _ => rfl) ?_
          refine mm_E.s rfl rfl rfl (fun _ => if_neg h1) ?_
          refine mm_E.s rfl rfl rfl (fun _ => rfl) ?_
          refine mm_E.s rfl rfl rfl (fun _ => rfl) ?_
          refine mm_E.s rfl rfl rfl (fun _ => if_pos h2) ?_
          refine mm_E.s rfl rfl rfl (fun _ => rfl) ?_
          exact mm_E.ret rfl rfl rfl
      · have h4 : ¬ x_bc s ≤ 4 := fun q => hb ⟨hc, h1, h2, q⟩
        rcases hc with rfl | rfl
        · skip
          refine mm_E.s rfl rfl rfl (fun _ => rfl) ?_
          refine mm_E.s rfl rfl rfl (fun _ => rfl) ?_
          refine mm_E.iv rfl rfl rfl rfl hx rfl (z_cx0 hE) ?_
          refine mm_E.s rfl rfl rfl (fun _ => rfl) ?_
          refine mm_E.s rfl rfl rfl (fun _ => rfl) ?_
          refine mm_E.s rfl rfl rfl (fun _ => rfl) ?_
          refine mm_E.s rfl rfl rfl (fun _ => rfl) ?_
          refine mm_E.s rfl rfl rfl (fun _ => rfl) ?_
          refine mm_E.s rfl rfl rfl (fun _ => if_neg h1) ?_
          refine mm_E.s rfl rfl rfl (fun _ => rfl) ?_
          refine mm_E.s rfl rfl rfl (fun _ => rfl) ?_
          refine mm_E.s rfl rfl rfl (fun _ => if_neg h2) ?_
          refine mm_E.s rfl rfl rfl (fun _ => rfl) ?_
          refine mm_E.ic rfl rfl rfl rfl rfl (z_bc _) ?_
          refine mm_E.s rfl rfl rfl (fun _ => rfl) ?_
          refine mm_E.s rfl rfl rfl (fun _ => if_neg h4) ?_
          refine mm_E.s rfl rfl rfl (fun _ => rfl) ?_
          exact mm_E.ret rfl rfl rfl
        · skip
          refine mm_E.s rfl rfl rfl (fun _ => rfl) ?_
          refine mm_E.s rfl rfl rfl (fun _ => rfl) ?_
          refine mm_E.iv rfl rfl rfl rfl hx rfl (z_cx1 hE) ?_
          refine mm_E.s rfl rfl rfl (fun _ => rfl) ?_
          refine mm_E.s rfl rfl rfl (fun _ => rfl) ?_
          refine mm_E.s rfl rfl rfl (fun _ => rfl) ?_
          refine mm_E.s rfl rfl rfl (fun _ => rfl) ?_
          refine mm_E.s rfl rfl rfl (fun _ => rfl) ?_
          refine mm_E.s rfl rfl rfl (fun _ => if_neg h1) ?_
          refine mm_E.s rfl rfl rfl (fun _ => rfl) ?_
          refine mm_E.s rfl rfl rfl (fun _ => rfl) ?_
          refine mm_E.s rfl rfl rfl (fun _ => if_neg h2) ?_
          refine mm_E.s rfl rfl rfl (fun _ => rfl) ?_
          refine mm_E.ic rfl rfl rfl rfl rfl (z_bc _) ?_
          refine mm_E.s rfl rfl rfl (fun _ => rfl) ?_
          refine mm_E.s rfl rfl rfl (fun _ => if_neg h4) ?_
          refine mm_E.s rfl rfl rfl (fun _ => rfl) ?_
          exact mm_E.ret rfl rfl rfl
  · skip
    refine mm_E.s rfl rfl rfl (fun _ => rfl) ?_
    refine mm_E.s rfl rfl rfl (fun _ => rfl) ?_
    refine mm_E.iv rfl rfl rfl rfl hx rfl (z_cxN hE hc) ?_
    refine mm_E.s rfl rfl rfl (fun _ => rfl) ?_
    refine mm_E.s rfl rfl rfl (fun _ => rfl) ?_
    refine mm_E.s rfl rfl rfl (fun _ => rfl) ?_
    refine mm_E.s rfl rfl rfl (fun _ => rfl) ?_
    exact mm_E.ret rfl rfl rfl
end
section
theorem x_test : x_ok 170 := by decide +kernel
end
