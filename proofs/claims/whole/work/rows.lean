section
/-! THE SMALL MACHINE (mm_): the methods, without making of cells. A run of it (a pure function) is a walk of the real machine: mm_W, mm_Met. Cells are numbered; a reference of the small machine is a number of a cell; 'retAddr' stands for the script. -/
abbrev mm_C : Type := (FieldType × vp_A) ⊕ (Nat × List Value)
abbrev mm_H : Type := List mm_C
abbrev mm_L : Type := List (Option Value)
abbrev mm_R : Type := Nat × mm_L × List Value × mm_H
/-- what a number of the pool is: a field (kind, place, its type where it is written), a constant, a call (method, parameters, kind of the receiver) -/
abbrev mm_K : Type := (Nat × Nat × Option FieldType) ⊕ Value ⊕ (Nat × Nat × Option Nat)
/-- an instruction, the place behind it, its targets -/
abbrev mm_I : Type := Jvm.ClassFile.Instr × Nat × List Nat
/-- a method: instructions by their places, pool, locals, what it answers -/
abbrev mm_M : Type := List (Option mm_I) × List (Nat × mm_K) × Nat × Option FieldType
abbrev mm_X : Type := Option (Nat × (Nat → Int32))
def mm_nth {α : Type} : List α → Nat → Option α
  | [], _ => none
  | x :: _, 0 => some x
  | _ :: l, n + 1 => mm_nth l n
def mm_put {α : Type} : List α → Nat → α → Option (List α)
  | [], _, _ => none
  | _ :: l, 0, v => some (v :: l)
  | x :: l, n + 1, v => match mm_put l n v with
    | some l' => some (x :: l')
    | none => none
def mm_look : List (Nat × mm_K) → Nat → Option mm_K
  | [], _ => none
  | x :: l, i => match Nat.beq x.1 i with
    | true => some x.2
    | false => mm_look l i
def mm_cut1 (L : mm_L) (j : Nat) : mm_L := match mm_nth L j with
  | some (some (.long _)) => L.set j none
  | some (some (.double _)) => L.set j none
  | _ => L
def mm_cut (L : mm_L) (i : Nat) : mm_L := match i with
  | 0 => L
  | j + 1 => mm_cut1 L j
def mm_st1 (L : mm_L) (i : Nat) (v : Value) : Option mm_L := mm_put (mm_cut L i) i (some v)
def mm_st2 (L : mm_L) (i : Nat) (v : Value) : Option mm_L := match mm_put (mm_cut L i) (i + 1) none with
  | some L1 => mm_put L1 i (some v)
  | none => none
def mm_go (nx : Nat) (L : mm_L) (st : List Value) (h : mm_H) : Option mm_R := some (nx, L, st, h)
def mm_ild (nx : Nat) (L : mm_L) (st : List Value) (h : mm_H) (i : Nat) : Option mm_R := match mm_nth L i with
  | some (some (.int x)) => mm_go nx L (.int x :: st) h
  | _ => none
def mm_lld (nx : Nat) (L : mm_L) (st : List Value) (h : mm_H) (i : Nat) : Option mm_R := match mm_nth L i with
  | some (some (.long x)) => mm_go nx L (.long x :: st) h
  | _ => none
def mm_rld (nx : Nat) (L : mm_L) (st : List Value) (h : mm_H) (i : Nat) : Option mm_R := match mm_nth L i with
  | some (some (.ref x)) => mm_go nx L (.ref x :: st) h
  | some (some .null) => mm_go nx L (.null :: st) h
  | some (some (.retAddr x)) => mm_go nx L (.retAddr x :: st) h
  | _ => none
def mm_goL (nx : Nat) (o : Option mm_L) (st : List Value) (h : mm_H) : Option mm_R := match o with
  | some L => mm_go nx L st h
  | none => none
def mm_ist (nx : Nat) (L : mm_L) (st : List Value) (h : mm_H) (i : Nat) : Option mm_R := match st with
  | .int x :: r => mm_goL nx (mm_st1 L i (.int x)) r h
  | _ => none
def mm_lst (nx : Nat) (L : mm_L) (st : List Value) (h : mm_H) (i : Nat) : Option mm_R := match st with
  | .long x :: r => mm_goL nx (mm_st2 L i (.long x)) r h
  | _ => none
def mm_rst (nx : Nat) (L : mm_L) (st : List Value) (h : mm_H) (i : Nat) : Option mm_R := match st with
  | .ref x :: r => mm_goL nx (mm_st1 L i (.ref x)) r h
  | .null :: r => mm_goL nx (mm_st1 L i .null) r h
  | _ => none
def mm_inc (nx : Nat) (L : mm_L) (st : List Value) (h : mm_H) (i : Nat) (d : Int32) : Option mm_R := match mm_nth L i with
  | some (some (.int x)) => mm_goL nx (mm_st1 L i (.int (x + d))) st h
  | _ => none
def mm_ii (nx : Nat) (L : mm_L) (st : List Value) (h : mm_H) (f : Int32 → Int32 → Int32) : Option mm_R := match st with
  | .int y :: .int x :: r => mm_go nx L (.int (f x y) :: r) h
  | _ => none
def mm_ll (nx : Nat) (L : mm_L) (st : List Value) (h : mm_H) (f : Int64 → Int64 → Int64) : Option mm_R := match st with
  | .long y :: .long x :: r => mm_go nx L (.long (f x y) :: r) h
  | _ => none
def mm_iz (nx : Nat) (L : mm_L) (st : List Value) (h : mm_H) (f : Int32 → Int32 → Int32) : Option mm_R := match st with
  | .int y :: .int x :: r => if y = 0 then none else mm_go nx L (.int (f x y) :: r) h
  | _ => none
def mm_lz (nx : Nat) (L : mm_L) (st : List Value) (h : mm_H) (f : Int64 → Int64 → Int64) : Option mm_R := match st with
  | .long y :: .long x :: r => if y = 0 then none else mm_go nx L (.long (f x y) :: r) h
  | _ => none
def mm_li (nx : Nat) (L : mm_L) (st : List Value) (h : mm_H) (f : Int64 → Int32 → Int64) : Option mm_R := match st with
  | .int y :: .long x :: r => mm_go nx L (.long (f x y) :: r) h
  | _ => none
def mm_br {α : Type} (c : Jvm.ClassFile.Cond) (x y : Int32) (a b : α) : α := match c with
  | .eq => if x = y then a else b
  | .ne => if x = y then b else a
  | .lt => if x < y then a else b
  | .ge => if y ≤ x then a else b
  | .gt => if y < x then a else b
  | .le => if x ≤ y then a else b
def mm_to (tg : List Nat) (L : mm_L) (st : List Value) (h : mm_H) : Option mm_R := match tg with
  | [t] => mm_go t L st h
  | _ => none
def mm_nul (nx : Nat) (tg : List Nat) (L : mm_L) (st : List Value) (h : mm_H) : Option mm_R := match st with
  | .null :: r => mm_to tg L r h
  | .ref _ :: r => mm_go nx L r h
  | _ => none
def mm_nnl (nx : Nat) (tg : List Nat) (L : mm_L) (st : List Value) (h : mm_H) : Option mm_R := match st with
  | .ref _ :: r => mm_to tg L r h
  | .null :: r => mm_go nx L r h
  | _ => none
def mm_iald (scr : mm_X) (nx : Nat) (L : mm_L) (st : List Value) (h : mm_H) : Option mm_R := match st with
  | .int i :: .ref a :: r => (match mm_nth h a with
    | some (.inl (.int, n, .inl f)) => if 0 ≤ i.toInt ∧ i.toInt < (n : Int) then mm_go nx L (.int (f i.toNatClampNeg) :: r) h else none
    | _ => none)
  | .int i :: .retAddr _ :: r => (match scr with
    | some (n, f) => if 0 ≤ i.toInt ∧ i.toInt < (n : Int) then mm_go nx L (.int (f i.toNatClampNeg) :: r) h else none
    | none => none)
  | _ => none
def mm_lald (nx : Nat) (L : mm_L) (st : List Value) (h : mm_H) : Option mm_R := match st with
  | .int i :: .ref a :: r => (match mm_nth h a with
    | some (.inl (.long, n, .inr (.inl f))) => if 0 ≤ i.toInt ∧ i.toInt < (n : Int) then mm_go nx L (.long (f i.toNatClampNeg) :: r) h else none
    | _ => none)
  | _ => none
def mm_zald (nx : Nat) (L : mm_L) (st : List Value) (h : mm_H) : Option mm_R := match st with
  | .int i :: .ref a :: r => (match mm_nth h a with
    | some (.inl (.boolean, n, .inl f)) => if 0 ≤ i.toInt ∧ i.toInt < (n : Int) then mm_go nx L (.int (f i.toNatClampNeg) :: r) h else none
    | _ => none)
  | _ => none
def mm_goH (nx : Nat) (L : mm_L) (st : List Value) (o : Option mm_H) : Option mm_R := match o with
  | some h => mm_go nx L st h
  | none => none
def mm_iast (nx : Nat) (L : mm_L) (st : List Value) (h : mm_H) : Option mm_R := match st with
  | .int x :: .int i :: .ref a :: r => (match mm_nth h a with
    | some (.inl (.int, n, .inl f)) => if 0 ≤ i.toInt ∧ i.toInt < (n : Int) then mm_goH nx L r (mm_put h a (.inl (.int, n, .inl (upd f i.toNatClampNeg x)))) else none
    | _ => none)
  | _ => none
def mm_last (nx : Nat) (L : mm_L) (st : List Value) (h : mm_H) : Option mm_R := match st with
  | .long x :: .int i :: .ref a :: r => (match mm_nth h a with
    | some (.inl (.long, n, .inr (.inl f))) => if 0 ≤ i.toInt ∧ i.toInt < (n : Int) then mm_goH nx L r (mm_put h a (.inl (.long, n, .inr (.inl (vp_updL f i.toNatClampNeg x))))) else none
    | _ => none)
  | _ => none
def mm_zast (nx : Nat) (L : mm_L) (st : List Value) (h : mm_H) : Option mm_R := match st with
  | .int x :: .int i :: .ref a :: r => (match mm_nth h a with
    | some (.inl (.boolean, n, .inl f)) => if 0 ≤ i.toInt ∧ i.toInt < (n : Int) then mm_goH nx L r (mm_put h a (.inl (.boolean, n, .inl (upd f i.toNatClampNeg (vp_nar .boolean x))))) else none
    | _ => none)
  | _ => none
def mm_len (scr : mm_X) (nx : Nat) (L : mm_L) (st : List Value) (h : mm_H) : Option mm_R := match st with
  | .ref a :: r => (match mm_nth h a with
    | some (.inl (_, n, _)) => mm_go nx L (.int (Int32.ofNat n) :: r) h
    | _ => none)
  | .retAddr _ :: r => (match scr with
    | some (n, _) => mm_go nx L (.int (Int32.ofNat n) :: r) h
    | none => none)
  | _ => none
def mm_gfd (nx : Nat) (L : mm_L) (st : List Value) (h : mm_H) (q : Nat × Nat × Option FieldType) : Option mm_R := match st with
  | .ref a :: r => (match mm_nth h a with
    | some (.inr (ci, fs)) => (match Nat.beq ci q.1 with
      | true => (match mm_nth fs q.2.1 with
        | some v => mm_go nx L (v :: r) h
        | none => none)
      | false => none)
    | _ => none)
  | _ => none
def mm_pfd1 (nx : Nat) (L : mm_L) (r : List Value) (h : mm_H) (q : Nat × Nat × Option FieldType) (a : Nat) (v : Value) : Option mm_R := match mm_nth h a with
  | some (.inr (ci, fs)) => (match Nat.beq ci q.1 with
    | true => (match mm_put fs q.2.1 v with
      | some fs' => mm_goH nx L r (mm_put h a (.inr (ci, fs')))
      | none => none)
    | false => none)
  | _ => none
def mm_pfd (nx : Nat) (L : mm_L) (st : List Value) (h : mm_H) (q : Nat × Nat × Option FieldType) : Option mm_R := match q.2.2, st with
  | some .int, .int x :: .ref a :: r => mm_pfd1 nx L r h q a (.int x)
  | some .long, .long x :: .ref a :: r => mm_pfd1 nx L r h q a (.long x)
  | _, _ => none
def mm_take : Nat → List Value → List Value → Option (List Value × List Value)
  | 0, acc, st => some (acc, st)
  | n + 1, acc, v :: st => mm_take n (v :: acc) st
  | _ + 1, _, [] => none
def mm_cat : List Value → Nat
  | [] => 0
  | v :: r => v.category + mm_cat r
def mm_back (nx : Nat) (L : mm_L) (r : List Value) (o : Option (Option Value × mm_H)) : Option mm_R := match o with
  | some (some v, h) => mm_go nx L (v :: r) h
  | some (none, h) => mm_go nx L r h
  | none => none
def mm_cv1 (call : Nat → List Value → mm_H → Option (Option Value × mm_H)) (nx : Nat) (L : mm_L) (h : mm_H) (k ci : Nat) (As r : List Value) : Option mm_R := match r with
  | .ref b :: r' => (match mm_nth h b with
    | some (.inr (cj, _)) => (match Nat.beq cj ci, Nat.ble (mm_cat r') 8 with
      | true, true => mm_back nx L r' (call k (.ref b :: As) h)
      | _, _ => none)
    | _ => none)
  | _ => none
def mm_cs1 (call : Nat → List Value → mm_H → Option (Option Value × mm_H)) (nx : Nat) (L : mm_L) (h : mm_H) (k : Nat) (As r : List Value) : Option mm_R := match Nat.ble (mm_cat r) 8 with
  | true => mm_back nx L r (call k As h)
  | false => none
def mm_ivv (call : Nat → List Value → mm_H → Option (Option Value × mm_H)) (nx : Nat) (L : mm_L) (st : List Value) (h : mm_H) (q : Nat × Nat × Option Nat) : Option mm_R := match q.2.2, mm_take q.2.1 [] st with
  | some ci, some (As, r) => mm_cv1 call nx L h q.1 ci As r
  | _, _ => none
def mm_ivs (call : Nat → List Value → mm_H → Option (Option Value × mm_H)) (nx : Nat) (L : mm_L) (st : List Value) (h : mm_H) (q : Nat × Nat × Option Nat) : Option mm_R := match q.2.2, mm_take q.2.1 [] st with
  | none, some (As, r) => mm_cs1 call nx L h q.1 As r
  | _, _ => none
def mm_ret (ret : Option FieldType) (ins : Jvm.ClassFile.Instr) (st : List Value) : Option (Option Value) := match ins with
  | .ireturn => (match ret, st with
    | some .int, [.int x] => some (some (.int x))
    | some .boolean, [.int x] => if vp_nar .boolean x = x then some (some (.int x)) else none
    | _, _ => none)
  | .areturn => (match ret, st with
    | some (.object _), [.ref x] => some (some (.ref x))
    | some (.object _), [.null] => some (some .null)
    | _, _ => none)
  | .lreturn => (match ret, st with
    | some .long, [.long x] => some (some (.long x))
    | _, _ => none)
  | .return_ => (match ret, st with
    | none, [] => some none
    | _, _ => none)
  | _ => none
def mm_tsw (lo hi : Int) (tg : List Nat) (L : mm_L) (st : List Value) (h : mm_H) : Option mm_R := match st, tg with
  | .int x :: r, t :: ts => if x.toInt < lo ∨ hi < x.toInt then mm_go t L r h else (match mm_nth ts (x.toInt - lo).toNat with
    | some t' => mm_go t' L r h
    | none => none)
  | _, _ => none
def mm_ex (call : Nat → List Value → mm_H → Option (Option Value × mm_H)) (scr : mm_X) (pool : List (Nat × mm_K)) (ins : Jvm.ClassFile.Instr) (nx : Nat) (tg : List Nat) (L : mm_L) (st : List Value) (h : mm_H) : Option mm_R := match ins with
  | .iconst n => mm_go nx L (.int (Int32.ofInt n) :: st) h
  | .bipush n => mm_go nx L (.int (Int8.ofInt n).toInt32 :: st) h
  | .sipush n => mm_go nx L (.int (Int16.ofInt n).toInt32 :: st) h
  | .lconst n => mm_go nx L (.long (Int64.ofNat n.val) :: st) h
  | .aconst_null => mm_go nx L (.null :: st) h
  | .ldc i => (match mm_look pool i with
    | some (.inr (.inl (.int v))) => mm_go nx L (.int v :: st) h
    | _ => none)
  | .ldc_w i => (match mm_look pool i with
    | some (.inr (.inl (.int v))) => mm_go nx L (.int v :: st) h
    | _ => none)
  | .ldc2_w i => (match mm_look pool i with
    | some (.inr (.inl (.long v))) => mm_go nx L (.long v :: st) h
    | _ => none)
  | .iload_n k => mm_ild nx L st h k.val
  | .iload i => mm_ild nx L st h i
  | .lload_n k => mm_lld nx L st h k.val
  | .lload i => mm_lld nx L st h i
  | .aload_n k => mm_rld nx L st h k.val
  | .aload i => mm_rld nx L st h i
  | .istore_n k => mm_ist nx L st h k.val
  | .istore i => mm_ist nx L st h i
  | .lstore_n k => mm_lst nx L st h k.val
  | .lstore i => mm_lst nx L st h i
  | .astore_n k => mm_rst nx L st h k.val
  | .astore i => mm_rst nx L st h i
  | .iinc i n => mm_inc nx L st h i (Int32.ofInt n)
  | .iadd => mm_ii nx L st h (fun x y => x + y)
  | .isub => mm_ii nx L st h (fun x y => x - y)
  | .imul => mm_ii nx L st h (fun x y => x * y)
  | .iand => mm_ii nx L st h (fun x y => x &&& y)
  | .ior => mm_ii nx L st h (fun x y => x ||| y)
  | .ixor => mm_ii nx L st h (fun x y => x ^^^ y)
  | .ishl => mm_ii nx L st h (fun x y => x <<< (y &&& 31))
  | .ishr => mm_ii nx L st h (fun x y => x >>> (y &&& 31))
  | .iushr => mm_ii nx L st h (fun x y => (x.toUInt32 >>> (y.toUInt32 &&& Int32.toUInt32 31)).toInt32)
  | .idiv => mm_iz nx L st h (fun x y => x / y)
  | .irem => mm_iz nx L st h (fun x y => x - x / y * y)
  | .ineg => (match st with
    | .int x :: r => mm_go nx L (.int (-x) :: r) h
    | _ => none)
  | .ladd => mm_ll nx L st h (fun x y => x + y)
  | .lsub => mm_ll nx L st h (fun x y => x - y)
  | .lmul => mm_ll nx L st h (fun x y => x * y)
  | .land => mm_ll nx L st h (fun x y => x &&& y)
  | .lor => mm_ll nx L st h (fun x y => x ||| y)
  | .lxor => mm_ll nx L st h (fun x y => x ^^^ y)
  | .ldiv => mm_lz nx L st h (fun x y => x / y)
  | .lrem => mm_lz nx L st h (fun x y => x - x / y * y)
  | .lshl => mm_li nx L st h (fun x y => x <<< (y.toInt64 &&& 63))
  | .lshr => mm_li nx L st h (fun x y => x >>> (y.toInt64 &&& 63))
  | .lneg => (match st with
    | .long x :: r => mm_go nx L (.long (-x) :: r) h
    | _ => none)
  | .lcmp => (match st with
    | .long y :: .long x :: r => mm_go nx L (.int (lg_cmp x y) :: r) h
    | _ => none)
  | .i2l => (match st with
    | .int x :: r => mm_go nx L (.long x.toInt64 :: r) h
    | _ => none)
  | .l2i => (match st with
    | .long x :: r => mm_go nx L (.int x.toInt32 :: r) h
    | _ => none)
  | .dup => (match st with
    | .int x :: r => mm_go nx L (.int x :: .int x :: r) h
    | .ref x :: r => mm_go nx L (.ref x :: .ref x :: r) h
    | _ => none)
  | .dup2 => (match st with
    | .int x :: .ref y :: r => mm_go nx L (.int x :: .ref y :: .int x :: .ref y :: r) h
    | _ => none)
  | .pop => (match st with
    | .int _ :: r => mm_go nx L r h
    | _ => none)
  | .goto _ => mm_to tg L st h
  | .ifCond c _ => (match st with
    | .int x :: r => mm_br c x 0 (mm_to tg L r h) (mm_go nx L r h)
    | _ => none)
  | .if_icmp c _ => (match st with
    | .int y :: .int x :: r => mm_br c x y (mm_to tg L r h) (mm_go nx L r h)
    | _ => none)
  | .ifnull _ => mm_nul nx tg L st h
  | .ifnonnull _ => mm_nnl nx tg L st h
  | .tableswitch _ lo hi _ => mm_tsw lo hi tg L st h
  | .iaload => mm_iald scr nx L st h
  | .laload => mm_lald nx L st h
  | .baload => mm_zald nx L st h
  | .iastore => mm_iast nx L st h
  | .lastore => mm_last nx L st h
  | .bastore => mm_zast nx L st h
  | .arraylength => mm_len scr nx L st h
  | .getfield i => (match mm_look pool i with
    | some (.inl q) => mm_gfd nx L st h q
    | _ => none)
  | .putfield i => (match mm_look pool i with
    | some (.inl q) => mm_pfd nx L st h q
    | _ => none)
  | .invokevirtual i => (match mm_look pool i with
    | some (.inr (.inr q)) => mm_ivv call nx L st h q
    | _ => none)
  | .invokestatic i => (match mm_look pool i with
    | some (.inr (.inr q)) => mm_ivs call nx L st h q
    | _ => none)
  | _ => none
def mm_lay : List Value → mm_L
  | [] => []
  | v :: t => match Nat.beq v.category 2 with
    | true => some v :: none :: mm_lay t
    | false => some v :: mm_lay t
def mm_pad : mm_L → Nat → mm_L
  | [], 0 => []
  | [], n + 1 => none :: mm_pad [] n
  | x :: l, 0 => x :: l
  | x :: l, n + 1 => x :: mm_pad l n
def mm_cal (G : List mm_M) (run : Nat → mm_L → mm_H → Option (Option Value × mm_H)) (j : Nat) (As : List Value) (g : mm_H) : Option (Option Value × mm_H) := match mm_nth G j with
  | none => none
  | some Mj => match Nat.ble (mm_lay As).length Mj.2.2.1 with
    | true => run j (mm_pad (mm_lay As) Mj.2.2.1) g
    | false => none
/-- a run: fuel, script, method, place, locals, stack, cells -/
def mm_run (G : List mm_M) : Nat → mm_X → Nat → Nat → mm_L → List Value → mm_H → Option (Option Value × mm_H)
  | 0, _, _, _, _, _, _ => none
  | n + 1, scr, k, pc, L, st, h => match mm_nth G k with
    | none => none
    | some M => match mm_nth M.1 pc with
      | some (some x) => (match mm_ret M.2.2.2 x.1 st with
        | some v => some (v, h)
        | none => match mm_ex (mm_cal G (fun j L g => mm_run G n none j 0 L [] g)) scr M.2.1 x.1 x.2.1 x.2.2 L st h with
          | some (pc', L', st', h') => mm_run G n scr k pc' L' st' h'
          | none => none)
      | _ => none
end
section
/-! THE SMALL MACHINE IS SOUND: a run of it is a walk of the real one. -/
def mm_cv (ρ : Nat → Nat) (b : Nat) : Value → Value
  | .ref i => .ref (ρ i)
  | .retAddr _ => .ref b
  | .int x => .int x
  | .long x => .long x
  | .float x => .float x
  | .double x => .double x
  | .null => .null
theorem mm_cv_cat (ρ : Nat → Nat) (b : Nat) (v : Value) : (mm_cv ρ b v).category = v.category := by cases v <;> rfl
def mm_co (ρ : Nat → Nat) (κ : Nat → ClassId) (b : Nat) (i : Nat) (c : mm_C) : Nat × va_E := match c with
  | .inl x => (ρ i, .inl (κ i, x.2))
  | .inr x => (ρ i, .inr (x.1, x.2.map (mm_cv ρ b)))
def mm_rep (ρ : Nat → Nat) (κ : Nat → ClassId) (b : Nat) (h : mm_H) : va_W := h.mapIdx (mm_co ρ κ b)
theorem mm_nth_eq {α : Type} (l : List α) (i : Nat) : mm_nth l i = l[i]? := by
  induction l generalizing i with
  | nil => simp [mm_nth]
  | cons x l ih => cases i with
    | zero => simp [mm_nth]
    | succ n => simp [mm_nth, ih]
theorem mm_put_eq {α : Type} {l l' : List α} {i : Nat} {v : α} (h : mm_put l i v = some l') : i < l.length ∧ l' = l.set i v := by
  induction l generalizing i l' with
  | nil => simp [mm_put] at h
  | cons x l ih => cases i with
    | zero =>
      simp only [mm_put] at h
      cases h
      exact ⟨by simp, by simp⟩
    | succ n =>
      simp only [mm_put] at h
      split at h
      · rename_i l1 e1
        cases h
        obtain ⟨h1, h2⟩ := ih e1
        subst h2
        exact ⟨by simp; omega, by simp⟩
      · cases h
theorem mm_rep_at {ρ : Nat → Nat} {κ : Nat → ClassId} {b : Nat} {h : mm_H} {i : Nat} {c : mm_C} (hc : mm_nth h i = some c) : (mm_rep ρ κ b h)[i]? = some (mm_co ρ κ b i c) := by
  rw [mm_nth_eq] at hc
  simp [mm_rep, hc]
theorem mm_rep_set {ρ : Nat → Nat} {κ : Nat → ClassId} {b : Nat} (h : mm_H) (i : Nat) (c : mm_C) : mm_rep ρ κ b (h.set i c) = (mm_rep ρ κ b h).set i (mm_co ρ κ b i c) := by
  apply List.ext_getElem?
  intro j
  unfold mm_rep
  rw [List.getElem?_mapIdx, List.getElem?_set, List.getElem?_set, List.length_mapIdx, List.getElem?_mapIdx]
  by_cases hij : i = j
  · subst hij
    by_cases hl : i < h.length
    · simp [hl]
    · simp [hl]
  · simp [hij]
def mm_ty (κ : Nat → ClassId) (h : mm_H) (U : State) : Prop := ∀ (i : Nat) (ty : FieldType) (a : vp_A), h[i]? = some (.inl (ty, a)) → ArrOfT U (κ i) ty ∧ va_RA U (κ i) ty
theorem mm_ty_moved {κ : Nat → ClassId} {h : mm_H} {u U : State} (hvm : u.vm.Alike U.vm) (hT : mm_ty κ h u) : mm_ty κ h U := fun i ty a hi => ⟨arrOfT_moved hvm (hT i ty a hi).1, (hT i ty a hi).2.moved hvm⟩
theorem mm_ty_seti {κ : Nat → ClassId} {h : mm_H} {U : State} {i : Nat} {ty : FieldType} {a a' : vp_A} (hT : mm_ty κ h U) (hc : mm_nth h i = some (.inl (ty, a))) : mm_ty κ (h.set i (.inl (ty, a'))) U := by
  intro j ty' x hj
  rw [List.getElem?_set] at hj
  by_cases e : i = j
  · subst e
    rw [if_pos rfl] at hj
    split at hj
    · cases hj
      exact hT i ty a (by rw [← mm_nth_eq]; exact hc)
    · cases hj
  · rw [if_neg e] at hj
    exact hT j ty' x hj
theorem mm_ty_setr {κ : Nat → ClassId} {h : mm_H} {U : State} {i : Nat} {q : Nat × List Value} (hT : mm_ty κ h U) : mm_ty κ (h.set i (.inr q)) U := by
  intro j ty' x hj
  rw [List.getElem?_set] at hj
  by_cases e : i = j
  · subst e
    rw [if_pos rfl] at hj
    split at hj
    · cases hj
    · cases hj
  · rw [if_neg e] at hj
    exact hT j ty' x hj
theorem mm_K1 {D : va_G} {cl : List vw_C} {κ : Nat → ClassId} {h : mm_H} {s : State} {i : Nat} {ty : FieldType} {a : vp_A} (hK : va_K D cl [] s) (hT : mm_ty κ h s) (e : mm_nth h i = some (.inl (ty, a))) : va_K D cl [(κ i, ty)] s := by
  refine ⟨hK.1, fun k q hk => ?_⟩
  cases k with
  | zero =>
    cases hk
    exact hT i ty a (by rw [← mm_nth_eq]; exact e)
  | succ n => simp at hk
/-- the locals -/
def mm_loc (ρ : Nat → Nat) (b nL : Nat) (ls : Array Slot) (L : mm_L) : Prop := ls.size = nL ∧ L.length = nL ∧ lv_wf ls ∧ ∀ (i : Nat) (v : Value), L[i]? = some (some v) → ls[i]? = some (.val (mm_cv ρ b v))
def mm_lv (ρ : Nat → Nat) (b : Nat) (L : mm_L) : List (Nat × Value) := (List.range L.length).filterMap (fun i => match L[i]? with
  | some (some v) => some (i, mm_cv ρ b v)
  | _ => none)
theorem mm_lv_mem {ρ : Nat → Nat} {b : Nat} {L : mm_L} {q : Nat × Value} : q ∈ mm_lv ρ b L ↔ ∃ v, L[q.1]? = some (some v) ∧ q.2 = mm_cv ρ b v := by
  constructor
  · intro h
    obtain ⟨i, hi, e1⟩ := List.mem_filterMap.mp h
    split at e1
    · rename_i v hv
      cases e1
      exact ⟨v, hv, rfl⟩
    · cases e1
  · intro h
    obtain ⟨v, h1, h2⟩ := h
    refine List.mem_filterMap.mpr ⟨q.1, List.mem_range.mpr (List.getElem?_eq_some_iff.mp h1).1, ?_⟩
    rw [h1]
    show some (q.1, mm_cv ρ b v) = some q
    rw [← h2]
theorem mm_loc_has {ρ : Nat → Nat} {b nL : Nat} {ls : Array Slot} {L : mm_L} (h : mm_loc ρ b nL ls L) : lv_has ls nL (mm_lv ρ b L) := ⟨h.1, h.2.2.1, fun q hq => by
  obtain ⟨v, h1, h2⟩ := mm_lv_mem.mp hq
  rw [h2]
  exact h.2.2.2 _ v h1⟩
theorem mm_cut_len (L : mm_L) (i : Nat) : (mm_cut L i).length = L.length := by
  unfold mm_cut
  split
  · rfl
  · unfold mm_cut1
    split <;> simp
theorem mm_cut_get (L : mm_L) (i j : Nat) (v : Value) (h : (mm_cut L i)[j]? = some (some v)) : L[j]? = some (some v) ∧ ¬ (j + 1 = i ∧ v.category = 2) := by
  unfold mm_cut at h
  split at h
  · exact ⟨h, fun q => by omega⟩
  · rename_i n
    unfold mm_cut1 at h
    rw [mm_nth_eq] at h
    split at h
    · rename_i x hx
      rw [List.getElem?_set] at h
      by_cases e : n = j
      · subst e
        rw [if_pos rfl] at h
        split at h <;> cases h
      · rw [if_neg e] at h
        exact ⟨h, fun q => by omega⟩
    · rename_i x hx
      rw [List.getElem?_set] at h
      by_cases e : n = j
      · subst e
        rw [if_pos rfl] at h
        split at h <;> cases h
      · rw [if_neg e] at h
        exact ⟨h, fun q => by omega⟩
    · rename_i h1 h2
      refine ⟨h, fun q => ?_⟩
      have e : j = n := by omega
      subst e
      cases v with
      | long x => exact h1 x h
      | double x => exact h2 x h
      | _ => exact absurd q.2 (by simp [Value.category])
theorem mm_st1_lt {L L' : mm_L} {i : Nat} {v : Value} (h : mm_st1 L i v = some L') : i < L.length := by
  have h1 := (mm_put_eq h).1
  rwa [mm_cut_len] at h1
theorem mm_st1_loc {ρ : Nat → Nat} {b nL : Nat} {ls' : Array Slot} {L L' : mm_L} {i : Nat} {v : Value} (hn : L.length = nL) (hL : mm_st1 L i v = some L') (h : lv_has ls' nL ((i, mm_cv ρ b v) :: (mm_lv ρ b L).filter (fun q => !(q.1 == i) && !(q.1 + 1 == i && q.2.category == 2)))) : mm_loc ρ b nL ls' L' := by
  obtain ⟨h1, h2⟩ := mm_put_eq hL
  subst h2
  refine ⟨h.1, by rw [List.length_set, mm_cut_len]; exact hn, h.2.1, fun j w hj => ?_⟩
  rw [List.getElem?_set] at hj
  by_cases e : i = j
  · subst e
    rw [if_pos rfl, if_pos h1] at hj
    cases hj
    exact h.2.2 (i, _) List.mem_cons_self
  · rw [if_neg e] at hj
    obtain ⟨a1, a2⟩ := mm_cut_get L i j w hj
    refine h.2.2 (j, mm_cv ρ b w) (List.mem_cons_of_mem _ (List.mem_filter.mpr ⟨mm_lv_mem.mpr ⟨w, a1, rfl⟩, ?_⟩))
    have e' : ¬ j = i := fun q => e q.symm
    by_cases c1 : j + 1 = i
    · have c2 : ¬ w.category = 2 := fun q => a2 ⟨c1, q⟩
      simp [e', c2, mm_cv_cat]
    · simp [e', c1]
theorem mm_st2_lt {L L' : mm_L} {i : Nat} {v : Value} (h : mm_st2 L i v = some L') : i + 1 < L.length := by
  unfold mm_st2 at h
  split at h
  · rename_i L1 e1
    have h1 := (mm_put_eq e1).1
    rwa [mm_cut_len] at h1
  · cases h
theorem mm_st2_loc {ρ : Nat → Nat} {b nL : Nat} {ls' : Array Slot} {L L' : mm_L} {i : Nat} {v : Value} (hn : L.length = nL) (hL : mm_st2 L i v = some L') (h : lv_has ls' nL ((i, mm_cv ρ b v) :: (mm_lv ρ b L).filter (fun q => !(q.1 == i) && (!(q.1 == i + 1) && !(q.1 + 1 == i && q.2.category == 2))))) : mm_loc ρ b nL ls' L' := by
  unfold mm_st2 at hL
  split at hL
  · rename_i L1 e1
    obtain ⟨h3, h4⟩ := mm_put_eq e1
    obtain ⟨h1, h2⟩ := mm_put_eq hL
    subst h4
    subst h2
    refine ⟨h.1, by rw [List.length_set, List.length_set, mm_cut_len]; exact hn, h.2.1, fun j w hj => ?_⟩
    rw [List.getElem?_set] at hj
    by_cases e : i = j
    · subst e
      rw [if_pos rfl, if_pos h1] at hj
      cases hj
      exact h.2.2 (i, _) List.mem_cons_self
    · rw [if_neg e, List.getElem?_set] at hj
      by_cases e2 : i + 1 = j
      · subst e2
        rw [if_pos rfl, if_pos h3] at hj
        cases hj
      · rw [if_neg e2] at hj
        obtain ⟨a1, a2⟩ := mm_cut_get L i j w hj
        refine h.2.2 (j, mm_cv ρ b w) (List.mem_cons_of_mem _ (List.mem_filter.mpr ⟨mm_lv_mem.mpr ⟨w, a1, rfl⟩, ?_⟩))
        have e' : ¬ j = i := fun q => e q.symm
        have e2' : ¬ j = i + 1 := fun q => e2 q.symm
        by_cases c1 : j + 1 = i
        · have c2 : ¬ w.category = 2 := fun q => a2 ⟨c1, q⟩
          simp [e', e2', c2, mm_cv_cat]
        · simp [e', e2', c1]
  · cases hL
theorem mm_take_eq : ∀ (n : Nat) (acc st As r : List Value), mm_take n acc st = some (As, r) → ∃ B : List Value, As = B.reverse ++ acc ∧ st = B ++ r ∧ B.length = n
  | 0, acc, st, As, r, h => by
    simp only [mm_take] at h
    cases h
    exact ⟨[], rfl, rfl, rfl⟩
  | n + 1, acc, v :: st, As, r, h => by
    simp only [mm_take] at h
    obtain ⟨B, h1, h2, h3⟩ := mm_take_eq n (v :: acc) st As r h
    exact ⟨v :: B, by rw [h1]; simp, by rw [h2]; rfl, by simp [h3]⟩
  | n + 1, acc, [], As, r, h => by
    simp only [mm_take] at h
    cases h
theorem mm_cat_sum (ρ : Nat → Nat) (b : Nat) (r : List Value) : ((r.map (mm_cv ρ b)).map fun v => v.category).sum = mm_cat r := by
  induction r with
  | nil => rfl
  | cons v r ih =>
    simp only [List.map_cons, List.sum_cons, mm_cat, mm_cv_cat]
    rw [ih]
/-- an instruction's width, its targets, and that it stands there -/
def mm_wid (pc : Nat) (ins : Jvm.ClassFile.Instr) : Nat := match ins with
  | .bipush _ => 2
  | .ldc _ => 2
  | .iload _ => 2
  | .lload _ => 2
  | .aload _ => 2
  | .istore _ => 2
  | .lstore _ => 2
  | .astore _ => 2
  | .sipush _ => 3
  | .ldc2_w _ => 3
  | .ldc_w _ => 3
  | .iinc _ _ => 3
  | .goto _ => 3
  | .ifCond _ _ => 3
  | .if_icmp _ _ => 3
  | .ifnull _ => 3
  | .ifnonnull _ => 3
  | .getfield _ => 3
  | .putfield _ => 3
  | .invokevirtual _ => 3
  | .invokestatic _ => 3
  | .invokespecial _ => 3
  | .new _ => 3
  | .newarray _ => 2
  | .tableswitch _ _ _ offs => 1 + (3 - pc % 4) + 12 + 4 * offs.size
  | _ => 1
def mm_tg1 (pc : Nat) (o : Int) (tg : List Nat) : Bool := match tg with
  | [t] => decide ((pc : Int) + o = (t : Int))
  | _ => false
def mm_tgok (pc : Nat) (ins : Jvm.ClassFile.Instr) (tg : List Nat) : Bool := match ins with
  | .goto o => mm_tg1 pc o tg
  | .ifCond _ o => mm_tg1 pc o tg
  | .if_icmp _ o => mm_tg1 pc o tg
  | .ifnull o => mm_tg1 pc o tg
  | .ifnonnull o => mm_tg1 pc o tg
  | .tableswitch d _ _ offs => (match tg with
    | t :: ts => decide ((pc : Int) + d = (t : Int)) && decide (ts.map (fun t : Nat => (t : Int)) = offs.toList.map (fun o => (pc : Int) + o))
    | _ => false)
  | _ => true
def mm_chk (cc : ByteArray) (pc : Nat) (x : mm_I) : Bool := decide (decode cc pc = .ok (x.1, mm_wid pc x.1)) && (decide (x.2.1 = pc + mm_wid pc x.1) && mm_tgok pc x.1 x.2.2)
theorem mm_chk_sp {cc : ByteArray} {pc nx : Nat} {ins : Jvm.ClassFile.Instr} {tg : List Nat} (h : mm_chk cc pc (ins, nx, tg) = true) : decode cc pc = .ok (ins, mm_wid pc ins) ∧ nx = pc + mm_wid pc ins ∧ mm_tgok pc ins tg = true := by
  simp only [mm_chk, Bool.and_eq_true, decide_eq_true_eq] at h
  exact h
theorem mm_narz (x : Int32) : narrow .boolean (.int x) = .int (vp_nar .boolean x) := by
  unfold vp_nar
  cases hz : narrow .boolean (.int x) <;> simp_all [narrow]
theorem mm_tg1_sp {pc : Nat} {o : Int} {tg : List Nat} (h : mm_tg1 pc o tg = true) : ∃ t : Nat, tg = [t] ∧ (pc : Int) + o = (t : Int) := by
  unfold mm_tg1 at h
  split at h
  · rename_i t
    exact ⟨t, rfl, of_decide_eq_true h⟩
  · cases h

section MMW
variable {p : Program} {l : Launch} {e : Env} {R : Room} {s : State} {m : MethodId} {args : Array Value} {below : List Frame} {meth : Method} {c : Code} {cells slots : Nat} {Q : State → Prop} {cc : ByteArray} {D : va_G} {cl : List vw_C} {A : Nat → Prop} {ρ : Nat → Nat} {κ : Nat → ClassId} {b nL : Nat} {H : Heap} {locs : List Loc} {ls : Array Slot} {pc nx : Nat} {L : mm_L} {st : List Value} {h : mm_H} {X : mm_R} {tg : List Nat}
abbrev mm_At (D : va_G) (cl : List vw_C) (A : Nat → Prop) (ρ : Nat → Nat) (κ : Nat → ClassId) (b nL : Nat) (s : State) (H : Heap) (locs : List Loc) (ls : Array Slot) (L : mm_L) (h : mm_H) : Prop := va_P D cl (mm_rep ρ κ b h) H ∧ va_D A (mm_rep ρ κ b h) ∧ mm_ty κ h s ∧ va_S A s.heap H locs ∧ mm_loc ρ b nL ls L
abbrev mm_kk (p : Program) (l : Launch) (e : Env) (R : Room) (s : State) (m : MethodId) (args : Array Value) (below : List Frame) (meth : Method) (c : Code) (cells slots : Nat) (Q : State → Prop) (D : va_G) (cl : List vw_C) (A : Nat → Prop) (ρ : Nat → Nat) (κ : Nat → ClassId) (b nL : Nat) (X : mm_R) : Prop := ∀ (H : Heap) (locs : List Loc) (ls : Array Slot), mm_At D cl A ρ κ b nL s H locs ls X.2.1 X.2.2.2 → W p l e R s m args below meth c H locs cells slots Q (F0 m X.1 ls (X.2.2.1.map (mm_cv ρ b)))

theorem mm_s_iadd (hx : p.tables.exec = Jvm.exec) (hb : c.code = cc) (hc : mm_chk cc pc (.iadd, nx, tg) = true) (hex : mm_ii nx L st h (fun x y => x + y) = some X) (hA : mm_At D cl A ρ κ b nL s H locs ls L h) (kk : mm_kk p l e R s m args below meth c cells slots Q D cl A ρ κ b nL X) : W p l e R s m args below meth c H locs cells slots Q (F0 m pc ls (st.map (mm_cv ρ b))) := by
  obtain ⟨hd, rfl, htg⟩ := mm_chk_sp hc
  unfold mm_ii at hex
  split at hex
  · cases hex
    exact lv_iadd hx hb hd (kk H locs ls hA)
  · cases hex
theorem mm_s_isub (hx : p.tables.exec = Jvm.exec) (hb : c.code = cc) (hc : mm_chk cc pc (.isub, nx, tg) = true) (hex : mm_ii nx L st h (fun x y => x - y) = some X) (hA : mm_At D cl A ρ κ b nL s H locs ls L h) (kk : mm_kk p l e R s m args below meth c cells slots Q D cl A ρ κ b nL X) : W p l e R s m args below meth c H locs cells slots Q (F0 m pc ls (st.map (mm_cv ρ b))) := by
  obtain ⟨hd, rfl, htg⟩ := mm_chk_sp hc
  unfold mm_ii at hex
  split at hex
  · cases hex
    exact lv_isub hx hb hd (kk H locs ls hA)
  · cases hex
theorem mm_s_imul (hx : p.tables.exec = Jvm.exec) (hb : c.code = cc) (hc : mm_chk cc pc (.imul, nx, tg) = true) (hex : mm_ii nx L st h (fun x y => x * y) = some X) (hA : mm_At D cl A ρ κ b nL s H locs ls L h) (kk : mm_kk p l e R s m args below meth c cells slots Q D cl A ρ κ b nL X) : W p l e R s m args below meth c H locs cells slots Q (F0 m pc ls (st.map (mm_cv ρ b))) := by
  obtain ⟨hd, rfl, htg⟩ := mm_chk_sp hc
  unfold mm_ii at hex
  split at hex
  · cases hex
    exact lv_imul hx hb hd (kk H locs ls hA)
  · cases hex
theorem mm_s_iand (hx : p.tables.exec = Jvm.exec) (hb : c.code = cc) (hc : mm_chk cc pc (.iand, nx, tg) = true) (hex : mm_ii nx L st h (fun x y => x &&& y) = some X) (hA : mm_At D cl A ρ κ b nL s H locs ls L h) (kk : mm_kk p l e R s m args below meth c cells slots Q D cl A ρ κ b nL X) : W p l e R s m args below meth c H locs cells slots Q (F0 m pc ls (st.map (mm_cv ρ b))) := by
  obtain ⟨hd, rfl, htg⟩ := mm_chk_sp hc
  unfold mm_ii at hex
  split at hex
  · cases hex
    exact lv_iand hx hb hd (kk H locs ls hA)
  · cases hex
theorem mm_s_ior (hx : p.tables.exec = Jvm.exec) (hb : c.code = cc) (hc : mm_chk cc pc (.ior, nx, tg) = true) (hex : mm_ii nx L st h (fun x y => x ||| y) = some X) (hA : mm_At D cl A ρ κ b nL s H locs ls L h) (kk : mm_kk p l e R s m args below meth c cells slots Q D cl A ρ κ b nL X) : W p l e R s m args below meth c H locs cells slots Q (F0 m pc ls (st.map (mm_cv ρ b))) := by
  obtain ⟨hd, rfl, htg⟩ := mm_chk_sp hc
  unfold mm_ii at hex
  split at hex
  · cases hex
    exact lv_ior hx hb hd (kk H locs ls hA)
  · cases hex
theorem mm_s_ixor (hx : p.tables.exec = Jvm.exec) (hb : c.code = cc) (hc : mm_chk cc pc (.ixor, nx, tg) = true) (hex : mm_ii nx L st h (fun x y => x ^^^ y) = some X) (hA : mm_At D cl A ρ κ b nL s H locs ls L h) (kk : mm_kk p l e R s m args below meth c cells slots Q D cl A ρ κ b nL X) : W p l e R s m args below meth c H locs cells slots Q (F0 m pc ls (st.map (mm_cv ρ b))) := by
  obtain ⟨hd, rfl, htg⟩ := mm_chk_sp hc
  unfold mm_ii at hex
  split at hex
  · cases hex
    exact lv_ixor hx hb hd (kk H locs ls hA)
  · cases hex
theorem mm_s_ishl (hx : p.tables.exec = Jvm.exec) (hb : c.code = cc) (hc : mm_chk cc pc (.ishl, nx, tg) = true) (hex : mm_ii nx L st h (fun x y => x <<< (y &&& 31)) = some X) (hA : mm_At D cl A ρ κ b nL s H locs ls L h) (kk : mm_kk p l e R s m args below meth c cells slots Q D cl A ρ κ b nL X) : W p l e R s m args below meth c H locs cells slots Q (F0 m pc ls (st.map (mm_cv ρ b))) := by
  obtain ⟨hd, rfl, htg⟩ := mm_chk_sp hc
  unfold mm_ii at hex
  split at hex
  · cases hex
    exact lv_ishl hx hb hd (kk H locs ls hA)
  · cases hex
theorem mm_s_ishr (hx : p.tables.exec = Jvm.exec) (hb : c.code = cc) (hc : mm_chk cc pc (.ishr, nx, tg) = true) (hex : mm_ii nx L st h (fun x y => x >>> (y &&& 31)) = some X) (hA : mm_At D cl A ρ κ b nL s H locs ls L h) (kk : mm_kk p l e R s m args below meth c cells slots Q D cl A ρ κ b nL X) : W p l e R s m args below meth c H locs cells slots Q (F0 m pc ls (st.map (mm_cv ρ b))) := by
  obtain ⟨hd, rfl, htg⟩ := mm_chk_sp hc
  unfold mm_ii at hex
  split at hex
  · cases hex
    exact lv_ishr hx hb hd (kk H locs ls hA)
  · cases hex
theorem mm_s_iushr (hx : p.tables.exec = Jvm.exec) (hb : c.code = cc) (hc : mm_chk cc pc (.iushr, nx, tg) = true) (hex : mm_ii nx L st h (fun x y => (x.toUInt32 >>> (y.toUInt32 &&& Int32.toUInt32 31)).toInt32) = some X) (hA : mm_At D cl A ρ κ b nL s H locs ls L h) (kk : mm_kk p l e R s m args below meth c cells slots Q D cl A ρ κ b nL X) : W p l e R s m args below meth c H locs cells slots Q (F0 m pc ls (st.map (mm_cv ρ b))) := by
  obtain ⟨hd, rfl, htg⟩ := mm_chk_sp hc
  unfold mm_ii at hex
  split at hex
  · cases hex
    exact lv_iushr hx hb hd rfl (kk H locs ls hA)
  · cases hex
theorem mm_s_ladd (hx : p.tables.exec = Jvm.exec) (hb : c.code = cc) (hc : mm_chk cc pc (.ladd, nx, tg) = true) (hex : mm_ll nx L st h (fun x y => x + y) = some X) (hA : mm_At D cl A ρ κ b nL s H locs ls L h) (kk : mm_kk p l e R s m args below meth c cells slots Q D cl A ρ κ b nL X) : W p l e R s m args below meth c H locs cells slots Q (F0 m pc ls (st.map (mm_cv ρ b))) := by
  obtain ⟨hd, rfl, htg⟩ := mm_chk_sp hc
  unfold mm_ll at hex
  split at hex
  · cases hex
    exact lv_ladd hx hb hd (kk H locs ls hA)
  · cases hex
theorem mm_s_lsub (hx : p.tables.exec = Jvm.exec) (hb : c.code = cc) (hc : mm_chk cc pc (.lsub, nx, tg) = true) (hex : mm_ll nx L st h (fun x y => x - y) = some X) (hA : mm_At D cl A ρ κ b nL s H locs ls L h) (kk : mm_kk p l e R s m args below meth c cells slots Q D cl A ρ κ b nL X) : W p l e R s m args below meth c H locs cells slots Q (F0 m pc ls (st.map (mm_cv ρ b))) := by
  obtain ⟨hd, rfl, htg⟩ := mm_chk_sp hc
  unfold mm_ll at hex
  split at hex
  · cases hex
    exact lv_lsub hx hb hd (kk H locs ls hA)
  · cases hex
theorem mm_s_lmul (hx : p.tables.exec = Jvm.exec) (hb : c.code = cc) (hc : mm_chk cc pc (.lmul, nx, tg) = true) (hex : mm_ll nx L st h (fun x y => x * y) = some X) (hA : mm_At D cl A ρ κ b nL s H locs ls L h) (kk : mm_kk p l e R s m args below meth c cells slots Q D cl A ρ κ b nL X) : W p l e R s m args below meth c H locs cells slots Q (F0 m pc ls (st.map (mm_cv ρ b))) := by
  obtain ⟨hd, rfl, htg⟩ := mm_chk_sp hc
  unfold mm_ll at hex
  split at hex
  · cases hex
    exact lv_lmul hx hb hd (kk H locs ls hA)
  · cases hex
theorem mm_s_land (hx : p.tables.exec = Jvm.exec) (hb : c.code = cc) (hc : mm_chk cc pc (.land, nx, tg) = true) (hex : mm_ll nx L st h (fun x y => x &&& y) = some X) (hA : mm_At D cl A ρ κ b nL s H locs ls L h) (kk : mm_kk p l e R s m args below meth c cells slots Q D cl A ρ κ b nL X) : W p l e R s m args below meth c H locs cells slots Q (F0 m pc ls (st.map (mm_cv ρ b))) := by
  obtain ⟨hd, rfl, htg⟩ := mm_chk_sp hc
  unfold mm_ll at hex
  split at hex
  · cases hex
    exact lv_land hx hb hd (kk H locs ls hA)
  · cases hex
theorem mm_s_lor (hx : p.tables.exec = Jvm.exec) (hb : c.code = cc) (hc : mm_chk cc pc (.lor, nx, tg) = true) (hex : mm_ll nx L st h (fun x y => x ||| y) = some X) (hA : mm_At D cl A ρ κ b nL s H locs ls L h) (kk : mm_kk p l e R s m args below meth c cells slots Q D cl A ρ κ b nL X) : W p l e R s m args below meth c H locs cells slots Q (F0 m pc ls (st.map (mm_cv ρ b))) := by
  obtain ⟨hd, rfl, htg⟩ := mm_chk_sp hc
  unfold mm_ll at hex
  split at hex
  · cases hex
    exact lv_lor hx hb hd (kk H locs ls hA)
  · cases hex
theorem mm_s_lxor (hx : p.tables.exec = Jvm.exec) (hb : c.code = cc) (hc : mm_chk cc pc (.lxor, nx, tg) = true) (hex : mm_ll nx L st h (fun x y => x ^^^ y) = some X) (hA : mm_At D cl A ρ κ b nL s H locs ls L h) (kk : mm_kk p l e R s m args below meth c cells slots Q D cl A ρ κ b nL X) : W p l e R s m args below meth c H locs cells slots Q (F0 m pc ls (st.map (mm_cv ρ b))) := by
  obtain ⟨hd, rfl, htg⟩ := mm_chk_sp hc
  unfold mm_ll at hex
  split at hex
  · cases hex
    exact lv_lxor hx hb hd (kk H locs ls hA)
  · cases hex
theorem mm_s_idiv (hx : p.tables.exec = Jvm.exec) (hb : c.code = cc) (hc : mm_chk cc pc (.idiv, nx, tg) = true) (hex : mm_iz nx L st h (fun x y => x / y) = some X) (hA : mm_At D cl A ρ κ b nL s H locs ls L h) (kk : mm_kk p l e R s m args below meth c cells slots Q D cl A ρ κ b nL X) : W p l e R s m args below meth c H locs cells slots Q (F0 m pc ls (st.map (mm_cv ρ b))) := by
  obtain ⟨hd, rfl, htg⟩ := mm_chk_sp hc
  unfold mm_iz at hex
  split at hex
  · split at hex
    · cases hex
    · rename_i hne
      cases hex
      exact lv_idiv hx hb hd hne (kk H locs ls hA)
  · cases hex
theorem mm_s_irem (hx : p.tables.exec = Jvm.exec) (hb : c.code = cc) (hc : mm_chk cc pc (.irem, nx, tg) = true) (hex : mm_iz nx L st h (fun x y => x - x / y * y) = some X) (hA : mm_At D cl A ρ κ b nL s H locs ls L h) (kk : mm_kk p l e R s m args below meth c cells slots Q D cl A ρ κ b nL X) : W p l e R s m args below meth c H locs cells slots Q (F0 m pc ls (st.map (mm_cv ρ b))) := by
  obtain ⟨hd, rfl, htg⟩ := mm_chk_sp hc
  unfold mm_iz at hex
  split at hex
  · split at hex
    · cases hex
    · rename_i hne
      cases hex
      exact lv_irem hx hb hd hne (kk H locs ls hA)
  · cases hex
theorem mm_s_ldiv (hx : p.tables.exec = Jvm.exec) (hb : c.code = cc) (hc : mm_chk cc pc (.ldiv, nx, tg) = true) (hex : mm_lz nx L st h (fun x y => x / y) = some X) (hA : mm_At D cl A ρ κ b nL s H locs ls L h) (kk : mm_kk p l e R s m args below meth c cells slots Q D cl A ρ κ b nL X) : W p l e R s m args below meth c H locs cells slots Q (F0 m pc ls (st.map (mm_cv ρ b))) := by
  obtain ⟨hd, rfl, htg⟩ := mm_chk_sp hc
  unfold mm_lz at hex
  split at hex
  · split at hex
    · cases hex
    · rename_i hne
      cases hex
      exact lv_ldiv hx hb hd hne (kk H locs ls hA)
  · cases hex
theorem mm_s_lrem (hx : p.tables.exec = Jvm.exec) (hb : c.code = cc) (hc : mm_chk cc pc (.lrem, nx, tg) = true) (hex : mm_lz nx L st h (fun x y => x - x / y * y) = some X) (hA : mm_At D cl A ρ κ b nL s H locs ls L h) (kk : mm_kk p l e R s m args below meth c cells slots Q D cl A ρ κ b nL X) : W p l e R s m args below meth c H locs cells slots Q (F0 m pc ls (st.map (mm_cv ρ b))) := by
  obtain ⟨hd, rfl, htg⟩ := mm_chk_sp hc
  unfold mm_lz at hex
  split at hex
  · split at hex
    · cases hex
    · rename_i hne
      cases hex
      exact lv_lrem hx hb hd hne (kk H locs ls hA)
  · cases hex
theorem mm_s_lshl (hx : p.tables.exec = Jvm.exec) (hb : c.code = cc) (hc : mm_chk cc pc (.lshl, nx, tg) = true) (hex : mm_li nx L st h (fun x y => x <<< (y.toInt64 &&& 63)) = some X) (hA : mm_At D cl A ρ κ b nL s H locs ls L h) (kk : mm_kk p l e R s m args below meth c cells slots Q D cl A ρ κ b nL X) : W p l e R s m args below meth c H locs cells slots Q (F0 m pc ls (st.map (mm_cv ρ b))) := by
  obtain ⟨hd, rfl, htg⟩ := mm_chk_sp hc
  unfold mm_li at hex
  split at hex
  · cases hex
    exact lv_lshl hx hb hd rfl (kk H locs ls hA)
  · cases hex
theorem mm_s_lshr (hx : p.tables.exec = Jvm.exec) (hb : c.code = cc) (hc : mm_chk cc pc (.lshr, nx, tg) = true) (hex : mm_li nx L st h (fun x y => x >>> (y.toInt64 &&& 63)) = some X) (hA : mm_At D cl A ρ κ b nL s H locs ls L h) (kk : mm_kk p l e R s m args below meth c cells slots Q D cl A ρ κ b nL X) : W p l e R s m args below meth c H locs cells slots Q (F0 m pc ls (st.map (mm_cv ρ b))) := by
  obtain ⟨hd, rfl, htg⟩ := mm_chk_sp hc
  unfold mm_li at hex
  split at hex
  · cases hex
    exact lv_lshr hx hb hd rfl (kk H locs ls hA)
  · cases hex
theorem mm_s_iload_n {k : Fin 4} (hx : p.tables.exec = Jvm.exec) (hb : c.code = cc) (hc : mm_chk cc pc ((.iload_n k), nx, tg) = true) (hex : mm_ild nx L st h k.val = some X) (hA : mm_At D cl A ρ κ b nL s H locs ls L h) (kk : mm_kk p l e R s m args below meth c cells slots Q D cl A ρ κ b nL X) : W p l e R s m args below meth c H locs cells slots Q (F0 m pc ls (st.map (mm_cv ρ b))) := by
  obtain ⟨hd, rfl, htg⟩ := mm_chk_sp hc
  unfold mm_ild at hex
  rw [mm_nth_eq] at hex
  split at hex
  · rename_i x ex
    cases hex
    exact lv_iload_n hx hb hd rfl (hA.2.2.2.2.2.2.2 _ _ ex) (kk H locs ls hA)
  · cases hex
theorem mm_s_iload {i : Nat} (hx : p.tables.exec = Jvm.exec) (hb : c.code = cc) (hc : mm_chk cc pc ((.iload i), nx, tg) = true) (hex : mm_ild nx L st h i = some X) (hA : mm_At D cl A ρ κ b nL s H locs ls L h) (kk : mm_kk p l e R s m args below meth c cells slots Q D cl A ρ κ b nL X) : W p l e R s m args below meth c H locs cells slots Q (F0 m pc ls (st.map (mm_cv ρ b))) := by
  obtain ⟨hd, rfl, htg⟩ := mm_chk_sp hc
  unfold mm_ild at hex
  rw [mm_nth_eq] at hex
  split at hex
  · rename_i x ex
    cases hex
    exact lv_iload hx hb hd (hA.2.2.2.2.2.2.2 _ _ ex) (kk H locs ls hA)
  · cases hex
theorem mm_s_lload_n {k : Fin 4} (hx : p.tables.exec = Jvm.exec) (hb : c.code = cc) (hc : mm_chk cc pc ((.lload_n k), nx, tg) = true) (hex : mm_lld nx L st h k.val = some X) (hA : mm_At D cl A ρ κ b nL s H locs ls L h) (kk : mm_kk p l e R s m args below meth c cells slots Q D cl A ρ κ b nL X) : W p l e R s m args below meth c H locs cells slots Q (F0 m pc ls (st.map (mm_cv ρ b))) := by
  obtain ⟨hd, rfl, htg⟩ := mm_chk_sp hc
  unfold mm_lld at hex
  rw [mm_nth_eq] at hex
  split at hex
  · rename_i x ex
    cases hex
    exact lv_lload_n hx hb hd rfl (hA.2.2.2.2.2.2.2 _ _ ex) (kk H locs ls hA)
  · cases hex
theorem mm_s_lload {i : Nat} (hx : p.tables.exec = Jvm.exec) (hb : c.code = cc) (hc : mm_chk cc pc ((.lload i), nx, tg) = true) (hex : mm_lld nx L st h i = some X) (hA : mm_At D cl A ρ κ b nL s H locs ls L h) (kk : mm_kk p l e R s m args below meth c cells slots Q D cl A ρ κ b nL X) : W p l e R s m args below meth c H locs cells slots Q (F0 m pc ls (st.map (mm_cv ρ b))) := by
  obtain ⟨hd, rfl, htg⟩ := mm_chk_sp hc
  unfold mm_lld at hex
  rw [mm_nth_eq] at hex
  split at hex
  · rename_i x ex
    cases hex
    exact lv_lload hx hb hd (hA.2.2.2.2.2.2.2 _ _ ex) (kk H locs ls hA)
  · cases hex
theorem mm_s_aload_n {k : Fin 4} (hx : p.tables.exec = Jvm.exec) (hb : c.code = cc) (hc : mm_chk cc pc ((.aload_n k), nx, tg) = true) (hex : mm_rld nx L st h k.val = some X) (hA : mm_At D cl A ρ κ b nL s H locs ls L h) (kk : mm_kk p l e R s m args below meth c cells slots Q D cl A ρ κ b nL X) : W p l e R s m args below meth c H locs cells slots Q (F0 m pc ls (st.map (mm_cv ρ b))) := by
  obtain ⟨hd, rfl, htg⟩ := mm_chk_sp hc
  unfold mm_rld at hex
  rw [mm_nth_eq] at hex
  split at hex
  · rename_i x ex
    cases hex
    exact lv_aload_n hx hb hd rfl (hA.2.2.2.2.2.2.2 _ _ ex) (kk H locs ls hA)
  · rename_i ex
    cases hex
    exact lv_aload_nN hx hb hd rfl (hA.2.2.2.2.2.2.2 _ _ ex) (kk H locs ls hA)
  · rename_i x ex
    cases hex
    exact lv_aload_n hx hb hd rfl (hA.2.2.2.2.2.2.2 _ _ ex) (kk H locs ls hA)
  · cases hex
theorem mm_s_aload {i : Nat} (hx : p.tables.exec = Jvm.exec) (hb : c.code = cc) (hc : mm_chk cc pc ((.aload i), nx, tg) = true) (hex : mm_rld nx L st h i = some X) (hA : mm_At D cl A ρ κ b nL s H locs ls L h) (kk : mm_kk p l e R s m args below meth c cells slots Q D cl A ρ κ b nL X) : W p l e R s m args below meth c H locs cells slots Q (F0 m pc ls (st.map (mm_cv ρ b))) := by
  obtain ⟨hd, rfl, htg⟩ := mm_chk_sp hc
  unfold mm_rld at hex
  rw [mm_nth_eq] at hex
  split at hex
  · rename_i x ex
    cases hex
    exact lv_aload hx hb hd (hA.2.2.2.2.2.2.2 _ _ ex) (kk H locs ls hA)
  · rename_i ex
    cases hex
    exact lv_aloadN hx hb hd (hA.2.2.2.2.2.2.2 _ _ ex) (kk H locs ls hA)
  · rename_i x ex
    cases hex
    exact lv_aload hx hb hd (hA.2.2.2.2.2.2.2 _ _ ex) (kk H locs ls hA)
  · cases hex
theorem mm_s_istore_n {k : Fin 4} (hx : p.tables.exec = Jvm.exec) (hb : c.code = cc) (hc : mm_chk cc pc ((.istore_n k), nx, tg) = true) (hex : mm_ist nx L st h k.val = some X) (hA : mm_At D cl A ρ κ b nL s H locs ls L h) (kk : mm_kk p l e R s m args below meth c cells slots Q D cl A ρ κ b nL X) : W p l e R s m args below meth c H locs cells slots Q (F0 m pc ls (st.map (mm_cv ρ b))) := by
  obtain ⟨hd, rfl, htg⟩ := mm_chk_sp hc
  unfold mm_ist at hex
  split at hex
  · unfold mm_goL at hex
    split at hex
    · rename_i L' e1
      cases hex
      exact lv_istore_n hx hb hd rfl (mm_loc_has hA.2.2.2.2) (by rw [← hA.2.2.2.2.2.1]; exact mm_st1_lt e1) rfl (fun ls' hl' => kk H locs ls' ⟨hA.1, hA.2.1, hA.2.2.1, hA.2.2.2.1, mm_st1_loc hA.2.2.2.2.2.1 e1 hl'⟩)
    · cases hex
  · cases hex
theorem mm_s_istore {i : Nat} (hx : p.tables.exec = Jvm.exec) (hb : c.code = cc) (hc : mm_chk cc pc ((.istore i), nx, tg) = true) (hex : mm_ist nx L st h i = some X) (hA : mm_At D cl A ρ κ b nL s H locs ls L h) (kk : mm_kk p l e R s m args below meth c cells slots Q D cl A ρ κ b nL X) : W p l e R s m args below meth c H locs cells slots Q (F0 m pc ls (st.map (mm_cv ρ b))) := by
  obtain ⟨hd, rfl, htg⟩ := mm_chk_sp hc
  unfold mm_ist at hex
  split at hex
  · unfold mm_goL at hex
    split at hex
    · rename_i L' e1
      cases hex
      exact lv_istore hx hb hd (mm_loc_has hA.2.2.2.2) (by rw [← hA.2.2.2.2.2.1]; exact mm_st1_lt e1) rfl (fun ls' hl' => kk H locs ls' ⟨hA.1, hA.2.1, hA.2.2.1, hA.2.2.2.1, mm_st1_loc hA.2.2.2.2.2.1 e1 hl'⟩)
    · cases hex
  · cases hex
theorem mm_s_lstore_n {k : Fin 4} (hx : p.tables.exec = Jvm.exec) (hb : c.code = cc) (hc : mm_chk cc pc ((.lstore_n k), nx, tg) = true) (hex : mm_lst nx L st h k.val = some X) (hA : mm_At D cl A ρ κ b nL s H locs ls L h) (kk : mm_kk p l e R s m args below meth c cells slots Q D cl A ρ κ b nL X) : W p l e R s m args below meth c H locs cells slots Q (F0 m pc ls (st.map (mm_cv ρ b))) := by
  obtain ⟨hd, rfl, htg⟩ := mm_chk_sp hc
  unfold mm_lst at hex
  split at hex
  · unfold mm_goL at hex
    split at hex
    · rename_i L' e1
      cases hex
      exact lv_lstore_n hx hb hd rfl (mm_loc_has hA.2.2.2.2) (by rw [← hA.2.2.2.2.2.1]; exact mm_st2_lt e1) rfl (fun ls' hl' => kk H locs ls' ⟨hA.1, hA.2.1, hA.2.2.1, hA.2.2.2.1, mm_st2_loc hA.2.2.2.2.2.1 e1 hl'⟩)
    · cases hex
  · cases hex
theorem mm_s_lstore {i : Nat} (hx : p.tables.exec = Jvm.exec) (hb : c.code = cc) (hc : mm_chk cc pc ((.lstore i), nx, tg) = true) (hex : mm_lst nx L st h i = some X) (hA : mm_At D cl A ρ κ b nL s H locs ls L h) (kk : mm_kk p l e R s m args below meth c cells slots Q D cl A ρ κ b nL X) : W p l e R s m args below meth c H locs cells slots Q (F0 m pc ls (st.map (mm_cv ρ b))) := by
  obtain ⟨hd, rfl, htg⟩ := mm_chk_sp hc
  unfold mm_lst at hex
  split at hex
  · unfold mm_goL at hex
    split at hex
    · rename_i L' e1
      cases hex
      exact lv_lstore hx hb hd (mm_loc_has hA.2.2.2.2) (by rw [← hA.2.2.2.2.2.1]; exact mm_st2_lt e1) rfl (fun ls' hl' => kk H locs ls' ⟨hA.1, hA.2.1, hA.2.2.1, hA.2.2.2.1, mm_st2_loc hA.2.2.2.2.2.1 e1 hl'⟩)
    · cases hex
  · cases hex
theorem mm_s_astore_n {k : Fin 4} (hx : p.tables.exec = Jvm.exec) (hb : c.code = cc) (hc : mm_chk cc pc ((.astore_n k), nx, tg) = true) (hex : mm_rst nx L st h k.val = some X) (hA : mm_At D cl A ρ κ b nL s H locs ls L h) (kk : mm_kk p l e R s m args below meth c cells slots Q D cl A ρ κ b nL X) : W p l e R s m args below meth c H locs cells slots Q (F0 m pc ls (st.map (mm_cv ρ b))) := by
  obtain ⟨hd, rfl, htg⟩ := mm_chk_sp hc
  unfold mm_rst at hex
  split at hex
  · unfold mm_goL at hex
    split at hex
    · rename_i L' e1
      cases hex
      exact lv_astore_n hx hb hd rfl (mm_loc_has hA.2.2.2.2) (by rw [← hA.2.2.2.2.2.1]; exact mm_st1_lt e1) rfl (fun ls' hl' => kk H locs ls' ⟨hA.1, hA.2.1, hA.2.2.1, hA.2.2.2.1, mm_st1_loc hA.2.2.2.2.2.1 e1 hl'⟩)
    · cases hex
  · unfold mm_goL at hex
    split at hex
    · rename_i L' e1
      cases hex
      exact lv_astore_nN hx hb hd rfl (mm_loc_has hA.2.2.2.2) (by rw [← hA.2.2.2.2.2.1]; exact mm_st1_lt e1) rfl (fun ls' hl' => kk H locs ls' ⟨hA.1, hA.2.1, hA.2.2.1, hA.2.2.2.1, mm_st1_loc hA.2.2.2.2.2.1 e1 hl'⟩)
    · cases hex
  · cases hex
theorem mm_s_astore {i : Nat} (hx : p.tables.exec = Jvm.exec) (hb : c.code = cc) (hc : mm_chk cc pc ((.astore i), nx, tg) = true) (hex : mm_rst nx L st h i = some X) (hA : mm_At D cl A ρ κ b nL s H locs ls L h) (kk : mm_kk p l e R s m args below meth c cells slots Q D cl A ρ κ b nL X) : W p l e R s m args below meth c H locs cells slots Q (F0 m pc ls (st.map (mm_cv ρ b))) := by
  obtain ⟨hd, rfl, htg⟩ := mm_chk_sp hc
  unfold mm_rst at hex
  split at hex
  · unfold mm_goL at hex
    split at hex
    · rename_i L' e1
      cases hex
      exact lv_astore hx hb hd (mm_loc_has hA.2.2.2.2) (by rw [← hA.2.2.2.2.2.1]; exact mm_st1_lt e1) rfl (fun ls' hl' => kk H locs ls' ⟨hA.1, hA.2.1, hA.2.2.1, hA.2.2.2.1, mm_st1_loc hA.2.2.2.2.2.1 e1 hl'⟩)
    · cases hex
  · unfold mm_goL at hex
    split at hex
    · rename_i L' e1
      cases hex
      exact lv_astoreN hx hb hd (mm_loc_has hA.2.2.2.2) (by rw [← hA.2.2.2.2.2.1]; exact mm_st1_lt e1) rfl (fun ls' hl' => kk H locs ls' ⟨hA.1, hA.2.1, hA.2.2.1, hA.2.2.2.1, mm_st1_loc hA.2.2.2.2.2.1 e1 hl'⟩)
    · cases hex
  · cases hex
theorem mm_s_iinc {i : Nat} {n : Int} (hx : p.tables.exec = Jvm.exec) (hb : c.code = cc) (hc : mm_chk cc pc ((.iinc i n), nx, tg) = true) (hex : mm_inc nx L st h i (Int32.ofInt n) = some X) (hA : mm_At D cl A ρ κ b nL s H locs ls L h) (kk : mm_kk p l e R s m args below meth c cells slots Q D cl A ρ κ b nL X) : W p l e R s m args below meth c H locs cells slots Q (F0 m pc ls (st.map (mm_cv ρ b))) := by
  obtain ⟨hd, rfl, htg⟩ := mm_chk_sp hc
  unfold mm_inc at hex
  rw [mm_nth_eq] at hex
  split at hex
  · rename_i x ex
    unfold mm_goL at hex
    split at hex
    · rename_i L' e1
      cases hex
      obtain ⟨k, hk⟩ := List.getElem?_of_mem (mm_lv_mem (ρ := ρ) (b := b) (q := (i, .int x)) |>.mpr ⟨.int x, ex, rfl⟩)
      exact lv_iinc hx hb hd (mm_loc_has hA.2.2.2.2) hk rfl (by rw [← hA.2.2.2.2.2.1]; exact mm_st1_lt e1) rfl (fun ls' hl' => kk H locs ls' ⟨hA.1, hA.2.1, hA.2.2.1, hA.2.2.2.1, mm_st1_loc hA.2.2.2.2.2.1 e1 hl'⟩)
    · cases hex
  · cases hex
theorem mm_s_if {co : Jvm.ClassFile.Cond} {o : Int} {x : Int32} {r : List Value} (hx : p.tables.exec = Jvm.exec) (hb : c.code = cc) (hc : mm_chk cc pc ((.ifCond co o), nx, tg) = true) (hex : mm_br co x 0 (mm_to tg L r h) (mm_go nx L r h) = some X) (hA : mm_At D cl A ρ κ b nL s H locs ls L h) (kk : mm_kk p l e R s m args below meth c cells slots Q D cl A ρ κ b nL X) : W p l e R s m args below meth c H locs cells slots Q (F0 m pc ls ((.int x :: r : List Value).map (mm_cv ρ b))) := by
  obtain ⟨hd, rfl, htg⟩ := mm_chk_sp hc
  obtain ⟨t, rfl, ht⟩ := mm_tg1_sp htg
  cases co with
  | eq =>
    refine lv_if_eq (tgt := t) hx hb hd ht (fun q => ?_) (fun q => ?_)
    · simp only [mm_br, if_pos q, mm_to] at hex
      cases hex
      exact (kk H locs ls hA)
    · simp only [mm_br, if_neg q] at hex
      cases hex
      exact (kk H locs ls hA)
  | ne =>
    refine lv_if_ne (tgt := t) hx hb hd ht (fun q => ?_) (fun q => ?_)
    · simp only [mm_br, if_neg q, mm_to] at hex
      cases hex
      exact (kk H locs ls hA)
    · simp only [mm_br, if_pos q] at hex
      cases hex
      exact (kk H locs ls hA)
  | lt =>
    refine lv_if_lt (tgt := t) hx hb hd ht (fun q => ?_) (fun q => ?_)
    · simp only [mm_br, if_pos q, mm_to] at hex
      cases hex
      exact (kk H locs ls hA)
    · simp only [mm_br, if_neg q] at hex
      cases hex
      exact (kk H locs ls hA)
  | ge =>
    refine lv_if_ge (tgt := t) hx hb hd ht (fun q => ?_) (fun q => ?_)
    · simp only [mm_br, if_pos q, mm_to] at hex
      cases hex
      exact (kk H locs ls hA)
    · simp only [mm_br, if_neg q] at hex
      cases hex
      exact (kk H locs ls hA)
  | gt =>
    refine lv_if_gt (tgt := t) hx hb hd ht (fun q => ?_) (fun q => ?_)
    · simp only [mm_br, if_pos q, mm_to] at hex
      cases hex
      exact (kk H locs ls hA)
    · simp only [mm_br, if_neg q] at hex
      cases hex
      exact (kk H locs ls hA)
  | le =>
    refine lv_if_le (tgt := t) hx hb hd ht (fun q => ?_) (fun q => ?_)
    · simp only [mm_br, if_pos q, mm_to] at hex
      cases hex
      exact (kk H locs ls hA)
    · simp only [mm_br, if_neg q] at hex
      cases hex
      exact (kk H locs ls hA)
theorem mm_s_icmp {co : Jvm.ClassFile.Cond} {o : Int} {x y : Int32} {r : List Value} (hx : p.tables.exec = Jvm.exec) (hb : c.code = cc) (hc : mm_chk cc pc ((.if_icmp co o), nx, tg) = true) (hex : mm_br co x y (mm_to tg L r h) (mm_go nx L r h) = some X) (hA : mm_At D cl A ρ κ b nL s H locs ls L h) (kk : mm_kk p l e R s m args below meth c cells slots Q D cl A ρ κ b nL X) : W p l e R s m args below meth c H locs cells slots Q (F0 m pc ls ((.int y :: .int x :: r : List Value).map (mm_cv ρ b))) := by
  obtain ⟨hd, rfl, htg⟩ := mm_chk_sp hc
  obtain ⟨t, rfl, ht⟩ := mm_tg1_sp htg
  cases co with
  | eq =>
    refine lv_icmp_eq (tgt := t) hx hb hd ht (fun q => ?_) (fun q => ?_)
    · simp only [mm_br, if_pos q, mm_to] at hex
      cases hex
      exact (kk H locs ls hA)
    · simp only [mm_br, if_neg q] at hex
      cases hex
      exact (kk H locs ls hA)
  | ne =>
    refine lv_icmp_ne (tgt := t) hx hb hd ht (fun q => ?_) (fun q => ?_)
    · simp only [mm_br, if_neg q, mm_to] at hex
      cases hex
      exact (kk H locs ls hA)
    · simp only [mm_br, if_pos q] at hex
      cases hex
      exact (kk H locs ls hA)
  | lt =>
    refine lv_icmp_lt (tgt := t) hx hb hd ht (fun q => ?_) (fun q => ?_)
    · simp only [mm_br, if_pos q, mm_to] at hex
      cases hex
      exact (kk H locs ls hA)
    · simp only [mm_br, if_neg q] at hex
      cases hex
      exact (kk H locs ls hA)
  | ge =>
    refine lv_icmp_ge (tgt := t) hx hb hd ht (fun q => ?_) (fun q => ?_)
    · simp only [mm_br, if_pos q, mm_to] at hex
      cases hex
      exact (kk H locs ls hA)
    · simp only [mm_br, if_neg q] at hex
      cases hex
      exact (kk H locs ls hA)
  | gt =>
    refine lv_icmp_gt (tgt := t) hx hb hd ht (fun q => ?_) (fun q => ?_)
    · simp only [mm_br, if_pos q, mm_to] at hex
      cases hex
      exact (kk H locs ls hA)
    · simp only [mm_br, if_neg q] at hex
      cases hex
      exact (kk H locs ls hA)
  | le =>
    refine lv_icmp_le (tgt := t) hx hb hd ht (fun q => ?_) (fun q => ?_)
    · simp only [mm_br, if_pos q, mm_to] at hex
      cases hex
      exact (kk H locs ls hA)
    · simp only [mm_br, if_neg q] at hex
      cases hex
      exact (kk H locs ls hA)
theorem mm_s_goto {o : Int} (hx : p.tables.exec = Jvm.exec) (hb : c.code = cc) (hc : mm_chk cc pc ((.goto o), nx, tg) = true) (hex : mm_to tg L st h = some X) (hA : mm_At D cl A ρ κ b nL s H locs ls L h) (kk : mm_kk p l e R s m args below meth c cells slots Q D cl A ρ κ b nL X) : W p l e R s m args below meth c H locs cells slots Q (F0 m pc ls (st.map (mm_cv ρ b))) := by
  obtain ⟨hd, rfl, htg⟩ := mm_chk_sp hc
  obtain ⟨t, rfl, ht⟩ := mm_tg1_sp htg
  cases hex
  exact lv_goto (tgt := t) hx hb hd ht (kk H locs ls hA)
theorem mm_s_ifnull {o : Int} (hx : p.tables.exec = Jvm.exec) (hb : c.code = cc) (hc : mm_chk cc pc ((.ifnull o), nx, tg) = true) (hex : mm_nul nx tg L st h = some X) (hA : mm_At D cl A ρ κ b nL s H locs ls L h) (kk : mm_kk p l e R s m args below meth c cells slots Q D cl A ρ κ b nL X) : W p l e R s m args below meth c H locs cells slots Q (F0 m pc ls (st.map (mm_cv ρ b))) := by
  obtain ⟨hd, rfl, htg⟩ := mm_chk_sp hc
  obtain ⟨t, rfl, ht⟩ := mm_tg1_sp htg
  unfold mm_nul at hex
  split at hex
  · cases hex
    exact lv_ifnullN (tgt := t) hx hb hd ht (kk H locs ls hA)
  · cases hex
    exact lv_ifnull hx hb hd (kk H locs ls hA)
  · cases hex
theorem mm_s_ifnonnull {o : Int} (hx : p.tables.exec = Jvm.exec) (hb : c.code = cc) (hc : mm_chk cc pc ((.ifnonnull o), nx, tg) = true) (hex : mm_nnl nx tg L st h = some X) (hA : mm_At D cl A ρ κ b nL s H locs ls L h) (kk : mm_kk p l e R s m args below meth c cells slots Q D cl A ρ κ b nL X) : W p l e R s m args below meth c H locs cells slots Q (F0 m pc ls (st.map (mm_cv ρ b))) := by
  obtain ⟨hd, rfl, htg⟩ := mm_chk_sp hc
  obtain ⟨t, rfl, ht⟩ := mm_tg1_sp htg
  unfold mm_nnl at hex
  split at hex
  · cases hex
    exact lv_ifnonnull (tgt := t) hx hb hd ht (kk H locs ls hA)
  · cases hex
    exact lv_ifnonnullN hx hb hd (kk H locs ls hA)
  · cases hex
theorem mm_s_tsw {d lo hi : Int} {offs : Array Int} (hx : p.tables.exec = Jvm.exec) (hb : c.code = cc) (hc : mm_chk cc pc ((.tableswitch d lo hi offs), nx, tg) = true) (hex : mm_tsw lo hi tg L st h = some X) (hA : mm_At D cl A ρ κ b nL s H locs ls L h) (kk : mm_kk p l e R s m args below meth c cells slots Q D cl A ρ κ b nL X) : W p l e R s m args below meth c H locs cells slots Q (F0 m pc ls (st.map (mm_cv ρ b))) := by
  obtain ⟨hd, rfl, htg⟩ := mm_chk_sp hc
  unfold mm_tsw at hex
  split at hex
  · rename_i x r t ts
    simp only [mm_tgok, Bool.and_eq_true, decide_eq_true_eq] at htg
    split at hex
    · rename_i hq
      cases hex
      exact lv_tableOut (tgt := t) hx hb hd hq htg.1 (kk H locs ls hA)
    · rename_i hq
      split at hex
      · rename_i t' et
        cases hex
        rw [mm_nth_eq] at et
        have h1 : (ts.map (fun t : Nat => (t : Int)))[(x.toInt - lo).toNat]? = some (t' : Int) := by rw [List.getElem?_map, et]; rfl
        rw [htg.2, List.getElem?_map] at h1
        cases h2 : offs.toList[(x.toInt - lo).toNat]? with
        | none => rw [h2] at h1; cases h1
        | some off =>
          rw [h2] at h1
          have h3 : (pc : Int) + off = (t' : Int) := Option.some.inj h1
          exact lv_tableIn (tgt := t') (off := off) hx hb hd (fun z => hq (Or.inl z)) (fun z => hq (Or.inr z)) (by rw [← Array.getElem?_toList]; exact h2) h3 (kk H locs ls hA)
      · cases hex
  · cases hex
theorem mm_s_laload (hK : va_K D cl [] s) (hx : p.tables.exec = Jvm.exec) (hb : c.code = cc) (hc : mm_chk cc pc (.laload, nx, tg) = true) (hex : mm_lald nx L st h = some X) (hA : mm_At D cl A ρ κ b nL s H locs ls L h) (kk : mm_kk p l e R s m args below meth c cells slots Q D cl A ρ κ b nL X) : W p l e R s m args below meth c H locs cells slots Q (F0 m pc ls (st.map (mm_cv ρ b))) := by
  obtain ⟨hd, rfl, htg⟩ := mm_chk_sp hc
  unfold mm_lald at hex
  split at hex
  · split at hex
    · rename_i n f ec
      split at hex
      · rename_i hin
        cases hex
        exact va_lald hx hb (mm_K1 hK hA.2.2.1 ec) hA.1 _ 0 (mm_rep_at ec) rfl (vp_in_iff.mpr hin) hd (kk H locs ls hA)
      · cases hex
    · cases hex
  · cases hex
theorem mm_s_baload (hK : va_K D cl [] s) (hx : p.tables.exec = Jvm.exec) (hb : c.code = cc) (hc : mm_chk cc pc (.baload, nx, tg) = true) (hex : mm_zald nx L st h = some X) (hA : mm_At D cl A ρ κ b nL s H locs ls L h) (kk : mm_kk p l e R s m args below meth c cells slots Q D cl A ρ κ b nL X) : W p l e R s m args below meth c H locs cells slots Q (F0 m pc ls (st.map (mm_cv ρ b))) := by
  obtain ⟨hd, rfl, htg⟩ := mm_chk_sp hc
  unfold mm_zald at hex
  split at hex
  · split at hex
    · rename_i n f ec
      split at hex
      · rename_i hin
        cases hex
        exact va_zald hx hb (mm_K1 hK hA.2.2.1 ec) hA.1 _ 0 (mm_rep_at ec) rfl (vp_in_iff.mpr hin) hd (kk H locs ls hA)
      · cases hex
    · cases hex
  · cases hex
theorem mm_s_iaload {scr : mm_X} (hK : va_K D cl [] s) (hscr : ∀ (n : Nat) (f : Nat → Int32), scr = some (n, f) → va_X b n f s s.heap ∧ b < s.heap.size ∧ ¬ A b) (hx : p.tables.exec = Jvm.exec) (hb : c.code = cc) (hc : mm_chk cc pc (.iaload, nx, tg) = true) (hex : mm_iald scr nx L st h = some X) (hA : mm_At D cl A ρ κ b nL s H locs ls L h) (kk : mm_kk p l e R s m args below meth c cells slots Q D cl A ρ κ b nL X) : W p l e R s m args below meth c H locs cells slots Q (F0 m pc ls (st.map (mm_cv ρ b))) := by
  obtain ⟨hd, rfl, htg⟩ := mm_chk_sp hc
  unfold mm_iald at hex
  split at hex
  · split at hex
    · rename_i n f ec
      split at hex
      · rename_i hin
        cases hex
        exact va_iald hx hb (mm_K1 hK hA.2.2.1 ec) hA.1 _ 0 (mm_rep_at ec) rfl (vp_in_iff.mpr hin) hd (kk H locs ls hA)
      · cases hex
    · cases hex
  · split at hex
    · rename_i n f
      split at hex
      · rename_i hin
        cases hex
        obtain ⟨z1, z2, z3⟩ := hscr n f rfl
        exact va_sld hx hb z1 z2 z3 hA.2.2.2.1 (vp_in_iff.mpr hin) hd (kk H locs ls hA)
      · cases hex
    · cases hex
  · cases hex
theorem mm_s_arraylength {scr : mm_X} (hK : va_K D cl [] s) (hscr : ∀ (n : Nat) (f : Nat → Int32), scr = some (n, f) → va_X b n f s s.heap ∧ b < s.heap.size ∧ ¬ A b) (hx : p.tables.exec = Jvm.exec) (hb : c.code = cc) (hc : mm_chk cc pc (.arraylength, nx, tg) = true) (hex : mm_len scr nx L st h = some X) (hA : mm_At D cl A ρ κ b nL s H locs ls L h) (kk : mm_kk p l e R s m args below meth c cells slots Q D cl A ρ κ b nL X) : W p l e R s m args below meth c H locs cells slots Q (F0 m pc ls (st.map (mm_cv ρ b))) := by
  obtain ⟨hd, rfl, htg⟩ := mm_chk_sp hc
  unfold mm_len at hex
  split at hex
  · split at hex
    · rename_i ty n f ec
      cases hex
      exact va_alen hx hb (mm_K1 hK hA.2.2.1 ec) hA.1 _ 0 (mm_rep_at ec) rfl rfl hd (kk H locs ls hA)
    · cases hex
  · split at hex
    · rename_i n f
      cases hex
      obtain ⟨z1, z2, z3⟩ := hscr n f rfl
      exact va_slen hx hb z1 z2 z3 hA.2.2.2.1 hd (kk H locs ls hA)
    · cases hex
  · cases hex
theorem mm_s_iastore (hK : va_K D cl [] s) (hx : p.tables.exec = Jvm.exec) (hb : c.code = cc) (hc : mm_chk cc pc (.iastore, nx, tg) = true) (hex : mm_iast nx L st h = some X) (hA : mm_At D cl A ρ κ b nL s H locs ls L h) (kk : mm_kk p l e R s m args below meth c cells slots Q D cl A ρ κ b nL X) : W p l e R s m args below meth c H locs cells slots Q (F0 m pc ls (st.map (mm_cv ρ b))) := by
  obtain ⟨hd, rfl, htg⟩ := mm_chk_sp hc
  unfold mm_iast at hex
  split at hex
  · split at hex
    · rename_i n f ec
      split at hex
      · rename_i hin
        unfold mm_goH at hex
        split at hex
        · rename_i h1 e1
          cases hex
          obtain ⟨-, rfl⟩ := mm_put_eq e1
          refine va_iast hx hb (mm_K1 hK hA.2.2.1 ec) hA.1 hA.2.1 hA.2.2.2.1 _ 0 (mm_rep_at ec) rfl (vp_in_iff.mpr hin) hd (fun H1 locs1 hP1 hD1 hS1 => kk H1 locs1 ls ⟨?_, ?_, mm_ty_seti hA.2.2.1 ec, hS1, hA.2.2.2.2⟩)
          · rw [mm_rep_set]
            exact hP1
          · rw [mm_rep_set]
            exact hD1
        · cases hex
      · cases hex
    · cases hex
  · cases hex
theorem mm_s_lastore (hK : va_K D cl [] s) (hx : p.tables.exec = Jvm.exec) (hb : c.code = cc) (hc : mm_chk cc pc (.lastore, nx, tg) = true) (hex : mm_last nx L st h = some X) (hA : mm_At D cl A ρ κ b nL s H locs ls L h) (kk : mm_kk p l e R s m args below meth c cells slots Q D cl A ρ κ b nL X) : W p l e R s m args below meth c H locs cells slots Q (F0 m pc ls (st.map (mm_cv ρ b))) := by
  obtain ⟨hd, rfl, htg⟩ := mm_chk_sp hc
  unfold mm_last at hex
  split at hex
  · split at hex
    · rename_i n f ec
      split at hex
      · rename_i hin
        unfold mm_goH at hex
        split at hex
        · rename_i h1 e1
          cases hex
          obtain ⟨-, rfl⟩ := mm_put_eq e1
          refine va_last hx hb (mm_K1 hK hA.2.2.1 ec) hA.1 hA.2.1 hA.2.2.2.1 _ 0 (mm_rep_at ec) rfl (vp_in_iff.mpr hin) hd (fun H1 locs1 hP1 hD1 hS1 => kk H1 locs1 ls ⟨?_, ?_, mm_ty_seti hA.2.2.1 ec, hS1, hA.2.2.2.2⟩)
          · rw [mm_rep_set]
            exact hP1
          · rw [mm_rep_set]
            exact hD1
        · cases hex
      · cases hex
    · cases hex
  · cases hex
theorem mm_s_bastore (hK : va_K D cl [] s) (hx : p.tables.exec = Jvm.exec) (hb : c.code = cc) (hc : mm_chk cc pc (.bastore, nx, tg) = true) (hex : mm_zast nx L st h = some X) (hA : mm_At D cl A ρ κ b nL s H locs ls L h) (kk : mm_kk p l e R s m args below meth c cells slots Q D cl A ρ κ b nL X) : W p l e R s m args below meth c H locs cells slots Q (F0 m pc ls (st.map (mm_cv ρ b))) := by
  obtain ⟨hd, rfl, htg⟩ := mm_chk_sp hc
  unfold mm_zast at hex
  split at hex
  · split at hex
    · rename_i n f ec
      split at hex
      · rename_i hin
        unfold mm_goH at hex
        split at hex
        · rename_i h1 e1
          cases hex
          obtain ⟨-, rfl⟩ := mm_put_eq e1
          refine va_zast hx hb (mm_K1 hK hA.2.2.1 ec) hA.1 hA.2.1 hA.2.2.2.1 _ 0 (mm_rep_at ec) rfl (vp_in_iff.mpr hin) hd (fun H1 locs1 hP1 hD1 hS1 => kk H1 locs1 ls ⟨?_, ?_, mm_ty_seti hA.2.2.1 ec, hS1, hA.2.2.2.2⟩)
          · rw [mm_rep_set]
            exact hP1
          · rw [mm_rep_set]
            exact hD1
        · cases hex
      · cases hex
    · cases hex
  · cases hex
/-- what the words say of a field of the pool -/
def mm_fw (cl : List vw_C) (own : String) (Ts : List Cond) (i : Nat) (q : Nat × Nat × Option FieldType) : Prop := ∃ (C : String) (T : u_T) (N : Nat) (ty0 : Nat → FieldType), cl[q.1]? = some (C, T, N) ∧ q.2.1 < N ∧ (∀ w ∈ u_ws C T N, w ∈ Ts) ∧ Cond.fieldLink own i (T q.2.1).1 (T q.2.1).2.1 (T q.2.1).2.2.1 ∈ Ts ∧ (∀ k, k < N → parseFieldDescriptor (T k).2.2.1 = some (ty0 k)) ∧ (∀ a, a < N → ∀ b, b < N → a ≠ b → (T a).2.1 ≠ (T b).2.1) ∧ ∀ ty, q.2.2 = some ty → (T q.2.1).2.2.2 = false ∧ parseFieldDescriptor (T q.2.1).2.2.1 = some ty
theorem mm_s_getfield {own : String} {Ts : List Cond} {i : Nat} {q : Nat × Nat × Option FieldType} (hown : s.vm.findClass own = some m.cls) (hts : ∀ w ∈ Ts, w.before args s = true) (hK : va_K D cl [] s) (hw : mm_fw cl own Ts i q) (hx : p.tables.exec = Jvm.exec) (hb : c.code = cc) (hc : mm_chk cc pc ((.getfield i), nx, tg) = true) (hex : mm_gfd nx L st h q = some X) (hA : mm_At D cl A ρ κ b nL s H locs ls L h) (kk : mm_kk p l e R s m args below meth c cells slots Q D cl A ρ κ b nL X) : W p l e R s m args below meth c H locs cells slots Q (F0 m pc ls (st.map (mm_cv ρ b))) := by
  obtain ⟨hd, rfl, htg⟩ := mm_chk_sp hc
  obtain ⟨C, T, N, ty0, w1, w2, w3, w4, w5, w6, w7⟩ := hw
  unfold mm_gfd at hex
  split at hex
  · split at hex
    · rename_i ci fs ec
      split at hex
      · rename_i eb
        have eb := Nat.eq_of_beq_eq_true eb
        subst eb
        split at hex
        · rename_i v ev
          cases hex
          rw [mm_nth_eq] at ev
          exact va_get hx hb hts w3 hown hK hA.1 _ (mm_rep_at ec) w1 q.2.1 w2 (hts _ w4) (fun _ h9 => h9) (by rw [List.getElem?_map, ev]; rfl) hd (kk H locs ls hA)
        · cases hex
      · cases hex
    · cases hex
  · cases hex
theorem mm_s_put1 {own : String} {Ts : List Cond} {i : Nat} {q : Nat × Nat × Option FieldType} (hown : s.vm.findClass own = some m.cls) (hts : ∀ w ∈ Ts, w.before args s = true) (hK : va_K D cl [] s) (hw : mm_fw cl own Ts i q) {a : Nat} {v : Value} {ty : FieldType} {r : List Value} (hq : q.2.2 = some ty) (hcv : mm_cv ρ b v = v) (hn : narrow ty v = v) (hfit : fits ty v = true) (hx : p.tables.exec = Jvm.exec) (hb : c.code = cc) (hc : mm_chk cc pc ((.putfield i), nx, tg) = true) (hex : mm_pfd1 nx L r h q a v = some X) (hA : mm_At D cl A ρ κ b nL s H locs ls L h) (kk : mm_kk p l e R s m args below meth c cells slots Q D cl A ρ κ b nL X) : W p l e R s m args below meth c H locs cells slots Q (F0 m pc ls ((v :: .ref a :: r : List Value).map (mm_cv ρ b))) := by
  obtain ⟨hd, rfl, htg⟩ := mm_chk_sp hc
  obtain ⟨C, T, N, ty0, w1, w2, w3, w4, w5, w6, w7⟩ := hw
  unfold mm_pfd1 at hex
  split at hex
  · rename_i ci fs ec
    split at hex
    · rename_i eb
      have eb := Nat.eq_of_beq_eq_true eb
      subst eb
      split at hex
      · rename_i fs' ef
        unfold mm_goH at hex
        split at hex
        · rename_i h1 e1
          cases hex
          obtain ⟨-, rfl⟩ := mm_put_eq e1
          obtain ⟨hlt, rfl⟩ := mm_put_eq ef
          refine W.eq (g2 := F0 m pc ls (v :: .ref (ρ a) :: r.map (mm_cv ρ b))) (by show F0 m pc ls (mm_cv ρ b v :: Value.ref (ρ a) :: r.map (mm_cv ρ b)) = _; rw [hcv]) ?_
          refine va_put hx hb hts w3 ty0 w5 w6 hown hK hA.1 hA.2.1 hA.2.2.2.1 _ (mm_rep_at ec) w1 q.2.1 w2 (hts _ w4) (fun _ h9 => h9) (w7 ty hq).1 (w7 ty hq).2 hn hfit (by rw [List.length_map]; exact hlt) hd (fun H1 locs1 hP1 hD1 hS1 => kk H1 locs1 ls ⟨?_, ?_, mm_ty_setr hA.2.2.1, hS1, hA.2.2.2.2⟩)
          · rw [mm_rep_set]
            rw [show mm_co ρ κ b a (.inr (q.1, fs.set q.2.1 v)) = (ρ a, .inr (q.1, (fs.map (mm_cv ρ b)).set q.2.1 v)) by simp [mm_co, List.map_set, hcv]]
            exact hP1
          · rw [mm_rep_set]
            rw [show mm_co ρ κ b a (.inr (q.1, fs.set q.2.1 v)) = (ρ a, .inr (q.1, (fs.map (mm_cv ρ b)).set q.2.1 v)) by simp [mm_co, List.map_set, hcv]]
            exact hD1
        · cases hex
      · cases hex
    · cases hex
  · cases hex
theorem mm_s_putfield {own : String} {Ts : List Cond} {i : Nat} {q : Nat × Nat × Option FieldType} (hown : s.vm.findClass own = some m.cls) (hts : ∀ w ∈ Ts, w.before args s = true) (hK : va_K D cl [] s) (hw : mm_fw cl own Ts i q) (hx : p.tables.exec = Jvm.exec) (hb : c.code = cc) (hc : mm_chk cc pc ((.putfield i), nx, tg) = true) (hex : mm_pfd nx L st h q = some X) (hA : mm_At D cl A ρ κ b nL s H locs ls L h) (kk : mm_kk p l e R s m args below meth c cells slots Q D cl A ρ κ b nL X) : W p l e R s m args below meth c H locs cells slots Q (F0 m pc ls (st.map (mm_cv ρ b))) := by
  obtain ⟨hd, rfl, htg⟩ := mm_chk_sp hc
  unfold mm_pfd at hex
  split at hex
  · rename_i hq
    exact mm_s_put1 (v := .int _) hown hts hK hw hq rfl rfl rfl hx hb hc hex hA kk
  · rename_i hq
    exact mm_s_put1 (v := .long _) hown hts hK hw hq rfl rfl rfl hx hb hc hex hA kk
  · cases hex
end MMW
end
section
/-! THE SMALL MACHINE IS SOUND, second half: calls, one step, a run, a contract. -/
abbrev mm_N : Type := List (String × Nat × MethodName × String)
def mm_nw (NW : mm_N) (U : State) : Prop := ∀ x ∈ NW, va_Nw (.methodLinkNest x.1 x.2.1 x.2.2.1 x.2.2.2) U
theorem mm_nw_warm {NW : mm_N} {s U : State} (hW : s.WarmedH U.vm) (h : mm_nw NW s) : mm_nw NW U := fun x hx => va_Nw.warmM hW (h x hx)
def mm_Pre (NW : mm_N) (D : va_G) (cl : List vw_C) (ρ : Nat → Nat) (κ : Nat → ClassId) (b : Nat) (h : mm_H) (sz : Nat) : State → Prop := fun U => U.heap.size = sz ∧ va_P D cl (mm_rep ρ κ b h) U.heap ∧ va_K D cl [] U ∧ mm_nw NW U ∧ mm_ty κ h U ∧ va_D (fun _ => True) (mm_rep ρ κ b h)
def mm_Post (D : va_G) (cl : List vw_C) (ρ : Nat → Nat) (κ : Nat → ClassId) (b : Nat) (h : mm_H) (v : Option Value) (h1 : mm_H) (sz : Nat) : Array Value → State → Outcome → State → Prop := fun _ st oc t => oc = .returned (v.map (mm_cv ρ b)) ∧ va_P D cl (mm_rep ρ κ b h1) t.heap ∧ mm_ty κ h1 t ∧ va_D (va_A (mm_rep ρ κ b h) sz) (mm_rep ρ κ b h1) ∧ va_F (va_A (mm_rep ρ κ b h) sz) st t
theorem mm_blind {NW : mm_N} {D : va_G} {cl : List vw_C} {ρ : Nat → Nat} {κ : Nat → ClassId} {b : Nat} {h : mm_H} {sz : Nat} {av : List Value} : FrameBlind (va_Pc av (mm_Pre NW D cl ρ κ b h sz)) := fun a U g mk q => by
  obtain ⟨q0, q1, qP, qK, qN, qT, qD⟩ := q
  exact ⟨q0, q1, qP, va_K.moved (u := U) (U := U.calling g mk a) (Vm.Alike.refl U.vm) qK, fun x hx => va_Nw.same (u := U) (U := U.calling g mk a) rfl rfl (qN x hx), mm_ty_moved (u := U) (U := U.calling g mk a) (Vm.Alike.refl U.vm) qT, qD⟩
theorem mm_back_sp {nx : Nat} {L : mm_L} {r : List Value} {o : Option (Option Value × mm_H)} {X : mm_R} (h : mm_back nx L r o = some X) : ∃ (v : Option Value) (h1 : mm_H), o = some (v, h1) ∧ X = (nx, L, v.toList ++ r, h1) := by
  unfold mm_back at h
  split at h
  · rename_i v h1
    cases h
    exact ⟨some v, h1, rfl, rfl⟩
  · rename_i h1
    cases h
    exact ⟨none, h1, rfl, rfl⟩
  · cases h
section MMC
variable {p : Program} {l : Launch} {e : Env} {R : Room} {s : State} {m : MethodId} {args : Array Value} {below : List Frame} {meth : Method} {c : Code} {cells slots : Nat} {Q : State → Prop} {cc : ByteArray} {D : va_G} {cl : List vw_C} {A : Nat → Prop} {ρ : Nat → Nat} {κ : Nat → ClassId} {b nL : Nat} {H : Heap} {locs : List Loc} {ls : Array Slot} {pc nx : Nat} {L : mm_L} {st : List Value} {h : mm_H} {X : mm_R} {tg : List Nat}
theorem mm_after {v : Option Value} {h1 : mm_H} {a0 : Array Value} {st0 rest : List Value} (hr : va_Run p l e R s m args below meth c H locs cells slots 0 0 (F0 m pc ls st0) rest (mm_Post D cl ρ κ b h v h1 H.size a0) (va_A (mm_rep ρ κ b h) H.size)) (hA : mm_At D cl A ρ κ b nL s H locs ls L h) (hAz : ∀ q, s.heap.size ≤ q → A q)
    (kk : ∀ (H1 : Heap) (locs1 : List Loc), mm_At D cl A ρ κ b nL s H1 locs1 ls L h1 → W p l e R s m args below meth c H1 locs1 cells slots Q (F0 m (pc + 3) ls ((v.map (mm_cv ρ b)).toList ++ rest))) : W p l e R s m args below meth c H locs cells slots Q (F0 m pc ls st0) := by
  intro T hT X
  obtain ⟨v', st₀, t, T', L1, h0, X', hL, e1, e2, ⟨hv, hP1, hT1, hD1, hz, hk⟩, sto⟩ := hr T hT X
  have hv : v' = v.map (mm_cv ρ b) := by cases hv; rfl
  subst hv
  rw [h0] at hz hk
  obtain ⟨hP, hD, hTy, hS, hl⟩ := hA
  have hF : ∀ q, va_A (mm_rep ρ κ b h) H.size q → A q := fun q hq => by
    rcases hq with ⟨k, x, hk⟩ | hq
    · exact hD.2 k _ hk
    · exact hAz q (Nat.le_trans hS.1 hq)
  have hal : s.vm.Alike t.vm := by rw [← e2]; exact X'.warmed.alike
  obtain ⟨t2, a1, b1⟩ := kk T'.heap (locs ++ L1) ⟨by rw [e1]; exact hP1, hD1.weaken (fun _ _ _ z => hF _ z), mm_ty_moved hal.symm hT1, ⟨Nat.le_trans hS.1 (by rw [e1]; exact hz), fun q h1 h2 => by rw [e1, hk q (Nat.lt_of_lt_of_le h1 hS.1) (fun z => h2 (hF q z))]; exact hS.2.1 q h1 h2, fun q hq => by
      rcases List.mem_append.mp hq with h | h
      · exact hS.2.2 q h
      · exact hF _ (hL q h)⟩, hl⟩ T' rfl X'
  exact ⟨t2, sto t2 a1, b1⟩
end MMC
section MMT
variable (G : List mm_M) (Y : Nat → MethodName) (WS : Nat → List Cond) (RM : Nat → Room) (BC : Nat → ByteArray) (cl : List vw_C) (nM : Nat) (NW : mm_N)
/-- what the words say of a number of the pool -/
def mm_word (own : String) (Ts : List Cond) (R : Room) (i : Nat) (K : mm_K) : Prop := match K with
  | .inl q => mm_fw cl own Ts i q
  | .inr (.inl (.int v)) => Cond.constant own i v ∈ Ts
  | .inr (.inl (.long v)) => Cond.constantLong own i v ∈ Ts
  | .inr (.inl _) => True
  | .inr (.inr q) => q.1 < nM ∧ ∃ M2 : mm_M, mm_nth G q.1 = some M2 ∧ (RM q.1).frames + 1 ≤ R.frames ∧ 8 + (M2.2.2.1 + 11) + (RM q.1).locals ≤ R.locals ∧ ((Y q.1).cls ≠ "java/lang/invoke/MethodHandle" ∧ (Y q.1).cls ≠ "java/lang/invoke/VarHandle" ∧ (parseMethodDescriptor (Y q.1).desc).map (fun d => d.parameters.length) = some q.2.1) ∧ (match q.2.2 with
    | some ci => ∃ (C : String) (T : u_T) (N : Nat), cl[ci]? = some (C, T, N) ∧ (Y q.1).cls = C ∧ GoodIn Ts (wsV own i C (Y q.1) (WS q.1))
    | none => GoodIn Ts (va_wsS own i (Y q.1) (WS q.1)) ∨ ∃ host : String, (own, i, Y q.1, host) ∈ NW ∧ GoodIn Ts (WS q.1) ∧ Cond.initialized (Y q.1).cls ∈ Ts ∧ Cond.static (Y q.1) ∈ Ts)
/-- a method's tables fit its code and its words -/
def mm_okW (own : String) (cc : ByteArray) (Ts : List Cond) (R : Room) (M : mm_M) : Prop := (∀ (pc : Nat) (x : mm_I), mm_nth M.1 pc = some (some x) → mm_chk cc pc x = true) ∧ ∀ (i : Nat) (K : mm_K), mm_look M.2.1 i = some K → mm_word G Y WS RM cl nM NW own Ts R i K
def mm_ok (k : Nat) (M : mm_M) : Prop := (∃ ws', WS k = Cond.code (Y k) (BC k) M.2.2.1 M.2.2.2 :: ws') ∧ plainName (Y k).cls = true ∧ (RM k).cells = 0 ∧ (RM k).slots = 0 ∧ mm_okW G Y WS RM cl nM NW (Y k).cls (BC k) (WS k) (RM k) M

theorem mm_s_virt {p : Program} {l : Launch} {e : Env} {R : Room} {s : State} {m : MethodId} {args : Array Value} {below : List Frame} {meth : Method} {c : Code} {cells slots : Nat} {Q : State → Prop} {cc : ByteArray} {D : va_G} {A : Nat → Prop} {ρ : Nat → Nat} {κ : Nat → ClassId} {b nL : Nat} {H : Heap} {locs : List Loc} {ls : Array Slot} {pc nx : Nat} {L : mm_L} {st : List Value} {h : mm_H} {X : mm_R} {tg : List Nat} {own : String} {Ts : List Cond} {call : Nat → List Value → mm_H → Option (Option Value × mm_H)} {i : Nat} {q : Nat × Nat × Option Nat} (hx : p.tables.exec = Jvm.exec) (hb : c.code = cc) (hml : c.maxLocals = nL) (hown : s.vm.findClass own = some m.cls) (hts : ∀ w ∈ Ts, w.before args s = true) (hK : va_K D cl [] s) (hNW : mm_nw NW s) (hAz : ∀ q, s.heap.size ≤ q → A q) (hcs : cells ≤ R.cells ∧ slots ≤ R.slots) (hok : ∀ (k : Nat) (M : mm_M), k < nM → mm_nth G k = some M → mm_ok G Y WS RM BC cl nM NW k M) (hw : mm_word G Y WS RM cl nM NW own Ts R i (.inr (.inr q))) (hcall : ∀ (k : Nat) (M : mm_M) (As : List Value) (v : Option Value) (h1 : mm_H) (sz : Nat), k < nM → mm_nth G k = some M → call k As h = some (v, h1) → Met l (Y k) (WS k) (RM k) (va_Pc (As.map (mm_cv ρ b)) (mm_Pre NW D cl ρ κ b h sz)) (mm_Post D cl ρ κ b h v h1 sz) 0 0 (va_A (mm_rep ρ κ b h) sz)) (hc : mm_chk cc pc (.invokevirtual i, nx, tg) = true) (hex : mm_ivv call nx L st h q = some X) (hA : mm_At D cl A ρ κ b nL s H locs ls L h) (kk : mm_kk p l e R s m args below meth c cells slots Q D cl A ρ κ b nL X) : W p l e R s m args below meth c H locs cells slots Q (F0 m pc ls (st.map (mm_cv ρ b))) := by
  obtain ⟨hd, rfl, -⟩ := mm_chk_sp hc
  unfold mm_ivv at hex
  split at hex
  · rename_i ci As r eci etk
    obtain ⟨Bk, hAs, hst, hlen⟩ := mm_take_eq _ _ _ _ _ etk
    rw [List.append_nil] at hAs
    unfold mm_cv1 at hex
    split at hex
    · rename_i a r'
      split at hex
      · rename_i cj fs ecell
        split at hex
        · rename_i e1 e2
          have e1 := Nat.eq_of_beq_eq_true e1
          have e2 := Nat.le_of_ble_eq_true e2
          subst e1
          obtain ⟨v, h1, ecall, rfl⟩ := mm_back_sp hex
          obtain ⟨hk, M2, hM2, hfr, hlo, hnm, hrest⟩ := hw
          rw [eci] at hrest
          obtain ⟨C, T, N, hcl, hyc, hG⟩ := hrest
          obtain ⟨⟨ws', hws⟩, -, hz1, hz2, -⟩ := hok q.1 M2 hk hM2
          have hM := hcall q.1 M2 (.ref a :: As) v h1 H.size hk hM2 ecall
          obtain ⟨hP, hD, hTy, hS, hl⟩ := id hA
          have run := va_runV (p := p) (l := l) (e := e) (R := R) (s := s) (m := m) (args := args) (below := below) (meth := meth) (c := c) (H := H) (locs := locs) (cells := cells) (slots := slots) (As := As.map (mm_cv ρ b)) (rest := r'.map (mm_cv ρ b)) (b := ρ a) (C := C) (g := F0 m pc ls (st.map (mm_cv ρ b))) (nL := nL) (Ts := Ts) (own := own) ⟨hx, hb, hml, hown, hts⟩ hM (cwV q.2.1 hts hG hws hz1 hz2 ⟨hyc, hnm.1, hnm.2.1, hnm.2.2⟩ ⟨hfr, hlo⟩)
            ⟨mm_blind, va_recv hK hP hcl (mm_rep_at ecell), fun U hU hW => ⟨rfl, by rw [hU], by rw [hU]; exact hP, va_K.moved hW.alike hK, mm_nw_warm hW hNW, mm_ty_moved hW.alike hTy, hD.weaken (fun _ _ _ _ => trivial)⟩⟩ rfl (by rw [List.length_map, hAs, List.length_reverse, hlen]) hl.1 (by show st.map _ = _; rw [hst, hAs]; simp [mm_cv]) (lv_room (by rw [mm_cat_sum]; exact e2)) hd ⟨hcs.1, hcs.2⟩
          refine mm_after run hA hAz (fun H1 locs1 hA1 => ?_)
          have z := kk H1 locs1 ls hA1
          cases v with
          | none => exact z
          | some v => exact z
        · cases hex
      · cases hex
    · cases hex
  · cases hex
theorem mm_s_stat {p : Program} {l : Launch} {e : Env} {R : Room} {s : State} {m : MethodId} {args : Array Value} {below : List Frame} {meth : Method} {c : Code} {cells slots : Nat} {Q : State → Prop} {cc : ByteArray} {D : va_G} {A : Nat → Prop} {ρ : Nat → Nat} {κ : Nat → ClassId} {b nL : Nat} {H : Heap} {locs : List Loc} {ls : Array Slot} {pc nx : Nat} {L : mm_L} {st : List Value} {h : mm_H} {X : mm_R} {tg : List Nat} {own : String} {Ts : List Cond} {call : Nat → List Value → mm_H → Option (Option Value × mm_H)} {i : Nat} {q : Nat × Nat × Option Nat} (hx : p.tables.exec = Jvm.exec) (hb : c.code = cc) (hml : c.maxLocals = nL) (hown : s.vm.findClass own = some m.cls) (hts : ∀ w ∈ Ts, w.before args s = true) (hK : va_K D cl [] s) (hNW : mm_nw NW s) (hAz : ∀ q, s.heap.size ≤ q → A q) (hcs : cells ≤ R.cells ∧ slots ≤ R.slots) (hok : ∀ (k : Nat) (M : mm_M), k < nM → mm_nth G k = some M → mm_ok G Y WS RM BC cl nM NW k M) (hw : mm_word G Y WS RM cl nM NW own Ts R i (.inr (.inr q))) (hcall : ∀ (k : Nat) (M : mm_M) (As : List Value) (v : Option Value) (h1 : mm_H) (sz : Nat), k < nM → mm_nth G k = some M → call k As h = some (v, h1) → Met l (Y k) (WS k) (RM k) (va_Pc (As.map (mm_cv ρ b)) (mm_Pre NW D cl ρ κ b h sz)) (mm_Post D cl ρ κ b h v h1 sz) 0 0 (va_A (mm_rep ρ κ b h) sz)) (hc : mm_chk cc pc (.invokestatic i, nx, tg) = true) (hex : mm_ivs call nx L st h q = some X) (hA : mm_At D cl A ρ κ b nL s H locs ls L h) (kk : mm_kk p l e R s m args below meth c cells slots Q D cl A ρ κ b nL X) : W p l e R s m args below meth c H locs cells slots Q (F0 m pc ls (st.map (mm_cv ρ b))) := by
  obtain ⟨hd, rfl, -⟩ := mm_chk_sp hc
  unfold mm_ivs at hex
  split at hex
  · rename_i As r eci etk
    obtain ⟨Bk, hAs, hst, hlen⟩ := mm_take_eq _ _ _ _ _ etk
    rw [List.append_nil] at hAs
    unfold mm_cs1 at hex
    split at hex
    · rename_i e2
      have e2 := Nat.le_of_ble_eq_true e2
      obtain ⟨v, h1, ecall, rfl⟩ := mm_back_sp hex
      obtain ⟨hk, M2, hM2, hfr, hlo, hnm, hrest⟩ := hw
      rw [eci] at hrest
      obtain ⟨⟨ws', hws⟩, -, hz1, hz2, -⟩ := hok q.1 M2 hk hM2
      have hM := hcall q.1 M2 As v h1 H.size hk hM2 ecall
      obtain ⟨hP, hD, hTy, hS, hl⟩ := id hA
      have run : va_Run p l e R s m args below meth c H locs cells slots 0 0 (F0 m pc ls (st.map (mm_cv ρ b))) (r.map (mm_cv ρ b)) (mm_Post D cl ρ κ b h v h1 H.size (As.map (mm_cv ρ b)).toArray) (va_A (mm_rep ρ κ b h) H.size) := by
        rcases hrest with hrest | ⟨host, hn1, hn2, hn3, hn4⟩
        · exact va_runS (As := As.map (mm_cv ρ b)) (rest := r.map (mm_cv ρ b)) (g := F0 m pc ls (st.map (mm_cv ρ b))) (nL := nL) (Ts := Ts) (own := own) ⟨hx, hb, hml, hown, hts⟩ hM (va_cwS q.2.1 hts hrest hws hz1 hz2 hnm ⟨hfr, hlo⟩)
            ⟨mm_blind, fun U hU hW => ⟨rfl, by rw [hU], by rw [hU]; exact hP, va_K.moved hW.alike hK, mm_nw_warm hW hNW, mm_ty_moved hW.alike hTy, hD.weaken (fun _ _ _ _ => trivial)⟩⟩ rfl (by rw [List.length_map, hAs, List.length_reverse, hlen]) hl.1 (by show st.map _ = _; rw [hst, hAs]; simp) (lv_room (by rw [mm_cat_sum]; exact e2)) hd ⟨hcs.1, hcs.2⟩
        · exact va_runSN (As := As.map (mm_cv ρ b)) (rest := r.map (mm_cv ρ b)) (g := F0 m pc ls (st.map (mm_cv ρ b))) (nL := nL) (Ts := Ts) (own := own) (host := host) ⟨hx, hb, hml, hown, hts⟩ hM ⟨va_cnB q.2.1 hts hn2 hws hz1 hz2 (hNW _ hn1) (hts _ hn3) hnm ⟨hfr, hlo⟩, hts _ hn4, trivial⟩
            ⟨mm_blind, fun U hU hW => ⟨rfl, by rw [hU], by rw [hU]; exact hP, va_K.moved hW.alike hK, mm_nw_warm hW hNW, mm_ty_moved hW.alike hTy, hD.weaken (fun _ _ _ _ => trivial)⟩⟩ rfl (by rw [List.length_map, hAs, List.length_reverse, hlen]) hl.1 (by show st.map _ = _; rw [hst, hAs]; simp) (lv_room (by rw [mm_cat_sum]; exact e2)) hd ⟨hcs.1, hcs.2⟩
      refine mm_after run hA hAz (fun H1 locs1 hA1 => ?_)
      have z := kk H1 locs1 ls hA1
      cases v with
      | none => exact z
      | some v => exact z
    · cases hex
  · cases hex
set_option maxHeartbeats 4000000 in
theorem mm_step {p : Program} {l : Launch} {e : Env} {R : Room} {s : State} {m : MethodId} {args : Array Value} {below : List Frame} {meth : Method} {c : Code} {cells slots : Nat} {Q : State → Prop} {cc : ByteArray} {D : va_G} {A : Nat → Prop} {ρ : Nat → Nat} {κ : Nat → ClassId} {b nL : Nat} {H : Heap} {locs : List Loc} {ls : Array Slot} {pc nx : Nat} {L : mm_L} {st : List Value} {h : mm_H} {X : mm_R} {tg : List Nat} {own : String} {Ts : List Cond} {call : Nat → List Value → mm_H → Option (Option Value × mm_H)} {scr : mm_X} {pool : List (Nat × mm_K)} {ins : Jvm.ClassFile.Instr} (hx : p.tables.exec = Jvm.exec) (hb : c.code = cc) (hml : c.maxLocals = nL) (hown : s.vm.findClass own = some m.cls) (hts : ∀ w ∈ Ts, w.before args s = true) (hK : va_K D cl [] s) (hNW : mm_nw NW s) (hAz : ∀ q, s.heap.size ≤ q → A q) (hcs : cells ≤ R.cells ∧ slots ≤ R.slots) (hok : ∀ (k : Nat) (M : mm_M), k < nM → mm_nth G k = some M → mm_ok G Y WS RM BC cl nM NW k M) (hpool : ∀ (i : Nat) (K : mm_K), mm_look pool i = some K → mm_word G Y WS RM cl nM NW own Ts R i K) (hscr : ∀ (n : Nat) (f : Nat → Int32), scr = some (n, f) → va_X b n f s s.heap ∧ b < s.heap.size ∧ ¬ A b) (hcall : ∀ (k : Nat) (M : mm_M) (As : List Value) (v : Option Value) (h1 : mm_H) (sz : Nat), k < nM → mm_nth G k = some M → call k As h = some (v, h1) → Met l (Y k) (WS k) (RM k) (va_Pc (As.map (mm_cv ρ b)) (mm_Pre NW D cl ρ κ b h sz)) (mm_Post D cl ρ κ b h v h1 sz) 0 0 (va_A (mm_rep ρ κ b h) sz)) (hc : mm_chk cc pc (ins, nx, tg) = true) (hex : mm_ex call scr pool ins nx tg L st h = some X) (hA : mm_At D cl A ρ κ b nL s H locs ls L h) (kk : mm_kk p l e R s m args below meth c cells slots Q D cl A ρ κ b nL X) : W p l e R s m args below meth c H locs cells slots Q (F0 m pc ls (st.map (mm_cv ρ b))) := by
  cases ins
  case iconst n =>
    obtain ⟨hd, rfl, -⟩ := mm_chk_sp hc
    cases hex
    exact lv_iconst hx hb hd rfl (kk H locs ls hA)
  case bipush n =>
    obtain ⟨hd, rfl, -⟩ := mm_chk_sp hc
    cases hex
    exact lv_bipush hx hb hd rfl (kk H locs ls hA)
  case sipush n =>
    obtain ⟨hd, rfl, -⟩ := mm_chk_sp hc
    cases hex
    exact lv_sipush hx hb hd rfl (kk H locs ls hA)
  case lconst n =>
    obtain ⟨hd, rfl, -⟩ := mm_chk_sp hc
    cases hex
    exact lv_lconst hx hb hd rfl (kk H locs ls hA)
  case aconst_null =>
    obtain ⟨hd, rfl, -⟩ := mm_chk_sp hc
    cases hex
    exact lv_null hx hb hd (kk H locs ls hA)
  case ldc i =>
    obtain ⟨hd, rfl, -⟩ := mm_chk_sp hc
    simp only [mm_ex] at hex
    split at hex
    · rename_i v ev
      cases hex
      exact lv_ldc hx hb hown (hts _ (hpool i _ ev)) hd (kk H locs ls hA)
    · cases hex
  case ldc_w i =>
    obtain ⟨hd, rfl, -⟩ := mm_chk_sp hc
    simp only [mm_ex] at hex
    split at hex
    · rename_i v ev
      cases hex
      exact lv_ldcw hx hb hown (hts _ (hpool i _ ev)) hd (kk H locs ls hA)
    · cases hex
  case ldc2_w i =>
    obtain ⟨hd, rfl, -⟩ := mm_chk_sp hc
    simp only [mm_ex] at hex
    split at hex
    · rename_i v ev
      cases hex
      exact lv_ldc2 hx hb hown (hts _ (hpool i _ ev)) hd (kk H locs ls hA)
    · cases hex
  case iload_n k =>
    exact mm_s_iload_n hx hb hc hex hA kk
  case iload i =>
    exact mm_s_iload hx hb hc hex hA kk
  case lload_n k =>
    exact mm_s_lload_n hx hb hc hex hA kk
  case lload i =>
    exact mm_s_lload hx hb hc hex hA kk
  case aload_n k =>
    exact mm_s_aload_n hx hb hc hex hA kk
  case aload i =>
    exact mm_s_aload hx hb hc hex hA kk
  case istore_n k =>
    exact mm_s_istore_n hx hb hc hex hA kk
  case istore i =>
    exact mm_s_istore hx hb hc hex hA kk
  case lstore_n k =>
    exact mm_s_lstore_n hx hb hc hex hA kk
  case lstore i =>
    exact mm_s_lstore hx hb hc hex hA kk
  case astore_n k =>
    exact mm_s_astore_n hx hb hc hex hA kk
  case astore i =>
    exact mm_s_astore hx hb hc hex hA kk
  case iinc i n =>
    exact mm_s_iinc hx hb hc hex hA kk
  case iadd =>
    exact mm_s_iadd hx hb hc hex hA kk
  case isub =>
    exact mm_s_isub hx hb hc hex hA kk
  case imul =>
    exact mm_s_imul hx hb hc hex hA kk
  case iand =>
    exact mm_s_iand hx hb hc hex hA kk
  case ior =>
    exact mm_s_ior hx hb hc hex hA kk
  case ixor =>
    exact mm_s_ixor hx hb hc hex hA kk
  case ishl =>
    exact mm_s_ishl hx hb hc hex hA kk
  case ishr =>
    exact mm_s_ishr hx hb hc hex hA kk
  case iushr =>
    exact mm_s_iushr hx hb hc hex hA kk
  case ladd =>
    exact mm_s_ladd hx hb hc hex hA kk
  case lsub =>
    exact mm_s_lsub hx hb hc hex hA kk
  case lmul =>
    exact mm_s_lmul hx hb hc hex hA kk
  case land =>
    exact mm_s_land hx hb hc hex hA kk
  case lor =>
    exact mm_s_lor hx hb hc hex hA kk
  case lxor =>
    exact mm_s_lxor hx hb hc hex hA kk
  case idiv =>
    exact mm_s_idiv hx hb hc hex hA kk
  case irem =>
    exact mm_s_irem hx hb hc hex hA kk
  case ldiv =>
    exact mm_s_ldiv hx hb hc hex hA kk
  case lrem =>
    exact mm_s_lrem hx hb hc hex hA kk
  case lshl =>
    exact mm_s_lshl hx hb hc hex hA kk
  case lshr =>
    exact mm_s_lshr hx hb hc hex hA kk
  case ineg =>
    obtain ⟨hd, rfl, -⟩ := mm_chk_sp hc
    simp only [mm_ex] at hex
    split at hex
    · cases hex
      exact lv_ineg hx hb hd (kk H locs ls hA)
    · cases hex
  case lneg =>
    obtain ⟨hd, rfl, -⟩ := mm_chk_sp hc
    simp only [mm_ex] at hex
    split at hex
    · cases hex
      exact lv_lneg hx hb hd (kk H locs ls hA)
    · cases hex
  case lcmp =>
    obtain ⟨hd, rfl, -⟩ := mm_chk_sp hc
    simp only [mm_ex] at hex
    split at hex
    · cases hex
      exact W.lcmp hx hb hd (kk H locs ls hA)
    · cases hex
  case i2l =>
    obtain ⟨hd, rfl, -⟩ := mm_chk_sp hc
    simp only [mm_ex] at hex
    split at hex
    · cases hex
      exact lv_i2l hx hb hd rfl (kk H locs ls hA)
    · cases hex
  case l2i =>
    obtain ⟨hd, rfl, -⟩ := mm_chk_sp hc
    simp only [mm_ex] at hex
    split at hex
    · cases hex
      exact lv_l2i hx hb hd rfl (kk H locs ls hA)
    · cases hex
  case dup =>
    obtain ⟨hd, rfl, -⟩ := mm_chk_sp hc
    simp only [mm_ex] at hex
    split at hex
    · cases hex
      exact lv_dup hx hb hd rfl (kk H locs ls hA)
    · cases hex
      exact lv_dup hx hb hd rfl (kk H locs ls hA)
    · cases hex
  case dup2 =>
    obtain ⟨hd, rfl, -⟩ := mm_chk_sp hc
    simp only [mm_ex] at hex
    split at hex
    · cases hex
      exact lv_dup2_11 hx hb hd rfl rfl (kk H locs ls hA)
    · cases hex
  case pop =>
    obtain ⟨hd, rfl, -⟩ := mm_chk_sp hc
    simp only [mm_ex] at hex
    split at hex
    · cases hex
      exact lv_pop hx hb hd rfl (kk H locs ls hA)
    · cases hex
  case goto o =>
    exact mm_s_goto hx hb hc hex hA kk
  case ifCond co o =>
    simp only [mm_ex] at hex
    split at hex
    · exact mm_s_if hx hb hc hex hA kk
    · cases hex
  case if_icmp co o =>
    simp only [mm_ex] at hex
    split at hex
    · exact mm_s_icmp hx hb hc hex hA kk
    · cases hex
  case ifnull o =>
    exact mm_s_ifnull hx hb hc hex hA kk
  case ifnonnull o =>
    exact mm_s_ifnonnull hx hb hc hex hA kk
  case tableswitch d lo hi offs =>
    exact mm_s_tsw hx hb hc hex hA kk
  case iaload =>
    exact mm_s_iaload hK hscr hx hb hc hex hA kk
  case laload =>
    exact mm_s_laload hK hx hb hc hex hA kk
  case baload =>
    exact mm_s_baload hK hx hb hc hex hA kk
  case iastore =>
    exact mm_s_iastore hK hx hb hc hex hA kk
  case lastore =>
    exact mm_s_lastore hK hx hb hc hex hA kk
  case bastore =>
    exact mm_s_bastore hK hx hb hc hex hA kk
  case arraylength =>
    exact mm_s_arraylength hK hscr hx hb hc hex hA kk
  case getfield i =>
    simp only [mm_ex] at hex
    split at hex
    · rename_i q ev
      exact mm_s_getfield hown hts hK (hpool i _ ev) hx hb hc hex hA kk
    · cases hex
  case putfield i =>
    simp only [mm_ex] at hex
    split at hex
    · rename_i q ev
      exact mm_s_putfield hown hts hK (hpool i _ ev) hx hb hc hex hA kk
    · cases hex
  case invokevirtual i =>
    simp only [mm_ex] at hex
    split at hex
    · rename_i q ev
      exact mm_s_virt G Y WS RM BC cl nM NW hx hb hml hown hts hK hNW hAz hcs hok (hpool i _ ev) hcall hc hex hA kk
    · cases hex
  case invokestatic i =>
    simp only [mm_ex] at hex
    split at hex
    · rename_i q ev
      exact mm_s_stat G Y WS RM BC cl nM NW hx hb hml hown hts hK hNW hAz hcs hok (hpool i _ ev) hcall hc hex hA kk
    · cases hex
  all_goals exact nomatch (show (none : Option mm_R) = some X from hex)
/-- A RUN IS A WALK -/
theorem mm_W (l : Launch) {D : va_G} {ρ : Nat → Nat} {κ : Nat → ClassId} {b : Nat} (hok : ∀ (k : Nat) (M : mm_M), k < nM → mm_nth G k = some M → mm_ok G Y WS RM BC cl nM NW k M) (n : Nat)
    (hcall : ∀ (n' : Nat), n' < n → ∀ (k : Nat) (M : mm_M) (As : List Value) (h : mm_H) (v : Option Value) (h1 : mm_H) (sz : Nat), k < nM → mm_nth G k = some M → (mm_lay As).length ≤ M.2.2.1 → mm_run G n' none k 0 (mm_pad (mm_lay As) M.2.2.1) [] h = some (v, h1) → Met l (Y k) (WS k) (RM k) (va_Pc (As.map (mm_cv ρ b)) (mm_Pre NW D cl ρ κ b h sz)) (mm_Post D cl ρ κ b h v h1 sz) 0 0 (va_A (mm_rep ρ κ b h) sz)) :
    ∀ {p : Program} {e : Env} {R : Room} {s : State} {m : MethodId} {args : Array Value} {below : List Frame} {meth : Method} {c : Code} {cells slots : Nat} {Q : State → Prop} {cc : ByteArray} {A : Nat → Prop} {nL k : Nat} {M : mm_M} {own : String} {Ts : List Cond} {scr : mm_X} {v : Option Value} {h1 : mm_H},
    p.tables.exec = Jvm.exec → c.code = cc → c.maxLocals = nL → s.vm.findClass own = some m.cls → (∀ w ∈ Ts, w.before args s = true) → va_K D cl [] s → mm_nw NW s → (∀ q, s.heap.size ≤ q → A q) → (cells ≤ R.cells ∧ slots ≤ R.slots) → mm_nth G k = some M → mm_okW G Y WS RM cl nM NW own cc Ts R M → (∀ (n : Nat) (f : Nat → Int32), scr = some (n, f) → va_X b n f s s.heap ∧ b < s.heap.size ∧ ¬ A b) →
    (∀ (pc nx : Nat) (tg : List Nat) (ins : Jvm.ClassFile.Instr) (st : List Value) (L : mm_L) (H : Heap) (locs : List Loc) (ls : Array Slot), mm_chk cc pc (ins, nx, tg) = true → mm_ret M.2.2.2 ins st = some v → mm_At D cl A ρ κ b nL s H locs ls L h1 → W p l e R s m args below meth c H locs cells slots Q (F0 m pc ls (st.map (mm_cv ρ b)))) →
    ∀ (pc : Nat) (L : mm_L) (st : List Value) (h : mm_H) (H : Heap) (locs : List Loc) (ls : Array Slot), mm_run G n scr k pc L st h = some (v, h1) → mm_At D cl A ρ κ b nL s H locs ls L h → W p l e R s m args below meth c H locs cells slots Q (F0 m pc ls (st.map (mm_cv ρ b))) := by
  induction n with
  | zero =>
    intro p e R s m args below meth c cells slots Q cc A nL k M own Ts scr v h1 hx hb hml hown hts hK hNW hAz hcs hM hokW hscr hret pc L st h H locs ls hrun
    simp only [mm_run] at hrun
    cases hrun
  | succ n ih =>
    intro p e R s m args below meth c cells slots Q cc A nL k M own Ts scr v h1 hx hb hml hown hts hK hNW hAz hcs hM hokW hscr hret pc L st h H locs ls hrun hA
    simp only [mm_run, hM] at hrun
    split at hrun
    · rename_i x ex
      have hc := hokW.1 pc x ex
      split at hrun
      · rename_i v' ev
        cases hrun
        exact hret pc x.2.1 x.2.2 x.1 st L H locs ls hc ev hA
      · split at hrun
        · rename_i pc' L' st' h' eex
          refine mm_step G Y WS RM BC cl nM NW (X := (pc', L', st', h')) hx hb hml hown hts hK hNW hAz hcs hok hokW.2 hscr ?_ hc eex hA (fun H2 locs2 ls2 hA2 => ?_)
          · intro k2 M2 As v2 h2 sz hk2 hM2 hc2
            simp only [mm_cal, hM2] at hc2
            split at hc2
            · rename_i eble
              exact hcall n (Nat.lt_succ_self n) k2 M2 As h v2 h2 sz hk2 hM2 (Nat.le_of_ble_eq_true eble) hc2
            · cases hc2
          · exact ih (fun n' hn' => hcall n' (Nat.lt_succ_of_lt hn')) hx hb hml hown hts hK hNW hAz hcs hM hokW hscr hret pc' L' st' h' H2 locs2 ls2 hrun hA2
        · cases hrun
    · cases hrun
theorem mm_lay_sl (ρ : Nat → Nat) (b : Nat) : ∀ (As : List Value), (lg_sl (As.map (mm_cv ρ b))).length = (mm_lay As).length
  | [] => rfl
  | v :: t => by
    have ih := mm_lay_sl ρ b t
    simp only [lg_sl, List.map_cons, List.flatMap_cons, List.length_append, mm_lay] at ih ⊢
    rw [mm_cv_cat]
    by_cases hv : v.category = 2
    · rw [hv]
      simp [Nat.beq, ih]
      omega
    · have : Nat.beq v.category 2 = false := by
        cases hq : Nat.beq v.category 2 with
        | false => rfl
        | true => exact absurd (Nat.eq_of_beq_eq_true hq) hv
      rw [this, if_neg hv]
      simp [ih]
      omega
theorem mm_lay_get (ρ : Nat → Nat) (b : Nat) : ∀ (As : List Value) (o i : Nat) (v : Value), (mm_lay As)[i]? = some (some v) → (o + i, mm_cv ρ b v) ∈ lv_args o (As.map (mm_cv ρ b))
  | [], o, i, v, h => by simp [mm_lay] at h
  | w :: t, o, i, v, h => by
    simp only [mm_lay] at h
    simp only [List.map_cons, lv_args, mm_cv_cat]
    by_cases hv : w.category = 2
    · rw [hv] at h
      rw [if_pos hv]
      match i, h with
      | 0, h =>
        have : w = v := by simpa [Nat.beq] using h
        subst this
        exact List.mem_cons_self
      | 1, h => simp [Nat.beq] at h
      | i + 2, h =>
        refine List.mem_cons_of_mem _ ?_
        have h2 : (mm_lay t)[i]? = some (some v) := by simpa [Nat.beq] using h
        have z := mm_lay_get ρ b t (o + 2) i v h2
        rwa [show o + 2 + i = o + (i + 2) by omega] at z
    · have hq : Nat.beq w.category 2 = false := by
        cases hq : Nat.beq w.category 2 with
        | false => rfl
        | true => exact absurd (Nat.eq_of_beq_eq_true hq) hv
      rw [hq] at h
      rw [if_neg hv]
      match i, h with
      | 0, h =>
        have : w = v := by simpa using h
        subst this
        exact List.mem_cons_self
      | i + 1, h =>
        refine List.mem_cons_of_mem _ ?_
        have h2 : (mm_lay t)[i]? = some (some v) := by simpa using h
        have z := mm_lay_get ρ b t (o + 1) i v h2
        rwa [show o + 1 + i = o + (i + 1) by omega] at z
theorem mm_pad_get : ∀ (L : mm_L) (n i : Nat) (v : Value), (mm_pad L n)[i]? = some (some v) → L[i]? = some (some v)
  | [], 0, i, v, h => by simp [mm_pad] at h
  | [], n + 1, i, v, h => by
    simp only [mm_pad] at h
    cases i with
    | zero => simp at h
    | succ i =>
      have z := mm_pad_get [] n i v (by simpa using h)
      simp at z
  | x :: l, 0, i, v, h => h
  | x :: l, n + 1, i, v, h => by
    simp only [mm_pad] at h
    cases i with
    | zero => simpa using h
    | succ i =>
      have z := mm_pad_get l n i v (by simpa using h)
      simpa using z
theorem mm_pad_len : ∀ (L : mm_L) (n : Nat), L.length ≤ n → (mm_pad L n).length = n
  | [], 0, _ => rfl
  | [], n + 1, _ => by
    simp only [mm_pad, List.length_cons]
    rw [mm_pad_len [] n (Nat.zero_le n)]
  | x :: l, 0, h => by simp at h
  | x :: l, n + 1, h => by
    simp only [mm_pad, List.length_cons]
    rw [mm_pad_len l n (by simpa using h)]
/-- A RUN IS A CONTRACT -/
theorem mm_Met (l : Launch) {D : va_G} {ρ : Nat → Nat} {κ : Nat → ClassId} {b : Nat} (hok : ∀ (k : Nat) (M : mm_M), k < nM → mm_nth G k = some M → mm_ok G Y WS RM BC cl nM NW k M) :
    ∀ (n : Nat) (k : Nat) (M : mm_M) (As : List Value) (h : mm_H) (v : Option Value) (h1 : mm_H) (sz : Nat), k < nM → mm_nth G k = some M → (mm_lay As).length ≤ M.2.2.1 → mm_run G n none k 0 (mm_pad (mm_lay As) M.2.2.1) [] h = some (v, h1) → Met l (Y k) (WS k) (RM k) (va_Pc (As.map (mm_cv ρ b)) (mm_Pre NW D cl ρ κ b h sz)) (mm_Post D cl ρ κ b h v h1 sz) 0 0 (va_A (mm_rep ρ κ b h) sz) := by
  intro n
  induction n using Nat.strongRecOn with
  | _ n IH =>
    intro k M As h v h1 sz hk hM hlay hrun
    obtain ⟨⟨ws', hws⟩, hpl, hz1, hz2, hokW⟩ := hok k M hk hM
    refine Met.ofW (cc := BC k) (maxL := M.2.2.1) (ret := M.2.2.2) hpl hws ?_
    intro p e s m args below meth c s₁ B hml hv
    obtain ⟨rfl, hsz, hP, hK, hNW, hT, hD0⟩ := hv
    subst hsz
    have hx := B.exec
    have hb := B.bytes
    have hr := B.returns
    have hts := atoms_spec (ws := WS k) B.pre
    have hown : s.vm.findClass (Y k).cls = some m.cls := findClass_of_methodNamed B.named
    have hlocks := B.notSynchronized
    have hl := lv_entry (As.map (mm_cv ρ b)) (n := M.2.2.1) (by rw [mm_lay_sl]; exact hlay)
    rw [lg_entry_eq]
    generalize (lg_sl (As.map (mm_cv ρ b)) ++ List.replicate (M.2.2.1 - (lg_sl (As.map (mm_cv ρ b))).length) Slot.unset).toArray = ls at hl ⊢
    have hloc : mm_loc ρ b M.2.2.1 ls (mm_pad (mm_lay As) M.2.2.1) := ⟨hl.1, mm_pad_len _ _ hlay, hl.2.1, fun i w hi => by
      have z := hl.2.2 _ (mm_lay_get ρ b As 0 i w (mm_pad_get _ _ _ _ hi))
      simpa using z⟩
    refine mm_W G Y WS RM BC cl nM NW l hok n IH (scr := none) (A := va_A (mm_rep ρ κ b h) s.heap.size) hx hb hml hown hts hK hNW (fun q hq => Or.inr hq) ⟨Nat.zero_le _, Nat.zero_le _⟩ hM hokW (fun n f hf => by cases hf) ?_ 0 _ [] h s.heap [] ls hrun ⟨hP, hD0.self, hT, va_S.rf, hloc⟩
    intro pc nx tg ins st L H locs ls hc hret hA
    obtain ⟨hd, -, -⟩ := mm_chk_sp hc
    obtain ⟨hP1, hD1, hT1, hS1, hl1⟩ := hA
    unfold mm_ret at hret
    split at hret
    · split at hret
      · rename_i x er
        cases hret
        exact W.iret (v := x) hx hb (by rw [hr, er]) (fun t ht hW => ⟨rfl, by rw [ht]; exact hP1, mm_ty_moved hW.alike hT1, hD1, hS1.F ht⟩) hS1.2.2 hd
      · rename_i x er
        split at hret
        · rename_i hz
          cases hret
          exact W.zret (v := x) (ty := .boolean) hx hb (by rw [hr, er]) (by rw [mm_narz, hz]) (fun t ht hW => ⟨rfl, by rw [ht]; exact hP1, mm_ty_moved hW.alike hT1, hD1, hS1.F ht⟩) hS1.2.2 hd
        · cases hret
      · cases hret
    · split at hret
      · rename_i C x er
        cases hret
        exact W.aret (v := .ref (ρ x)) (rt := .object C) hx hb (by rw [hr, er]) (Or.inl ⟨_, rfl⟩) (Or.inr ⟨_, rfl⟩) (fun t ht hW => ⟨rfl, by rw [ht]; exact hP1, mm_ty_moved hW.alike hT1, hD1, hS1.F ht⟩) hS1.2.2 hd
      · rename_i C er
        cases hret
        exact W.aret (v := .null) (rt := .object C) hx hb (by rw [hr, er]) (Or.inl ⟨_, rfl⟩) (Or.inl rfl) (fun t ht hW => ⟨rfl, by rw [ht]; exact hP1, mm_ty_moved hW.alike hT1, hD1, hS1.F ht⟩) hS1.2.2 hd
      · cases hret
    · split at hret
      · rename_i x er
        cases hret
        exact W.lret (v := x) hx hb (by rw [hr, er]) (fun t ht hW => ⟨rfl, by rw [ht]; exact hP1, mm_ty_moved hW.alike hT1, hD1, hS1.F ht⟩) hS1.2.2 hd
      · cases hret
    · split at hret
      · rename_i er
        cases hret
        exact W.vret hx hb (by rw [hr, er]) (fun t ht hW => ⟨rfl, by rw [ht]; exact hP1, mm_ty_moved hW.alike hT1, hD1, hS1.F ht⟩) hS1.2.2 hd
      · cases hret
    · cases hret
end MMT
end
section
/-! RUNS AS SUCH: more fuel does no harm; a stretch, a call, a return. -/
theorem mm_back_more {nx : Nat} {L : mm_L} {r : List Value} {o o' : Option (Option Value × mm_H)} {X : mm_R} (ho : ∀ q, o = some q → o' = some q) (h : mm_back nx L r o = some X) : mm_back nx L r o' = some X := by
  obtain ⟨v, h1, e1, -⟩ := mm_back_sp h
  rw [ho _ e1, ← e1]
  exact h
theorem mm_ex_more {call call' : Nat → List Value → mm_H → Option (Option Value × mm_H)} (hc : ∀ j As g q, call j As g = some q → call' j As g = some q) {scr : mm_X} {pool : List (Nat × mm_K)} {ins : Jvm.ClassFile.Instr} {nx : Nat} {tg : List Nat} {L : mm_L} {st : List Value} {h : mm_H} {X : mm_R} (hex : mm_ex call scr pool ins nx tg L st h = some X) : mm_ex call' scr pool ins nx tg L st h = some X := by
  cases ins
  case invokevirtual i =>
    simp only [mm_ex] at hex ⊢
    split at hex
    · rename_i q ev
      unfold mm_ivv at hex ⊢
      split at hex
      · rename_i ci As r e1 e2
        unfold mm_cv1 at hex ⊢
        split at hex
        · rename_i b r'
          split at hex
          · rename_i cj fs e3
            split at hex
            · exact mm_back_more (hc _ _ _) hex
            · cases hex
          · cases hex
        · cases hex
      · cases hex
    · cases hex
  case invokestatic i =>
    simp only [mm_ex] at hex ⊢
    split at hex
    · rename_i q ev
      unfold mm_ivs at hex ⊢
      split at hex
      · rename_i As r e1 e2
        unfold mm_cs1 at hex ⊢
        split at hex
        · exact mm_back_more (hc _ _ _) hex
        · cases hex
      · cases hex
    · cases hex
  all_goals exact hex
theorem mm_run_more {G : List mm_M} : ∀ (n : Nat) (scr : mm_X) (k pc : Nat) (L : mm_L) (st : List Value) (h : mm_H) (r : Option Value × mm_H), mm_run G n scr k pc L st h = some r → mm_run G (n + 1) scr k pc L st h = some r := by
  intro n
  induction n with
  | zero =>
    intro scr k pc L st h r hr
    simp only [mm_run] at hr
    cases hr
  | succ n ih =>
    intro scr k pc L st h r hr
    rw [mm_run] at hr ⊢
    split at hr
    · cases hr
    · rename_i M hM
      split at hr
      · rename_i x ex
        split at hr
        · exact hr
        · split at hr
          · rename_i pc' L' st' h' eex
            have e2 := mm_ex_more (call' := mm_cal G (fun j L g => mm_run G (n + 1) none j 0 L [] g)) (fun j As g q hq => by
                unfold mm_cal at hq ⊢
                split at hq
                · cases hq
                · split at hq
                  · exact ih _ _ _ _ _ _ _ hq
                  · cases hq) eex
            rw [e2]
            exact ih _ _ _ _ _ _ _ hr
          · cases hr
      · cases hr
theorem mm_run_le {G : List mm_M} {n m : Nat} (hnm : n ≤ m) {scr : mm_X} {k pc : Nat} {L : mm_L} {st : List Value} {h : mm_H} {r : Option Value × mm_H} (hr : mm_run G n scr k pc L st h = some r) : mm_run G m scr k pc L st h = some r := by
  obtain ⟨d, rfl⟩ := Nat.le.dest hnm
  induction d with
  | zero => exact hr
  | succ d ih => exact mm_run_more _ _ _ _ _ _ _ _ (ih (Nat.le_add_right n d))
/-- it ends so -/
def mm_E (G : List mm_M) (scr : mm_X) (k pc : Nat) (L : mm_L) (st : List Value) (h : mm_H) (r : Option Value × mm_H) : Prop := ∃ n, mm_run G n scr k pc L st h = some r
/-- a call of method k ends so -/
def mm_EC (G : List mm_M) (k : Nat) (As : List Value) (h : mm_H) (r : Option Value × mm_H) : Prop := ∃ M : mm_M, mm_nth G k = some M ∧ Nat.ble (mm_lay As).length M.2.2.1 = true ∧ mm_E G none k 0 (mm_pad (mm_lay As) M.2.2.1) [] h r
theorem mm_E.go {G : List mm_M} {scr : mm_X} {k pc pc' : Nat} {L L' : mm_L} {st st' : List Value} {h h' : mm_H} {r : Option Value × mm_H} (d : Nat) (hs : ∀ n, mm_run G (n + d) scr k pc L st h = mm_run G n scr k pc' L' st' h') (he : mm_E G scr k pc' L' st' h' r) : mm_E G scr k pc L st h r := by
  obtain ⟨n, hn⟩ := he
  exact ⟨n + d, by rw [hs]; exact hn⟩
theorem mm_E.call {G : List mm_M} {scr : mm_X} {k pc nx j : Nat} {M : mm_M} {x : mm_I} {L L' : mm_L} {st st' As : List Value} {h h1 h' : mm_H} {v : Option Value} {r : Option Value × mm_H} (hM : mm_nth G k = some M) (hI : mm_nth M.1 pc = some (some x)) (hr : mm_ret M.2.2.2 x.1 st = none)
    (hex : ∀ call : Nat → List Value → mm_H → Option (Option Value × mm_H), call j As h = some (v, h1) → mm_ex call scr M.2.1 x.1 x.2.1 x.2.2 L st h = some (nx, L', st', h')) (hc : mm_EC G j As h (v, h1)) (he : mm_E G scr k nx L' st' h' r) : mm_E G scr k pc L st h r := by
  obtain ⟨n, hn⟩ := he
  obtain ⟨Mj, h1, h2, n2, h3⟩ := hc
  refine ⟨n + n2 + 1, ?_⟩
  rw [mm_run]
  simp only [hM, hI, hr]
  rw [hex _ (by simp only [mm_cal, h1, h2]; exact mm_run_le (Nat.le_add_left n2 n) h3)]
  exact mm_run_le (Nat.le_add_right n n2) hn
theorem mm_E.ret {G : List mm_M} {scr : mm_X} {k pc : Nat} {M : mm_M} {x : mm_I} {L : mm_L} {st : List Value} {h : mm_H} {v : Option Value} (hM : mm_nth G k = some M) (hI : mm_nth M.1 pc = some (some x)) (hr : mm_ret M.2.2.2 x.1 st = some v) : mm_E G scr k pc L st h (v, h) := by
  refine ⟨1, ?_⟩
  rw [mm_run]
  simp only [hM, hI, hr]
end
