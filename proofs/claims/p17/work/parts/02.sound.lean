/-! THE SMALL MACHINE IS SOUND: a run of it is a walk of the real one. -/
def mm_cv (ρ : Nat → Nat) (b : Nat) : Value → Value
  | .ref i => .ref (ρ i)
  | .retAddr _ => .ref b
  | .int x => .int x
  | .long x => .long x
  | .float x => .float x
  | .double x => .double x
  | .null => .null
theorem mm_cv_cat (ρ : Nat → Nat) (b : Nat) (v : Value) : (mm_cv ρ b v).category = v.category := by cases v <;> rfl
def mm_co (ρ : Nat → Nat) (κ : Nat → ClassId) (b : Nat) (i : Nat) (c : mm_C) : Nat × va_E := match c with
  | .inl x => (ρ i, .inl (κ i, x.2))
  | .inr x => (ρ i, .inr (x.1, x.2.map (mm_cv ρ b)))
def mm_rep (ρ : Nat → Nat) (κ : Nat → ClassId) (b : Nat) (h : mm_H) : va_W := h.mapIdx (mm_co ρ κ b)
theorem mm_nth_eq {α : Type} (l : List α) (i : Nat) : mm_nth l i = l[i]? := by
  induction l generalizing i with
  | nil => simp [mm_nth]
  | cons x l ih => cases i with
    | zero => simp [mm_nth]
    | succ n => simp [mm_nth, ih]
theorem mm_put_eq {α : Type} {l l' : List α} {i : Nat} {v : α} (h : mm_put l i v = some l') : i < l.length ∧ l' = l.set i v := by
  induction l generalizing i l' with
  | nil => simp [mm_put] at h
  | cons x l ih => cases i with
    | zero =>
      simp only [mm_put] at h
      cases h
      exact ⟨by simp, by simp⟩
    | succ n =>
      simp only [mm_put] at h
      split at h
      · rename_i l1 e1
        cases h
        obtain ⟨h1, h2⟩ := ih e1
        subst h2
        exact ⟨by simp; omega, by simp⟩
      · cases h
theorem mm_rep_at {ρ : Nat → Nat} {κ : Nat → ClassId} {b : Nat} {h : mm_H} {i : Nat} {c : mm_C} (hc : mm_nth h i = some c) : (mm_rep ρ κ b h)[i]? = some (mm_co ρ κ b i c) := by
  rw [mm_nth_eq] at hc
  simp [mm_rep, hc]
theorem mm_rep_set {ρ : Nat → Nat} {κ : Nat → ClassId} {b : Nat} (h : mm_H) (i : Nat) (c : mm_C) : mm_rep ρ κ b (h.set i c) = (mm_rep ρ κ b h).set i (mm_co ρ κ b i c) := by
  apply List.ext_getElem?
  intro j
  unfold mm_rep
  rw [List.getElem?_mapIdx, List.getElem?_set, List.getElem?_set, List.length_mapIdx, List.getElem?_mapIdx]
  by_cases hij : i = j
  · subst hij
    by_cases hl : i < h.length
    · simp [hl]
    · simp [hl]
  · simp [hij]
def mm_ty (κ : Nat → ClassId) (h : mm_H) (U : State) : Prop := ∀ (i : Nat) (ty : FieldType) (a : vp_A), h[i]? = some (.inl (ty, a)) → ArrOfT U (κ i) ty ∧ va_RA U (κ i) ty
theorem mm_ty_moved {κ : Nat → ClassId} {h : mm_H} {u U : State} (hvm : u.vm.Alike U.vm) (hT : mm_ty κ h u) : mm_ty κ h U := fun i ty a hi => ⟨arrOfT_moved hvm (hT i ty a hi).1, (hT i ty a hi).2.moved hvm⟩
theorem mm_ty_seti {κ : Nat → ClassId} {h : mm_H} {U : State} {i : Nat} {ty : FieldType} {a a' : vp_A} (hT : mm_ty κ h U) (hc : mm_nth h i = some (.inl (ty, a))) : mm_ty κ (h.set i (.inl (ty, a'))) U := by
  intro j ty' x hj
  rw [List.getElem?_set] at hj
  by_cases e : i = j
  · subst e
    rw [if_pos rfl] at hj
    split at hj
    · cases hj
      exact hT i ty a (by rw [← mm_nth_eq]; exact hc)
    · cases hj
  · rw [if_neg e] at hj
    exact hT j ty' x hj
theorem mm_ty_setr {κ : Nat → ClassId} {h : mm_H} {U : State} {i : Nat} {q : Nat × List Value} (hT : mm_ty κ h U) : mm_ty κ (h.set i (.inr q)) U := by
  intro j ty' x hj
  rw [List.getElem?_set] at hj
  by_cases e : i = j
  · subst e
    rw [if_pos rfl] at hj
    split at hj
    · cases hj
    · cases hj
  · rw [if_neg e] at hj
    exact hT j ty' x hj
theorem mm_K1 {D : va_G} {cl : List vw_C} {κ : Nat → ClassId} {h : mm_H} {s : State} {i : Nat} {ty : FieldType} {a : vp_A} (hK : va_K D cl [] s) (hT : mm_ty κ h s) (e : mm_nth h i = some (.inl (ty, a))) : va_K D cl [(κ i, ty)] s := by
  refine ⟨hK.1, fun k q hk => ?_⟩
  cases k with
  | zero =>
    cases hk
    exact hT i ty a (by rw [← mm_nth_eq]; exact e)
  | succ n => simp at hk
/-- the locals -/
def mm_loc (ρ : Nat → Nat) (b nL : Nat) (ls : Array Slot) (L : mm_L) : Prop := ls.size = nL ∧ L.length = nL ∧ lv_wf ls ∧ ∀ (i : Nat) (v : Value), L[i]? = some (some v) → ls[i]? = some (.val (mm_cv ρ b v))
def mm_lv (ρ : Nat → Nat) (b : Nat) (L : mm_L) : List (Nat × Value) := (List.range L.length).filterMap (fun i => match L[i]? with
  | some (some v) => some (i, mm_cv ρ b v)
  | _ => none)
theorem mm_lv_mem {ρ : Nat → Nat} {b : Nat} {L : mm_L} {q : Nat × Value} : q ∈ mm_lv ρ b L ↔ ∃ v, L[q.1]? = some (some v) ∧ q.2 = mm_cv ρ b v := by
  constructor
  · intro h
    obtain ⟨i, hi, e1⟩ := List.mem_filterMap.mp h
    split at e1
    · rename_i v hv
      cases e1
      exact ⟨v, hv, rfl⟩
    · cases e1
  · intro h
    obtain ⟨v, h1, h2⟩ := h
    refine List.mem_filterMap.mpr ⟨q.1, List.mem_range.mpr (List.getElem?_eq_some_iff.mp h1).1, ?_⟩
    rw [h1]
    show some (q.1, mm_cv ρ b v) = some q
    rw [← h2]
theorem mm_loc_has {ρ : Nat → Nat} {b nL : Nat} {ls : Array Slot} {L : mm_L} (h : mm_loc ρ b nL ls L) : lv_has ls nL (mm_lv ρ b L) := ⟨h.1, h.2.2.1, fun q hq => by
  obtain ⟨v, h1, h2⟩ := mm_lv_mem.mp hq
  rw [h2]
  exact h.2.2.2 _ v h1⟩
theorem mm_cut_len (L : mm_L) (i : Nat) : (mm_cut L i).length = L.length := by
  unfold mm_cut
  split
  · rfl
  · unfold mm_cut1
    split <;> simp
theorem mm_cut_get (L : mm_L) (i j : Nat) (v : Value) (h : (mm_cut L i)[j]? = some (some v)) : L[j]? = some (some v) ∧ ¬ (j + 1 = i ∧ v.category = 2) := by
  unfold mm_cut at h
  split at h
  · exact ⟨h, fun q => by omega⟩
  · rename_i n
    unfold mm_cut1 at h
    rw [mm_nth_eq] at h
    split at h
    · rename_i x hx
      rw [List.getElem?_set] at h
      by_cases e : n = j
      · subst e
        rw [if_pos rfl] at h
        split at h <;> cases h
      · rw [if_neg e] at h
        exact ⟨h, fun q => by omega⟩
    · rename_i x hx
      rw [List.getElem?_set] at h
      by_cases e : n = j
      · subst e
        rw [if_pos rfl] at h
        split at h <;> cases h
      · rw [if_neg e] at h
        exact ⟨h, fun q => by omega⟩
    · rename_i h1 h2
      refine ⟨h, fun q => ?_⟩
      have e : j = n := by omega
      subst e
      cases v with
      | long x => exact h1 x h
      | double x => exact h2 x h
      | _ => exact absurd q.2 (by simp [Value.category])
theorem mm_st1_lt {L L' : mm_L} {i : Nat} {v : Value} (h : mm_st1 L i v = some L') : i < L.length := by
  have h1 := (mm_put_eq h).1
  rwa [mm_cut_len] at h1
theorem mm_st1_loc {ρ : Nat → Nat} {b nL : Nat} {ls' : Array Slot} {L L' : mm_L} {i : Nat} {v : Value} (hn : L.length = nL) (hL : mm_st1 L i v = some L') (h : lv_has ls' nL ((i, mm_cv ρ b v) :: (mm_lv ρ b L).filter (fun q => !(q.1 == i) && !(q.1 + 1 == i && q.2.category == 2)))) : mm_loc ρ b nL ls' L' := by
  obtain ⟨h1, h2⟩ := mm_put_eq hL
  subst h2
  refine ⟨h.1, by rw [List.length_set, mm_cut_len]; exact hn, h.2.1, fun j w hj => ?_⟩
  rw [List.getElem?_set] at hj
  by_cases e : i = j
  · subst e
    rw [if_pos rfl, if_pos h1] at hj
    cases hj
    exact h.2.2 (i, _) List.mem_cons_self
  · rw [if_neg e] at hj
    obtain ⟨a1, a2⟩ := mm_cut_get L i j w hj
    refine h.2.2 (j, mm_cv ρ b w) (List.mem_cons_of_mem _ (List.mem_filter.mpr ⟨mm_lv_mem.mpr ⟨w, a1, rfl⟩, ?_⟩))
    have e' : ¬ j = i := fun q => e q.symm
    by_cases c1 : j + 1 = i
    · have c2 : ¬ w.category = 2 := fun q => a2 ⟨c1, q⟩
      simp [e', c2, mm_cv_cat]
    · simp [e', c1]
theorem mm_st2_lt {L L' : mm_L} {i : Nat} {v : Value} (h : mm_st2 L i v = some L') : i + 1 < L.length := by
  unfold mm_st2 at h
  split at h
  · rename_i L1 e1
    have h1 := (mm_put_eq e1).1
    rwa [mm_cut_len] at h1
  · cases h
theorem mm_st2_loc {ρ : Nat → Nat} {b nL : Nat} {ls' : Array Slot} {L L' : mm_L} {i : Nat} {v : Value} (hn : L.length = nL) (hL : mm_st2 L i v = some L') (h : lv_has ls' nL ((i, mm_cv ρ b v) :: (mm_lv ρ b L).filter (fun q => !(q.1 == i) && (!(q.1 == i + 1) && !(q.1 + 1 == i && q.2.category == 2))))) : mm_loc ρ b nL ls' L' := by
  unfold mm_st2 at hL
  split at hL
  · rename_i L1 e1
    obtain ⟨h3, h4⟩ := mm_put_eq e1
    obtain ⟨h1, h2⟩ := mm_put_eq hL
    subst h4
    subst h2
    refine ⟨h.1, by rw [List.length_set, List.length_set, mm_cut_len]; exact hn, h.2.1, fun j w hj => ?_⟩
    rw [List.getElem?_set] at hj
    by_cases e : i = j
    · subst e
      rw [if_pos rfl, if_pos h1] at hj
      cases hj
      exact h.2.2 (i, _) List.mem_cons_self
    · rw [if_neg e, List.getElem?_set] at hj
      by_cases e2 : i + 1 = j
      · subst e2
        rw [if_pos rfl, if_pos h3] at hj
        cases hj
      · rw [if_neg e2] at hj
        obtain ⟨a1, a2⟩ := mm_cut_get L i j w hj
        refine h.2.2 (j, mm_cv ρ b w) (List.mem_cons_of_mem _ (List.mem_filter.mpr ⟨mm_lv_mem.mpr ⟨w, a1, rfl⟩, ?_⟩))
        have e' : ¬ j = i := fun q => e q.symm
        have e2' : ¬ j = i + 1 := fun q => e2 q.symm
        by_cases c1 : j + 1 = i
        · have c2 : ¬ w.category = 2 := fun q => a2 ⟨c1, q⟩
          simp [e', e2', c2, mm_cv_cat]
        · simp [e', e2', c1]
  · cases hL
theorem mm_take_eq : ∀ (n : Nat) (acc st As r : List Value), mm_take n acc st = some (As, r) → ∃ B : List Value, As = B.reverse ++ acc ∧ st = B ++ r ∧ B.length = n
  | 0, acc, st, As, r, h => by
    simp only [mm_take] at h
    cases h
    exact ⟨[], rfl, rfl, rfl⟩
  | n + 1, acc, v :: st, As, r, h => by
    simp only [mm_take] at h
    obtain ⟨B, h1, h2, h3⟩ := mm_take_eq n (v :: acc) st As r h
    exact ⟨v :: B, by rw [h1]; simp, by rw [h2]; rfl, by simp [h3]⟩
  | n + 1, acc, [], As, r, h => by
    simp only [mm_take] at h
    cases h
theorem mm_cat_sum (ρ : Nat → Nat) (b : Nat) (r : List Value) : ((r.map (mm_cv ρ b)).map fun v => v.category).sum = mm_cat r := by
  induction r with
  | nil => rfl
  | cons v r ih =>
    simp only [List.map_cons, List.sum_cons, mm_cat, mm_cv_cat]
    rw [ih]
/-- an instruction's width, its targets, and that it stands there -/
def mm_wid (pc : Nat) (ins : Jvm.ClassFile.Instr) : Nat := match ins with
  | .bipush _ => 2
  | .ldc _ => 2
  | .iload _ => 2
  | .lload _ => 2
  | .aload _ => 2
  | .istore _ => 2
  | .lstore _ => 2
  | .astore _ => 2
  | .sipush _ => 3
  | .ldc2_w _ => 3
  | .ldc_w _ => 3
  | .iinc _ _ => 3
  | .goto _ => 3
  | .ifCond _ _ => 3
  | .if_icmp _ _ => 3
  | .ifnull _ => 3
  | .ifnonnull _ => 3
  | .getfield _ => 3
  | .putfield _ => 3
  | .invokevirtual _ => 3
  | .invokestatic _ => 3
  | .invokespecial _ => 3
  | .new _ => 3
  | .newarray _ => 2
  | .tableswitch _ _ _ offs => 1 + (3 - pc % 4) + 12 + 4 * offs.size
  | _ => 1
def mm_tg1 (pc : Nat) (o : Int) (tg : List Nat) : Bool := match tg with
  | [t] => decide ((pc : Int) + o = (t : Int))
  | _ => false
def mm_tgok (pc : Nat) (ins : Jvm.ClassFile.Instr) (tg : List Nat) : Bool := match ins with
  | .goto o => mm_tg1 pc o tg
  | .ifCond _ o => mm_tg1 pc o tg
  | .if_icmp _ o => mm_tg1 pc o tg
  | .ifnull o => mm_tg1 pc o tg
  | .ifnonnull o => mm_tg1 pc o tg
  | .tableswitch d _ _ offs => (match tg with
    | t :: ts => decide ((pc : Int) + d = (t : Int)) && decide (ts.map (fun t : Nat => (t : Int)) = offs.toList.map (fun o => (pc : Int) + o))
    | _ => false)
  | _ => true
def mm_chk (cc : ByteArray) (pc : Nat) (x : mm_I) : Bool := decide (decode cc pc = .ok (x.1, mm_wid pc x.1)) && (decide (x.2.1 = pc + mm_wid pc x.1) && mm_tgok pc x.1 x.2.2)
theorem mm_chk_sp {cc : ByteArray} {pc nx : Nat} {ins : Jvm.ClassFile.Instr} {tg : List Nat} (h : mm_chk cc pc (ins, nx, tg) = true) : decode cc pc = .ok (ins, mm_wid pc ins) ∧ nx = pc + mm_wid pc ins ∧ mm_tgok pc ins tg = true := by
  simp only [mm_chk, Bool.and_eq_true, decide_eq_true_eq] at h
  exact h
theorem mm_narz (x : Int32) : narrow .boolean (.int x) = .int (vp_nar .boolean x) := by
  unfold vp_nar
  cases hz : narrow .boolean (.int x) <;> simp_all [narrow]
theorem mm_tg1_sp {pc : Nat} {o : Int} {tg : List Nat} (h : mm_tg1 pc o tg = true) : ∃ t : Nat, tg = [t] ∧ (pc : Int) + o = (t : Int) := by
  unfold mm_tg1 at h
  split at h
  · rename_i t
    exact ⟨t, rfl, of_decide_eq_true h⟩
  · cases h

section MMW
variable {p : Program} {l : Launch} {e : Env} {R : Room} {s : State} {m : MethodId} {args : Array Value} {below : List Frame} {meth : Method} {c : Code} {cells slots : Nat} {Q : State → Prop} {cc : ByteArray} {D : va_G} {cl : List vw_C} {A : Nat → Prop} {ρ : Nat → Nat} {κ : Nat → ClassId} {b nL : Nat} {H : Heap} {locs : List Loc} {ls : Array Slot} {pc nx : Nat} {L : mm_L} {st : List Value} {h : mm_H} {X : mm_R} {tg : List Nat}
abbrev mm_At (D : va_G) (cl : List vw_C) (A : Nat → Prop) (ρ : Nat → Nat) (κ : Nat → ClassId) (b nL : Nat) (s : State) (H : Heap) (locs : List Loc) (ls : Array Slot) (L : mm_L) (h : mm_H) : Prop := va_P D cl (mm_rep ρ κ b h) H ∧ va_D A (mm_rep ρ κ b h) ∧ mm_ty κ h s ∧ va_S A s.heap H locs ∧ mm_loc ρ b nL ls L
abbrev mm_kk (p : Program) (l : Launch) (e : Env) (R : Room) (s : State) (m : MethodId) (args : Array Value) (below : List Frame) (meth : Method) (c : Code) (cells slots : Nat) (Q : State → Prop) (D : va_G) (cl : List vw_C) (A : Nat → Prop) (ρ : Nat → Nat) (κ : Nat → ClassId) (b nL : Nat) (X : mm_R) : Prop := ∀ (H : Heap) (locs : List Loc) (ls : Array Slot), mm_At D cl A ρ κ b nL s H locs ls X.2.1 X.2.2.2 → W p l e R s m args below meth c H locs cells slots Q (F0 m X.1 ls (X.2.2.1.map (mm_cv ρ b)))

theorem mm_s_iadd (hx : p.tables.exec = Jvm.exec) (hb : c.code = cc) (hc : mm_chk cc pc (.iadd, nx, tg) = true) (hex : mm_ii nx L st h (fun x y => x + y) = some X) (hA : mm_At D cl A ρ κ b nL s H locs ls L h) (kk : mm_kk p l e R s m args below meth c cells slots Q D cl A ρ κ b nL X) : W p l e R s m args below meth c H locs cells slots Q (F0 m pc ls (st.map (mm_cv ρ b))) := by
  obtain ⟨hd, rfl, htg⟩ := mm_chk_sp hc
  unfold mm_ii at hex
  split at hex
  · cases hex
    exact lv_iadd hx hb hd (kk H locs ls hA)
  · cases hex
theorem mm_s_isub (hx : p.tables.exec = Jvm.exec) (hb : c.code = cc) (hc : mm_chk cc pc (.isub, nx, tg) = true) (hex : mm_ii nx L st h (fun x y => x - y) = some X) (hA : mm_At D cl A ρ κ b nL s H locs ls L h) (kk : mm_kk p l e R s m args below meth c cells slots Q D cl A ρ κ b nL X) : W p l e R s m args below meth c H locs cells slots Q (F0 m pc ls (st.map (mm_cv ρ b))) := by
  obtain ⟨hd, rfl, htg⟩ := mm_chk_sp hc
  unfold mm_ii at hex
  split at hex
  · cases hex
    exact lv_isub hx hb hd (kk H locs ls hA)
  · cases hex
theorem mm_s_imul (hx : p.tables.exec = Jvm.exec) (hb : c.code = cc) (hc : mm_chk cc pc (.imul, nx, tg) = true) (hex : mm_ii nx L st h (fun x y => x * y) = some X) (hA : mm_At D cl A ρ κ b nL s H locs ls L h) (kk : mm_kk p l e R s m args below meth c cells slots Q D cl A ρ κ b nL X) : W p l e R s m args below meth c H locs cells slots Q (F0 m pc ls (st.map (mm_cv ρ b))) := by
  obtain ⟨hd, rfl, htg⟩ := mm_chk_sp hc
  unfold mm_ii at hex
  split at hex
  · cases hex
    exact lv_imul hx hb hd (kk H locs ls hA)
  · cases hex
theorem mm_s_iand (hx : p.tables.exec = Jvm.exec) (hb : c.code = cc) (hc : mm_chk cc pc (.iand, nx, tg) = true) (hex : mm_ii nx L st h (fun x y => x &&& y) = some X) (hA : mm_At D cl A ρ κ b nL s H locs ls L h) (kk : mm_kk p l e R s m args below meth c cells slots Q D cl A ρ κ b nL X) : W p l e R s m args below meth c H locs cells slots Q (F0 m pc ls (st.map (mm_cv ρ b))) := by
  obtain ⟨hd, rfl, htg⟩ := mm_chk_sp hc
  unfold mm_ii at hex
  split at hex
  · cases hex
    exact lv_iand hx hb hd (kk H locs ls hA)
  · cases hex
theorem mm_s_ior (hx : p.tables.exec = Jvm.exec) (hb : c.code = cc) (hc : mm_chk cc pc (.ior, nx, tg) = true) (hex : mm_ii nx L st h (fun x y => x ||| y) = some X) (hA : mm_At D cl A ρ κ b nL s H locs ls L h) (kk : mm_kk p l e R s m args below meth c cells slots Q D cl A ρ κ b nL X) : W p l e R s m args below meth c H locs cells slots Q (F0 m pc ls (st.map (mm_cv ρ b))) := by
  obtain ⟨hd, rfl, htg⟩ := mm_chk_sp hc
  unfold mm_ii at hex
  split at hex
  · cases hex
    exact lv_ior hx hb hd (kk H locs ls hA)
  · cases hex
theorem mm_s_ixor (hx : p.tables.exec = Jvm.exec) (hb : c.code = cc) (hc : mm_chk cc pc (.ixor, nx, tg) = true) (hex : mm_ii nx L st h (fun x y => x ^^^ y) = some X) (hA : mm_At D cl A ρ κ b nL s H locs ls L h) (kk : mm_kk p l e R s m args below meth c cells slots Q D cl A ρ κ b nL X) : W p l e R s m args below meth c H locs cells slots Q (F0 m pc ls (st.map (mm_cv ρ b))) := by
  obtain ⟨hd, rfl, htg⟩ := mm_chk_sp hc
  unfold mm_ii at hex
  split at hex
  · cases hex
    exact lv_ixor hx hb hd (kk H locs ls hA)
  · cases hex
theorem mm_s_ishl (hx : p.tables.exec = Jvm.exec) (hb : c.code = cc) (hc : mm_chk cc pc (.ishl, nx, tg) = true) (hex : mm_ii nx L st h (fun x y => x <<< (y &&& 31)) = some X) (hA : mm_At D cl A ρ κ b nL s H locs ls L h) (kk : mm_kk p l e R s m args below meth c cells slots Q D cl A ρ κ b nL X) : W p l e R s m args below meth c H locs cells slots Q (F0 m pc ls (st.map (mm_cv ρ b))) := by
  obtain ⟨hd, rfl, htg⟩ := mm_chk_sp hc
  unfold mm_ii at hex
  split at hex
  · cases hex
    exact lv_ishl hx hb hd (kk H locs ls hA)
  · cases hex
theorem mm_s_ishr (hx : p.tables.exec = Jvm.exec) (hb : c.code = cc) (hc : mm_chk cc pc (.ishr, nx, tg) = true) (hex : mm_ii nx L st h (fun x y => x >>> (y &&& 31)) = some X) (hA : mm_At D cl A ρ κ b nL s H locs ls L h) (kk : mm_kk p l e R s m args below meth c cells slots Q D cl A ρ κ b nL X) : W p l e R s m args below meth c H locs cells slots Q (F0 m pc ls (st.map (mm_cv ρ b))) := by
  obtain ⟨hd, rfl, htg⟩ := mm_chk_sp hc
  unfold mm_ii at hex
  split at hex
  · cases hex
    exact lv_ishr hx hb hd (kk H locs ls hA)
  · cases hex
theorem mm_s_iushr (hx : p.tables.exec = Jvm.exec) (hb : c.code = cc) (hc : mm_chk cc pc (.iushr, nx, tg) = true) (hex : mm_ii nx L st h (fun x y => (x.toUInt32 >>> (y.toUInt32 &&& Int32.toUInt32 31)).toInt32) = some X) (hA : mm_At D cl A ρ κ b nL s H locs ls L h) (kk : mm_kk p l e R s m args below meth c cells slots Q D cl A ρ κ b nL X) : W p l e R s m args below meth c H locs cells slots Q (F0 m pc ls (st.map (mm_cv ρ b))) := by
  obtain ⟨hd, rfl, htg⟩ := mm_chk_sp hc
  unfold mm_ii at hex
  split at hex
  · cases hex
    exact lv_iushr hx hb hd rfl (kk H locs ls hA)
  · cases hex
theorem mm_s_ladd (hx : p.tables.exec = Jvm.exec) (hb : c.code = cc) (hc : mm_chk cc pc (.ladd, nx, tg) = true) (hex : mm_ll nx L st h (fun x y => x + y) = some X) (hA : mm_At D cl A ρ κ b nL s H locs ls L h) (kk : mm_kk p l e R s m args below meth c cells slots Q D cl A ρ κ b nL X) : W p l e R s m args below meth c H locs cells slots Q (F0 m pc ls (st.map (mm_cv ρ b))) := by
  obtain ⟨hd, rfl, htg⟩ := mm_chk_sp hc
  unfold mm_ll at hex
  split at hex
  · cases hex
    exact lv_ladd hx hb hd (kk H locs ls hA)
  · cases hex
theorem mm_s_lsub (hx : p.tables.exec = Jvm.exec) (hb : c.code = cc) (hc : mm_chk cc pc (.lsub, nx, tg) = true) (hex : mm_ll nx L st h (fun x y => x - y) = some X) (hA : mm_At D cl A ρ κ b nL s H locs ls L h) (kk : mm_kk p l e R s m args below meth c cells slots Q D cl A ρ κ b nL X) : W p l e R s m args below meth c H locs cells slots Q (F0 m pc ls (st.map (mm_cv ρ b))) := by
  obtain ⟨hd, rfl, htg⟩ := mm_chk_sp hc
  unfold mm_ll at hex
  split at hex
  · cases hex
    exact lv_lsub hx hb hd (kk H locs ls hA)
  · cases hex
theorem mm_s_lmul (hx : p.tables.exec = Jvm.exec) (hb : c.code = cc) (hc : mm_chk cc pc (.lmul, nx, tg) = true) (hex : mm_ll nx L st h (fun x y => x * y) = some X) (hA : mm_At D cl A ρ κ b nL s H locs ls L h) (kk : mm_kk p l e R s m args below meth c cells slots Q D cl A ρ κ b nL X) : W p l e R s m args below meth c H locs cells slots Q (F0 m pc ls (st.map (mm_cv ρ b))) := by
  obtain ⟨hd, rfl, htg⟩ := mm_chk_sp hc
  unfold mm_ll at hex
  split at hex
  · cases hex
    exact lv_lmul hx hb hd (kk H locs ls hA)
  · cases hex
theorem mm_s_land (hx : p.tables.exec = Jvm.exec) (hb : c.code = cc) (hc : mm_chk cc pc (.land, nx, tg) = true) (hex : mm_ll nx L st h (fun x y => x &&& y) = some X) (hA : mm_At D cl A ρ κ b nL s H locs ls L h) (kk : mm_kk p l e R s m args below meth c cells slots Q D cl A ρ κ b nL X) : W p l e R s m args below meth c H locs cells slots Q (F0 m pc ls (st.map (mm_cv ρ b))) := by
  obtain ⟨hd, rfl, htg⟩ := mm_chk_sp hc
  unfold mm_ll at hex
  split at hex
  · cases hex
    exact lv_land hx hb hd (kk H locs ls hA)
  · cases hex
theorem mm_s_lor (hx : p.tables.exec = Jvm.exec) (hb : c.code = cc) (hc : mm_chk cc pc (.lor, nx, tg) = true) (hex : mm_ll nx L st h (fun x y => x ||| y) = some X) (hA : mm_At D cl A ρ κ b nL s H locs ls L h) (kk : mm_kk p l e R s m args below meth c cells slots Q D cl A ρ κ b nL X) : W p l e R s m args below meth c H locs cells slots Q (F0 m pc ls (st.map (mm_cv ρ b))) := by
  obtain ⟨hd, rfl, htg⟩ := mm_chk_sp hc
  unfold mm_ll at hex
  split at hex
  · cases hex
    exact lv_lor hx hb hd (kk H locs ls hA)
  · cases hex
theorem mm_s_lxor (hx : p.tables.exec = Jvm.exec) (hb : c.code = cc) (hc : mm_chk cc pc (.lxor, nx, tg) = true) (hex : mm_ll nx L st h (fun x y => x ^^^ y) = some X) (hA : mm_At D cl A ρ κ b nL s H locs ls L h) (kk : mm_kk p l e R s m args below meth c cells slots Q D cl A ρ κ b nL X) : W p l e R s m args below meth c H locs cells slots Q (F0 m pc ls (st.map (mm_cv ρ b))) := by
  obtain ⟨hd, rfl, htg⟩ := mm_chk_sp hc
  unfold mm_ll at hex
  split at hex
  · cases hex
    exact lv_lxor hx hb hd (kk H locs ls hA)
  · cases hex
theorem mm_s_idiv (hx : p.tables.exec = Jvm.exec) (hb : c.code = cc) (hc : mm_chk cc pc (.idiv, nx, tg) = true) (hex : mm_iz nx L st h (fun x y => x / y) = some X) (hA : mm_At D cl A ρ κ b nL s H locs ls L h) (kk : mm_kk p l e R s m args below meth c cells slots Q D cl A ρ κ b nL X) : W p l e R s m args below meth c H locs cells slots Q (F0 m pc ls (st.map (mm_cv ρ b))) := by
  obtain ⟨hd, rfl, htg⟩ := mm_chk_sp hc
  unfold mm_iz at hex
  split at hex
  · split at hex
    · cases hex
    · rename_i hne
      cases hex
      exact lv_idiv hx hb hd hne (kk H locs ls hA)
  · cases hex
theorem mm_s_irem (hx : p.tables.exec = Jvm.exec) (hb : c.code = cc) (hc : mm_chk cc pc (.irem, nx, tg) = true) (hex : mm_iz nx L st h (fun x y => x - x / y * y) = some X) (hA : mm_At D cl A ρ κ b nL s H locs ls L h) (kk : mm_kk p l e R s m args below meth c cells slots Q D cl A ρ κ b nL X) : W p l e R s m args below meth c H locs cells slots Q (F0 m pc ls (st.map (mm_cv ρ b))) := by
  obtain ⟨hd, rfl, htg⟩ := mm_chk_sp hc
  unfold mm_iz at hex
  split at hex
  · split at hex
    · cases hex
    · rename_i hne
      cases hex
      exact lv_irem hx hb hd hne (kk H locs ls hA)
  · cases hex
theorem mm_s_ldiv (hx : p.tables.exec = Jvm.exec) (hb : c.code = cc) (hc : mm_chk cc pc (.ldiv, nx, tg) = true) (hex : mm_lz nx L st h (fun x y => x / y) = some X) (hA : mm_At D cl A ρ κ b nL s H locs ls L h) (kk : mm_kk p l e R s m args below meth c cells slots Q D cl A ρ κ b nL X) : W p l e R s m args below meth c H locs cells slots Q (F0 m pc ls (st.map (mm_cv ρ b))) := by
  obtain ⟨hd, rfl, htg⟩ := mm_chk_sp hc
  unfold mm_lz at hex
  split at hex
  · split at hex
    · cases hex
    · rename_i hne
      cases hex
      exact lv_ldiv hx hb hd hne (kk H locs ls hA)
  · cases hex
theorem mm_s_lrem (hx : p.tables.exec = Jvm.exec) (hb : c.code = cc) (hc : mm_chk cc pc (.lrem, nx, tg) = true) (hex : mm_lz nx L st h (fun x y => x - x / y * y) = some X) (hA : mm_At D cl A ρ κ b nL s H locs ls L h) (kk : mm_kk p l e R s m args below meth c cells slots Q D cl A ρ κ b nL X) : W p l e R s m args below meth c H locs cells slots Q (F0 m pc ls (st.map (mm_cv ρ b))) := by
  obtain ⟨hd, rfl, htg⟩ := mm_chk_sp hc
  unfold mm_lz at hex
  split at hex
  · split at hex
    · cases hex
    · rename_i hne
      cases hex
      exact lv_lrem hx hb hd hne (kk H locs ls hA)
  · cases hex
theorem mm_s_lshl (hx : p.tables.exec = Jvm.exec) (hb : c.code = cc) (hc : mm_chk cc pc (.lshl, nx, tg) = true) (hex : mm_li nx L st h (fun x y => x <<< (y.toInt64 &&& 63)) = some X) (hA : mm_At D cl A ρ κ b nL s H locs ls L h) (kk : mm_kk p l e R s m args below meth c cells slots Q D cl A ρ κ b nL X) : W p l e R s m args below meth c H locs cells slots Q (F0 m pc ls (st.map (mm_cv ρ b))) := by
  obtain ⟨hd, rfl, htg⟩ := mm_chk_sp hc
  unfold mm_li at hex
  split at hex
  · cases hex
    exact lv_lshl hx hb hd rfl (kk H locs ls hA)
  · cases hex
theorem mm_s_lshr (hx : p.tables.exec = Jvm.exec) (hb : c.code = cc) (hc : mm_chk cc pc (.lshr, nx, tg) = true) (hex : mm_li nx L st h (fun x y => x >>> (y.toInt64 &&& 63)) = some X) (hA : mm_At D cl A ρ κ b nL s H locs ls L h) (kk : mm_kk p l e R s m args below meth c cells slots Q D cl A ρ κ b nL X) : W p l e R s m args below meth c H locs cells slots Q (F0 m pc ls (st.map (mm_cv ρ b))) := by
  obtain ⟨hd, rfl, htg⟩ := mm_chk_sp hc
  unfold mm_li at hex
  split at hex
  · cases hex
    exact lv_lshr hx hb hd rfl (kk H locs ls hA)
  · cases hex
theorem mm_s_iload_n {k : Fin 4} (hx : p.tables.exec = Jvm.exec) (hb : c.code = cc) (hc : mm_chk cc pc ((.iload_n k), nx, tg) = true) (hex : mm_ild nx L st h k.val = some X) (hA : mm_At D cl A ρ κ b nL s H locs ls L h) (kk : mm_kk p l e R s m args below meth c cells slots Q D cl A ρ κ b nL X) : W p l e R s m args below meth c H locs cells slots Q (F0 m pc ls (st.map (mm_cv ρ b))) := by
  obtain ⟨hd, rfl, htg⟩ := mm_chk_sp hc
  unfold mm_ild at hex
  rw [mm_nth_eq] at hex
  split at hex
  · rename_i x ex
    cases hex
    exact lv_iload_n hx hb hd rfl (hA.2.2.2.2.2.2.2 _ _ ex) (kk H locs ls hA)
  · cases hex
theorem mm_s_iload {i : Nat} (hx : p.tables.exec = Jvm.exec) (hb : c.code = cc) (hc : mm_chk cc pc ((.iload i), nx, tg) = true) (hex : mm_ild nx L st h i = some X) (hA : mm_At D cl A ρ κ b nL s H locs ls L h) (kk : mm_kk p l e R s m args below meth c cells slots Q D cl A ρ κ b nL X) : W p l e R s m args below meth c H locs cells slots Q (F0 m pc ls (st.map (mm_cv ρ b))) := by
  obtain ⟨hd, rfl, htg⟩ := mm_chk_sp hc
  unfold mm_ild at hex
  rw [mm_nth_eq] at hex
  split at hex
  · rename_i x ex
    cases hex
    exact lv_iload hx hb hd (hA.2.2.2.2.2.2.2 _ _ ex) (kk H locs ls hA)
  · cases hex
theorem mm_s_lload_n {k : Fin 4} (hx : p.tables.exec = Jvm.exec) (hb : c.code = cc) (hc : mm_chk cc pc ((.lload_n k), nx, tg) = true) (hex : mm_lld nx L st h k.val = some X) (hA : mm_At D cl A ρ κ b nL s H locs ls L h) (kk : mm_kk p l e R s m args below meth c cells slots Q D cl A ρ κ b nL X) : W p l e R s m args below meth c H locs cells slots Q (F0 m pc ls (st.map (mm_cv ρ b))) := by
  obtain ⟨hd, rfl, htg⟩ := mm_chk_sp hc
  unfold mm_lld at hex
  rw [mm_nth_eq] at hex
  split at hex
  · rename_i x ex
    cases hex
    exact lv_lload_n hx hb hd rfl (hA.2.2.2.2.2.2.2 _ _ ex) (kk H locs ls hA)
  · cases hex
theorem mm_s_lload {i : Nat} (hx : p.tables.exec = Jvm.exec) (hb : c.code = cc) (hc : mm_chk cc pc ((.lload i), nx, tg) = true) (hex : mm_lld nx L st h i = some X) (hA : mm_At D cl A ρ κ b nL s H locs ls L h) (kk : mm_kk p l e R s m args below meth c cells slots Q D cl A ρ κ b nL X) : W p l e R s m args below meth c H locs cells slots Q (F0 m pc ls (st.map (mm_cv ρ b))) := by
  obtain ⟨hd, rfl, htg⟩ := mm_chk_sp hc
  unfold mm_lld at hex
  rw [mm_nth_eq] at hex
  split at hex
  · rename_i x ex
    cases hex
    exact lv_lload hx hb hd (hA.2.2.2.2.2.2.2 _ _ ex) (kk H locs ls hA)
  · cases hex
theorem mm_s_aload_n {k : Fin 4} (hx : p.tables.exec = Jvm.exec) (hb : c.code = cc) (hc : mm_chk cc pc ((.aload_n k), nx, tg) = true) (hex : mm_rld nx L st h k.val = some X) (hA : mm_At D cl A ρ κ b nL s H locs ls L h) (kk : mm_kk p l e R s m args below meth c cells slots Q D cl A ρ κ b nL X) : W p l e R s m args below meth c H locs cells slots Q (F0 m pc ls (st.map (mm_cv ρ b))) := by
  obtain ⟨hd, rfl, htg⟩ := mm_chk_sp hc
  unfold mm_rld at hex
  rw [mm_nth_eq] at hex
  split at hex
  · rename_i x ex
    cases hex
    exact lv_aload_n hx hb hd rfl (hA.2.2.2.2.2.2.2 _ _ ex) (kk H locs ls hA)
  · rename_i ex
    cases hex
    exact lv_aload_nN hx hb hd rfl (hA.2.2.2.2.2.2.2 _ _ ex) (kk H locs ls hA)
  · rename_i x ex
    cases hex
    exact lv_aload_n hx hb hd rfl (hA.2.2.2.2.2.2.2 _ _ ex) (kk H locs ls hA)
  · cases hex
theorem mm_s_aload {i : Nat} (hx : p.tables.exec = Jvm.exec) (hb : c.code = cc) (hc : mm_chk cc pc ((.aload i), nx, tg) = true) (hex : mm_rld nx L st h i = some X) (hA : mm_At D cl A ρ κ b nL s H locs ls L h) (kk : mm_kk p l e R s m args below meth c cells slots Q D cl A ρ κ b nL X) : W p l e R s m args below meth c H locs cells slots Q (F0 m pc ls (st.map (mm_cv ρ b))) := by
  obtain ⟨hd, rfl, htg⟩ := mm_chk_sp hc
  unfold mm_rld at hex
  rw [mm_nth_eq] at hex
  split at hex
  · rename_i x ex
    cases hex
    exact lv_aload hx hb hd (hA.2.2.2.2.2.2.2 _ _ ex) (kk H locs ls hA)
  · rename_i ex
    cases hex
    exact lv_aloadN hx hb hd (hA.2.2.2.2.2.2.2 _ _ ex) (kk H locs ls hA)
  · rename_i x ex
    cases hex
    exact lv_aload hx hb hd (hA.2.2.2.2.2.2.2 _ _ ex) (kk H locs ls hA)
  · cases hex
theorem mm_s_istore_n {k : Fin 4} (hx : p.tables.exec = Jvm.exec) (hb : c.code = cc) (hc : mm_chk cc pc ((.istore_n k), nx, tg) = true) (hex : mm_ist nx L st h k.val = some X) (hA : mm_At D cl A ρ κ b nL s H locs ls L h) (kk : mm_kk p l e R s m args below meth c cells slots Q D cl A ρ κ b nL X) : W p l e R s m args below meth c H locs cells slots Q (F0 m pc ls (st.map (mm_cv ρ b))) := by
  obtain ⟨hd, rfl, htg⟩ := mm_chk_sp hc
  unfold mm_ist at hex
  split at hex
  · unfold mm_goL at hex
    split at hex
    · rename_i L' e1
      cases hex
      exact lv_istore_n hx hb hd rfl (mm_loc_has hA.2.2.2.2) (by rw [← hA.2.2.2.2.2.1]; exact mm_st1_lt e1) rfl (fun ls' hl' => kk H locs ls' ⟨hA.1, hA.2.1, hA.2.2.1, hA.2.2.2.1, mm_st1_loc hA.2.2.2.2.2.1 e1 hl'⟩)
    · cases hex
  · cases hex
theorem mm_s_istore {i : Nat} (hx : p.tables.exec = Jvm.exec) (hb : c.code = cc) (hc : mm_chk cc pc ((.istore i), nx, tg) = true) (hex : mm_ist nx L st h i = some X) (hA : mm_At D cl A ρ κ b nL s H locs ls L h) (kk : mm_kk p l e R s m args below meth c cells slots Q D cl A ρ κ b nL X) : W p l e R s m args below meth c H locs cells slots Q (F0 m pc ls (st.map (mm_cv ρ b))) := by
  obtain ⟨hd, rfl, htg⟩ := mm_chk_sp hc
  unfold mm_ist at hex
  split at hex
  · unfold mm_goL at hex
    split at hex
    · rename_i L' e1
      cases hex
      exact lv_istore hx hb hd (mm_loc_has hA.2.2.2.2) (by rw [← hA.2.2.2.2.2.1]; exact mm_st1_lt e1) rfl (fun ls' hl' => kk H locs ls' ⟨hA.1, hA.2.1, hA.2.2.1, hA.2.2.2.1, mm_st1_loc hA.2.2.2.2.2.1 e1 hl'⟩)
    · cases hex
  · cases hex
theorem mm_s_lstore_n {k : Fin 4} (hx : p.tables.exec = Jvm.exec) (hb : c.code = cc) (hc : mm_chk cc pc ((.lstore_n k), nx, tg) = true) (hex : mm_lst nx L st h k.val = some X) (hA : mm_At D cl A ρ κ b nL s H locs ls L h) (kk : mm_kk p l e R s m args below meth c cells slots Q D cl A ρ κ b nL X) : W p l e R s m args below meth c H locs cells slots Q (F0 m pc ls (st.map (mm_cv ρ b))) := by
  obtain ⟨hd, rfl, htg⟩ := mm_chk_sp hc
  unfold mm_lst at hex
  split at hex
  · unfold mm_goL at hex
    split at hex
    · rename_i L' e1
      cases hex
      exact lv_lstore_n hx hb hd rfl (mm_loc_has hA.2.2.2.2) (by rw [← hA.2.2.2.2.2.1]; exact mm_st2_lt e1) rfl (fun ls' hl' => kk H locs ls' ⟨hA.1, hA.2.1, hA.2.2.1, hA.2.2.2.1, mm_st2_loc hA.2.2.2.2.2.1 e1 hl'⟩)
    · cases hex
  · cases hex
theorem mm_s_lstore {i : Nat} (hx : p.tables.exec = Jvm.exec) (hb : c.code = cc) (hc : mm_chk cc pc ((.lstore i), nx, tg) = true) (hex : mm_lst nx L st h i = some X) (hA : mm_At D cl A ρ κ b nL s H locs ls L h) (kk : mm_kk p l e R s m args below meth c cells slots Q D cl A ρ κ b nL X) : W p l e R s m args below meth c H locs cells slots Q (F0 m pc ls (st.map (mm_cv ρ b))) := by
  obtain ⟨hd, rfl, htg⟩ := mm_chk_sp hc
  unfold mm_lst at hex
  split at hex
  · unfold mm_goL at hex
    split at hex
    · rename_i L' e1
      cases hex
      exact lv_lstore hx hb hd (mm_loc_has hA.2.2.2.2) (by rw [← hA.2.2.2.2.2.1]; exact mm_st2_lt e1) rfl (fun ls' hl' => kk H locs ls' ⟨hA.1, hA.2.1, hA.2.2.1, hA.2.2.2.1, mm_st2_loc hA.2.2.2.2.2.1 e1 hl'⟩)
    · cases hex
  · cases hex
theorem mm_s_astore_n {k : Fin 4} (hx : p.tables.exec = Jvm.exec) (hb : c.code = cc) (hc : mm_chk cc pc ((.astore_n k), nx, tg) = true) (hex : mm_rst nx L st h k.val = some X) (hA : mm_At D cl A ρ κ b nL s H locs ls L h) (kk : mm_kk p l e R s m args below meth c cells slots Q D cl A ρ κ b nL X) : W p l e R s m args below meth c H locs cells slots Q (F0 m pc ls (st.map (mm_cv ρ b))) := by
  obtain ⟨hd, rfl, htg⟩ := mm_chk_sp hc
  unfold mm_rst at hex
  split at hex
  · unfold mm_goL at hex
    split at hex
    · rename_i L' e1
      cases hex
      exact lv_astore_n hx hb hd rfl (mm_loc_has hA.2.2.2.2) (by rw [← hA.2.2.2.2.2.1]; exact mm_st1_lt e1) rfl (fun ls' hl' => kk H locs ls' ⟨hA.1, hA.2.1, hA.2.2.1, hA.2.2.2.1, mm_st1_loc hA.2.2.2.2.2.1 e1 hl'⟩)
    · cases hex
  · unfold mm_goL at hex
    split at hex
    · rename_i L' e1
      cases hex
      exact lv_astore_nN hx hb hd rfl (mm_loc_has hA.2.2.2.2) (by rw [← hA.2.2.2.2.2.1]; exact mm_st1_lt e1) rfl (fun ls' hl' => kk H locs ls' ⟨hA.1, hA.2.1, hA.2.2.1, hA.2.2.2.1, mm_st1_loc hA.2.2.2.2.2.1 e1 hl'⟩)
    · cases hex
  · cases hex
theorem mm_s_astore {i : Nat} (hx : p.tables.exec = Jvm.exec) (hb : c.code = cc) (hc : mm_chk cc pc ((.astore i), nx, tg) = true) (hex : mm_rst nx L st h i = some X) (hA : mm_At D cl A ρ κ b nL s H locs ls L h) (kk : mm_kk p l e R s m args below meth c cells slots Q D cl A ρ κ b nL X) : W p l e R s m args below meth c H locs cells slots Q (F0 m pc ls (st.map (mm_cv ρ b))) := by
  obtain ⟨hd, rfl, htg⟩ := mm_chk_sp hc
  unfold mm_rst at hex
  split at hex
  · unfold mm_goL at hex
    split at hex
    · rename_i L' e1
      cases hex
      exact lv_astore hx hb hd (mm_loc_has hA.2.2.2.2) (by rw [← hA.2.2.2.2.2.1]; exact mm_st1_lt e1) rfl (fun ls' hl' => kk H locs ls' ⟨hA.1, hA.2.1, hA.2.2.1, hA.2.2.2.1, mm_st1_loc hA.2.2.2.2.2.1 e1 hl'⟩)
    · cases hex
  · unfold mm_goL at hex
    split at hex
    · rename_i L' e1
      cases hex
      exact lv_astoreN hx hb hd (mm_loc_has hA.2.2.2.2) (by rw [← hA.2.2.2.2.2.1]; exact mm_st1_lt e1) rfl (fun ls' hl' => kk H locs ls' ⟨hA.1, hA.2.1, hA.2.2.1, hA.2.2.2.1, mm_st1_loc hA.2.2.2.2.2.1 e1 hl'⟩)
    · cases hex
  · cases hex
theorem mm_s_iinc {i : Nat} {n : Int} (hx : p.tables.exec = Jvm.exec) (hb : c.code = cc) (hc : mm_chk cc pc ((.iinc i n), nx, tg) = true) (hex : mm_inc nx L st h i (Int32.ofInt n) = some X) (hA : mm_At D cl A ρ κ b nL s H locs ls L h) (kk : mm_kk p l e R s m args below meth c cells slots Q D cl A ρ κ b nL X) : W p l e R s m args below meth c H locs cells slots Q (F0 m pc ls (st.map (mm_cv ρ b))) := by
  obtain ⟨hd, rfl, htg⟩ := mm_chk_sp hc
  unfold mm_inc at hex
  rw [mm_nth_eq] at hex
  split at hex
  · rename_i x ex
    unfold mm_goL at hex
    split at hex
    · rename_i L' e1
      cases hex
      obtain ⟨k, hk⟩ := List.getElem?_of_mem (mm_lv_mem (ρ := ρ) (b := b) (q := (i, .int x)) |>.mpr ⟨.int x, ex, rfl⟩)
      exact lv_iinc hx hb hd (mm_loc_has hA.2.2.2.2) hk rfl (by rw [← hA.2.2.2.2.2.1]; exact mm_st1_lt e1) rfl (fun ls' hl' => kk H locs ls' ⟨hA.1, hA.2.1, hA.2.2.1, hA.2.2.2.1, mm_st1_loc hA.2.2.2.2.2.1 e1 hl'⟩)
    · cases hex
  · cases hex
theorem mm_s_if {co : Jvm.ClassFile.Cond} {o : Int} {x : Int32} {r : List Value} (hx : p.tables.exec = Jvm.exec) (hb : c.code = cc) (hc : mm_chk cc pc ((.ifCond co o), nx, tg) = true) (hex : mm_br co x 0 (mm_to tg L r h) (mm_go nx L r h) = some X) (hA : mm_At D cl A ρ κ b nL s H locs ls L h) (kk : mm_kk p l e R s m args below meth c cells slots Q D cl A ρ κ b nL X) : W p l e R s m args below meth c H locs cells slots Q (F0 m pc ls ((.int x :: r : List Value).map (mm_cv ρ b))) := by
  obtain ⟨hd, rfl, htg⟩ := mm_chk_sp hc
  obtain ⟨t, rfl, ht⟩ := mm_tg1_sp htg
  cases co with
  | eq =>
    refine lv_if_eq (tgt := t) hx hb hd ht (fun q => ?_) (fun q => ?_)
    · simp only [mm_br, if_pos q, mm_to] at hex
      cases hex
      exact (kk H locs ls hA)
    · simp only [mm_br, if_neg q] at hex
      cases hex
      exact (kk H locs ls hA)
  | ne =>
    refine lv_if_ne (tgt := t) hx hb hd ht (fun q => ?_) (fun q => ?_)
    · simp only [mm_br, if_neg q, mm_to] at hex
      cases hex
      exact (kk H locs ls hA)
    · simp only [mm_br, if_pos q] at hex
      cases hex
      exact (kk H locs ls hA)
  | lt =>
    refine lv_if_lt (tgt := t) hx hb hd ht (fun q => ?_) (fun q => ?_)
    · simp only [mm_br, if_pos q, mm_to] at hex
      cases hex
      exact (kk H locs ls hA)
    · simp only [mm_br, if_neg q] at hex
      cases hex
      exact (kk H locs ls hA)
  | ge =>
    refine lv_if_ge (tgt := t) hx hb hd ht (fun q => ?_) (fun q => ?_)
    · simp only [mm_br, if_pos q, mm_to] at hex
      cases hex
      exact (kk H locs ls hA)
    · simp only [mm_br, if_neg q] at hex
      cases hex
      exact (kk H locs ls hA)
  | gt =>
    refine lv_if_gt (tgt := t) hx hb hd ht (fun q => ?_) (fun q => ?_)
    · simp only [mm_br, if_pos q, mm_to] at hex
      cases hex
      exact (kk H locs ls hA)
    · simp only [mm_br, if_neg q] at hex
      cases hex
      exact (kk H locs ls hA)
  | le =>
    refine lv_if_le (tgt := t) hx hb hd ht (fun q => ?_) (fun q => ?_)
    · simp only [mm_br, if_pos q, mm_to] at hex
      cases hex
      exact (kk H locs ls hA)
    · simp only [mm_br, if_neg q] at hex
      cases hex
      exact (kk H locs ls hA)
theorem mm_s_icmp {co : Jvm.ClassFile.Cond} {o : Int} {x y : Int32} {r : List Value} (hx : p.tables.exec = Jvm.exec) (hb : c.code = cc) (hc : mm_chk cc pc ((.if_icmp co o), nx, tg) = true) (hex : mm_br co x y (mm_to tg L r h) (mm_go nx L r h) = some X) (hA : mm_At D cl A ρ κ b nL s H locs ls L h) (kk : mm_kk p l e R s m args below meth c cells slots Q D cl A ρ κ b nL X) : W p l e R s m args below meth c H locs cells slots Q (F0 m pc ls ((.int y :: .int x :: r : List Value).map (mm_cv ρ b))) := by
  obtain ⟨hd, rfl, htg⟩ := mm_chk_sp hc
  obtain ⟨t, rfl, ht⟩ := mm_tg1_sp htg
  cases co with
  | eq =>
    refine lv_icmp_eq (tgt := t) hx hb hd ht (fun q => ?_) (fun q => ?_)
    · simp only [mm_br, if_pos q, mm_to] at hex
      cases hex
      exact (kk H locs ls hA)
    · simp only [mm_br, if_neg q] at hex
      cases hex
      exact (kk H locs ls hA)
  | ne =>
    refine lv_icmp_ne (tgt := t) hx hb hd ht (fun q => ?_) (fun q => ?_)
    · simp only [mm_br, if_neg q, mm_to] at hex
      cases hex
      exact (kk H locs ls hA)
    · simp only [mm_br, if_pos q] at hex
      cases hex
      exact (kk H locs ls hA)
  | lt =>
    refine lv_icmp_lt (tgt := t) hx hb hd ht (fun q => ?_) (fun q => ?_)
    · simp only [mm_br, if_pos q, mm_to] at hex
      cases hex
      exact (kk H locs ls hA)
    · simp only [mm_br, if_neg q] at hex
      cases hex
      exact (kk H locs ls hA)
  | ge =>
    refine lv_icmp_ge (tgt := t) hx hb hd ht (fun q => ?_) (fun q => ?_)
    · simp only [mm_br, if_pos q, mm_to] at hex
      cases hex
      exact (kk H locs ls hA)
    · simp only [mm_br, if_neg q] at hex
      cases hex
      exact (kk H locs ls hA)
  | gt =>
    refine lv_icmp_gt (tgt := t) hx hb hd ht (fun q => ?_) (fun q => ?_)
    · simp only [mm_br, if_pos q, mm_to] at hex
      cases hex
      exact (kk H locs ls hA)
    · simp only [mm_br, if_neg q] at hex
      cases hex
      exact (kk H locs ls hA)
  | le =>
    refine lv_icmp_le (tgt := t) hx hb hd ht (fun q => ?_) (fun q => ?_)
    · simp only [mm_br, if_pos q, mm_to] at hex
      cases hex
      exact (kk H locs ls hA)
    · simp only [mm_br, if_neg q] at hex
      cases hex
      exact (kk H locs ls hA)
theorem mm_s_goto {o : Int} (hx : p.tables.exec = Jvm.exec) (hb : c.code = cc) (hc : mm_chk cc pc ((.goto o), nx, tg) = true) (hex : mm_to tg L st h = some X) (hA : mm_At D cl A ρ κ b nL s H locs ls L h) (kk : mm_kk p l e R s m args below meth c cells slots Q D cl A ρ κ b nL X) : W p l e R s m args below meth c H locs cells slots Q (F0 m pc ls (st.map (mm_cv ρ b))) := by
  obtain ⟨hd, rfl, htg⟩ := mm_chk_sp hc
  obtain ⟨t, rfl, ht⟩ := mm_tg1_sp htg
  cases hex
  exact lv_goto (tgt := t) hx hb hd ht (kk H locs ls hA)
theorem mm_s_ifnull {o : Int} (hx : p.tables.exec = Jvm.exec) (hb : c.code = cc) (hc : mm_chk cc pc ((.ifnull o), nx, tg) = true) (hex : mm_nul nx tg L st h = some X) (hA : mm_At D cl A ρ κ b nL s H locs ls L h) (kk : mm_kk p l e R s m args below meth c cells slots Q D cl A ρ κ b nL X) : W p l e R s m args below meth c H locs cells slots Q (F0 m pc ls (st.map (mm_cv ρ b))) := by
  obtain ⟨hd, rfl, htg⟩ := mm_chk_sp hc
  obtain ⟨t, rfl, ht⟩ := mm_tg1_sp htg
  unfold mm_nul at hex
  split at hex
  · cases hex
    exact lv_ifnullN (tgt := t) hx hb hd ht (kk H locs ls hA)
  · cases hex
    exact lv_ifnull hx hb hd (kk H locs ls hA)
  · cases hex
theorem mm_s_ifnonnull {o : Int} (hx : p.tables.exec = Jvm.exec) (hb : c.code = cc) (hc : mm_chk cc pc ((.ifnonnull o), nx, tg) = true) (hex : mm_nnl nx tg L st h = some X) (hA : mm_At D cl A ρ κ b nL s H locs ls L h) (kk : mm_kk p l e R s m args below meth c cells slots Q D cl A ρ κ b nL X) : W p l e R s m args below meth c H locs cells slots Q (F0 m pc ls (st.map (mm_cv ρ b))) := by
  obtain ⟨hd, rfl, htg⟩ := mm_chk_sp hc
  obtain ⟨t, rfl, ht⟩ := mm_tg1_sp htg
  unfold mm_nnl at hex
  split at hex
  · cases hex
    exact lv_ifnonnull (tgt := t) hx hb hd ht (kk H locs ls hA)
  · cases hex
    exact lv_ifnonnullN hx hb hd (kk H locs ls hA)
  · cases hex
theorem mm_s_tsw {d lo hi : Int} {offs : Array Int} (hx : p.tables.exec = Jvm.exec) (hb : c.code = cc) (hc : mm_chk cc pc ((.tableswitch d lo hi offs), nx, tg) = true) (hex : mm_tsw lo hi tg L st h = some X) (hA : mm_At D cl A ρ κ b nL s H locs ls L h) (kk : mm_kk p l e R s m args below meth c cells slots Q D cl A ρ κ b nL X) : W p l e R s m args below meth c H locs cells slots Q (F0 m pc ls (st.map (mm_cv ρ b))) := by
  obtain ⟨hd, rfl, htg⟩ := mm_chk_sp hc
  unfold mm_tsw at hex
  split at hex
  · rename_i x r t ts
    simp only [mm_tgok, Bool.and_eq_true, decide_eq_true_eq] at htg
    split at hex
    · rename_i hq
      cases hex
      exact lv_tableOut (tgt := t) hx hb hd hq htg.1 (kk H locs ls hA)
    · rename_i hq
      split at hex
      · rename_i t' et
        cases hex
        rw [mm_nth_eq] at et
        have h1 : (ts.map (fun t : Nat => (t : Int)))[(x.toInt - lo).toNat]? = some (t' : Int) := by rw [List.getElem?_map, et]; rfl
        rw [htg.2, List.getElem?_map] at h1
        cases h2 : offs.toList[(x.toInt - lo).toNat]? with
        | none => rw [h2] at h1; cases h1
        | some off =>
          rw [h2] at h1
          have h3 : (pc : Int) + off = (t' : Int) := Option.some.inj h1
          exact lv_tableIn (tgt := t') (off := off) hx hb hd (fun z => hq (Or.inl z)) (fun z => hq (Or.inr z)) (by rw [← Array.getElem?_toList]; exact h2) h3 (kk H locs ls hA)
      · cases hex
  · cases hex
theorem mm_s_laload (hK : va_K D cl [] s) (hx : p.tables.exec = Jvm.exec) (hb : c.code = cc) (hc : mm_chk cc pc (.laload, nx, tg) = true) (hex : mm_lald nx L st h = some X) (hA : mm_At D cl A ρ κ b nL s H locs ls L h) (kk : mm_kk p l e R s m args below meth c cells slots Q D cl A ρ κ b nL X) : W p l e R s m args below meth c H locs cells slots Q (F0 m pc ls (st.map (mm_cv ρ b))) := by
  obtain ⟨hd, rfl, htg⟩ := mm_chk_sp hc
  unfold mm_lald at hex
  split at hex
  · split at hex
    · rename_i n f ec
      split at hex
      · rename_i hin
        cases hex
        exact va_lald hx hb (mm_K1 hK hA.2.2.1 ec) hA.1 _ 0 (mm_rep_at ec) rfl (vp_in_iff.mpr hin) hd (kk H locs ls hA)
      · cases hex
    · cases hex
  · cases hex
theorem mm_s_baload (hK : va_K D cl [] s) (hx : p.tables.exec = Jvm.exec) (hb : c.code = cc) (hc : mm_chk cc pc (.baload, nx, tg) = true) (hex : mm_zald nx L st h = some X) (hA : mm_At D cl A ρ κ b nL s H locs ls L h) (kk : mm_kk p l e R s m args below meth c cells slots Q D cl A ρ κ b nL X) : W p l e R s m args below meth c H locs cells slots Q (F0 m pc ls (st.map (mm_cv ρ b))) := by
  obtain ⟨hd, rfl, htg⟩ := mm_chk_sp hc
  unfold mm_zald at hex
  split at hex
  · split at hex
    · rename_i n f ec
      split at hex
      · rename_i hin
        cases hex
        exact va_zald hx hb (mm_K1 hK hA.2.2.1 ec) hA.1 _ 0 (mm_rep_at ec) rfl (vp_in_iff.mpr hin) hd (kk H locs ls hA)
      · cases hex
    · cases hex
  · cases hex
theorem mm_s_iaload {scr : mm_X} (hK : va_K D cl [] s) (hscr : ∀ (n : Nat) (f : Nat → Int32), scr = some (n, f) → va_X b n f s s.heap ∧ b < s.heap.size ∧ ¬ A b) (hx : p.tables.exec = Jvm.exec) (hb : c.code = cc) (hc : mm_chk cc pc (.iaload, nx, tg) = true) (hex : mm_iald scr nx L st h = some X) (hA : mm_At D cl A ρ κ b nL s H locs ls L h) (kk : mm_kk p l e R s m args below meth c cells slots Q D cl A ρ κ b nL X) : W p l e R s m args below meth c H locs cells slots Q (F0 m pc ls (st.map (mm_cv ρ b))) := by
  obtain ⟨hd, rfl, htg⟩ := mm_chk_sp hc
  unfold mm_iald at hex
  split at hex
  · split at hex
    · rename_i n f ec
      split at hex
      · rename_i hin
        cases hex
        exact va_iald hx hb (mm_K1 hK hA.2.2.1 ec) hA.1 _ 0 (mm_rep_at ec) rfl (vp_in_iff.mpr hin) hd (kk H locs ls hA)
      · cases hex
    · cases hex
  · split at hex
    · rename_i n f
      split at hex
      · rename_i hin
        cases hex
        obtain ⟨z1, z2, z3⟩ := hscr n f rfl
        exact va_sld hx hb z1 z2 z3 hA.2.2.2.1 (vp_in_iff.mpr hin) hd (kk H locs ls hA)
      · cases hex
    · cases hex
  · cases hex
theorem mm_s_arraylength {scr : mm_X} (hK : va_K D cl [] s) (hscr : ∀ (n : Nat) (f : Nat → Int32), scr = some (n, f) → va_X b n f s s.heap ∧ b < s.heap.size ∧ ¬ A b) (hx : p.tables.exec = Jvm.exec) (hb : c.code = cc) (hc : mm_chk cc pc (.arraylength, nx, tg) = true) (hex : mm_len scr nx L st h = some X) (hA : mm_At D cl A ρ κ b nL s H locs ls L h) (kk : mm_kk p l e R s m args below meth c cells slots Q D cl A ρ κ b nL X) : W p l e R s m args below meth c H locs cells slots Q (F0 m pc ls (st.map (mm_cv ρ b))) := by
  obtain ⟨hd, rfl, htg⟩ := mm_chk_sp hc
  unfold mm_len at hex
  split at hex
  · split at hex
    · rename_i ty n f ec
      cases hex
      exact va_alen hx hb (mm_K1 hK hA.2.2.1 ec) hA.1 _ 0 (mm_rep_at ec) rfl rfl hd (kk H locs ls hA)
    · cases hex
  · split at hex
    · rename_i n f
      cases hex
      obtain ⟨z1, z2, z3⟩ := hscr n f rfl
      exact va_slen hx hb z1 z2 z3 hA.2.2.2.1 hd (kk H locs ls hA)
    · cases hex
  · cases hex
theorem mm_s_iastore (hK : va_K D cl [] s) (hx : p.tables.exec = Jvm.exec) (hb : c.code = cc) (hc : mm_chk cc pc (.iastore, nx, tg) = true) (hex : mm_iast nx L st h = some X) (hA : mm_At D cl A ρ κ b nL s H locs ls L h) (kk : mm_kk p l e R s m args below meth c cells slots Q D cl A ρ κ b nL X) : W p l e R s m args below meth c H locs cells slots Q (F0 m pc ls (st.map (mm_cv ρ b))) := by
  obtain ⟨hd, rfl, htg⟩ := mm_chk_sp hc
  unfold mm_iast at hex
  split at hex
  · split at hex
    · rename_i n f ec
      split at hex
      · rename_i hin
        unfold mm_goH at hex
        split at hex
        · rename_i h1 e1
          cases hex
          obtain ⟨-, rfl⟩ := mm_put_eq e1
          refine va_iast hx hb (mm_K1 hK hA.2.2.1 ec) hA.1 hA.2.1 hA.2.2.2.1 _ 0 (mm_rep_at ec) rfl (vp_in_iff.mpr hin) hd (fun H1 locs1 hP1 hD1 hS1 => kk H1 locs1 ls ⟨?_, ?_, mm_ty_seti hA.2.2.1 ec, hS1, hA.2.2.2.2⟩)
          · rw [mm_rep_set]
            exact hP1
          · rw [mm_rep_set]
            exact hD1
        · cases hex
      · cases hex
    · cases hex
  · cases hex
theorem mm_s_lastore (hK : va_K D cl [] s) (hx : p.tables.exec = Jvm.exec) (hb : c.code = cc) (hc : mm_chk cc pc (.lastore, nx, tg) = true) (hex : mm_last nx L st h = some X) (hA : mm_At D cl A ρ κ b nL s H locs ls L h) (kk : mm_kk p l e R s m args below meth c cells slots Q D cl A ρ κ b nL X) : W p l e R s m args below meth c H locs cells slots Q (F0 m pc ls (st.map (mm_cv ρ b))) := by
  obtain ⟨hd, rfl, htg⟩ := mm_chk_sp hc
  unfold mm_last at hex
  split at hex
  · split at hex
    · rename_i n f ec
      split at hex
      · rename_i hin
        unfold mm_goH at hex
        split at hex
        · rename_i h1 e1
          cases hex
          obtain ⟨-, rfl⟩ := mm_put_eq e1
          refine va_last hx hb (mm_K1 hK hA.2.2.1 ec) hA.1 hA.2.1 hA.2.2.2.1 _ 0 (mm_rep_at ec) rfl (vp_in_iff.mpr hin) hd (fun H1 locs1 hP1 hD1 hS1 => kk H1 locs1 ls ⟨?_, ?_, mm_ty_seti hA.2.2.1 ec, hS1, hA.2.2.2.2⟩)
          · rw [mm_rep_set]
            exact hP1
          · rw [mm_rep_set]
            exact hD1
        · cases hex
      · cases hex
    · cases hex
  · cases hex
theorem mm_s_bastore (hK : va_K D cl [] s) (hx : p.tables.exec = Jvm.exec) (hb : c.code = cc) (hc : mm_chk cc pc (.bastore, nx, tg) = true) (hex : mm_zast nx L st h = some X) (hA : mm_At D cl A ρ κ b nL s H locs ls L h) (kk : mm_kk p l e R s m args below meth c cells slots Q D cl A ρ κ b nL X) : W p l e R s m args below meth c H locs cells slots Q (F0 m pc ls (st.map (mm_cv ρ b))) := by
  obtain ⟨hd, rfl, htg⟩ := mm_chk_sp hc
  unfold mm_zast at hex
  split at hex
  · split at hex
    · rename_i n f ec
      split at hex
      · rename_i hin
        unfold mm_goH at hex
        split at hex
        · rename_i h1 e1
          cases hex
          obtain ⟨-, rfl⟩ := mm_put_eq e1
          refine va_zast hx hb (mm_K1 hK hA.2.2.1 ec) hA.1 hA.2.1 hA.2.2.2.1 _ 0 (mm_rep_at ec) rfl (vp_in_iff.mpr hin) hd (fun H1 locs1 hP1 hD1 hS1 => kk H1 locs1 ls ⟨?_, ?_, mm_ty_seti hA.2.2.1 ec, hS1, hA.2.2.2.2⟩)
          · rw [mm_rep_set]
            exact hP1
          · rw [mm_rep_set]
            exact hD1
        · cases hex
      · cases hex
    · cases hex
  · cases hex
/-- what the words say of a field of the pool -/
def mm_fw (cl : List vw_C) (own : String) (Ts : List Cond) (i : Nat) (q : Nat × Nat × Option FieldType) : Prop := ∃ (C : String) (T : u_T) (N : Nat) (ty0 : Nat → FieldType), cl[q.1]? = some (C, T, N) ∧ q.2.1 < N ∧ (∀ w ∈ u_ws C T N, w ∈ Ts) ∧ Cond.fieldLink own i (T q.2.1).1 (T q.2.1).2.1 (T q.2.1).2.2.1 ∈ Ts ∧ (∀ k, k < N → parseFieldDescriptor (T k).2.2.1 = some (ty0 k)) ∧ (∀ a, a < N → ∀ b, b < N → a ≠ b → (T a).2.1 ≠ (T b).2.1) ∧ ∀ ty, q.2.2 = some ty → (T q.2.1).2.2.2 = false ∧ parseFieldDescriptor (T q.2.1).2.2.1 = some ty
theorem mm_s_getfield {own : String} {Ts : List Cond} {i : Nat} {q : Nat × Nat × Option FieldType} (hown : s.vm.findClass own = some m.cls) (hts : ∀ w ∈ Ts, w.before args s = true) (hK : va_K D cl [] s) (hw : mm_fw cl own Ts i q) (hx : p.tables.exec = Jvm.exec) (hb : c.code = cc) (hc : mm_chk cc pc ((.getfield i), nx, tg) = true) (hex : mm_gfd nx L st h q = some X) (hA : mm_At D cl A ρ κ b nL s H locs ls L h) (kk : mm_kk p l e R s m args below meth c cells slots Q D cl A ρ κ b nL X) : W p l e R s m args below meth c H locs cells slots Q (F0 m pc ls (st.map (mm_cv ρ b))) := by
  obtain ⟨hd, rfl, htg⟩ := mm_chk_sp hc
  obtain ⟨C, T, N, ty0, w1, w2, w3, w4, w5, w6, w7⟩ := hw
  unfold mm_gfd at hex
  split at hex
  · split at hex
    · rename_i ci fs ec
      split at hex
      · rename_i eb
        have eb := Nat.eq_of_beq_eq_true eb
        subst eb
        split at hex
        · rename_i v ev
          cases hex
          rw [mm_nth_eq] at ev
          exact va_get hx hb hts w3 hown hK hA.1 _ (mm_rep_at ec) w1 q.2.1 w2 (hts _ w4) (fun _ h9 => h9) (by rw [List.getElem?_map, ev]; rfl) hd (kk H locs ls hA)
        · cases hex
      · cases hex
    · cases hex
  · cases hex
theorem mm_s_put1 {own : String} {Ts : List Cond} {i : Nat} {q : Nat × Nat × Option FieldType} (hown : s.vm.findClass own = some m.cls) (hts : ∀ w ∈ Ts, w.before args s = true) (hK : va_K D cl [] s) (hw : mm_fw cl own Ts i q) {a : Nat} {v : Value} {ty : FieldType} {r : List Value} (hq : q.2.2 = some ty) (hcv : mm_cv ρ b v = v) (hn : narrow ty v = v) (hfit : fits ty v = true) (hx : p.tables.exec = Jvm.exec) (hb : c.code = cc) (hc : mm_chk cc pc ((.putfield i), nx, tg) = true) (hex : mm_pfd1 nx L r h q a v = some X) (hA : mm_At D cl A ρ κ b nL s H locs ls L h) (kk : mm_kk p l e R s m args below meth c cells slots Q D cl A ρ κ b nL X) : W p l e R s m args below meth c H locs cells slots Q (F0 m pc ls ((v :: .ref a :: r : List Value).map (mm_cv ρ b))) := by
  obtain ⟨hd, rfl, htg⟩ := mm_chk_sp hc
  obtain ⟨C, T, N, ty0, w1, w2, w3, w4, w5, w6, w7⟩ := hw
  unfold mm_pfd1 at hex
  split at hex
  · rename_i ci fs ec
    split at hex
    · rename_i eb
      have eb := Nat.eq_of_beq_eq_true eb
      subst eb
      split at hex
      · rename_i fs' ef
        unfold mm_goH at hex
        split at hex
        · rename_i h1 e1
          cases hex
          obtain ⟨-, rfl⟩ := mm_put_eq e1
          obtain ⟨hlt, rfl⟩ := mm_put_eq ef
          refine W.eq (g2 := F0 m pc ls (v :: .ref (ρ a) :: r.map (mm_cv ρ b))) (by show F0 m pc ls (mm_cv ρ b v :: Value.ref (ρ a) :: r.map (mm_cv ρ b)) = _; rw [hcv]) ?_
          refine va_put hx hb hts w3 ty0 w5 w6 hown hK hA.1 hA.2.1 hA.2.2.2.1 _ (mm_rep_at ec) w1 q.2.1 w2 (hts _ w4) (fun _ h9 => h9) (w7 ty hq).1 (w7 ty hq).2 hn hfit (by rw [List.length_map]; exact hlt) hd (fun H1 locs1 hP1 hD1 hS1 => kk H1 locs1 ls ⟨?_, ?_, mm_ty_setr hA.2.2.1, hS1, hA.2.2.2.2⟩)
          · rw [mm_rep_set]
            rw [show mm_co ρ κ b a (.inr (q.1, fs.set q.2.1 v)) = (ρ a, .inr (q.1, (fs.map (mm_cv ρ b)).set q.2.1 v)) by simp [mm_co, List.map_set, hcv]]
            exact hP1
          · rw [mm_rep_set]
            rw [show mm_co ρ κ b a (.inr (q.1, fs.set q.2.1 v)) = (ρ a, .inr (q.1, (fs.map (mm_cv ρ b)).set q.2.1 v)) by simp [mm_co, List.map_set, hcv]]
            exact hD1
        · cases hex
      · cases hex
    · cases hex
  · cases hex
theorem mm_s_putfield {own : String} {Ts : List Cond} {i : Nat} {q : Nat × Nat × Option FieldType} (hown : s.vm.findClass own = some m.cls) (hts : ∀ w ∈ Ts, w.before args s = true) (hK : va_K D cl [] s) (hw : mm_fw cl own Ts i q) (hx : p.tables.exec = Jvm.exec) (hb : c.code = cc) (hc : mm_chk cc pc ((.putfield i), nx, tg) = true) (hex : mm_pfd nx L st h q = some X) (hA : mm_At D cl A ρ κ b nL s H locs ls L h) (kk : mm_kk p l e R s m args below meth c cells slots Q D cl A ρ κ b nL X) : W p l e R s m args below meth c H locs cells slots Q (F0 m pc ls (st.map (mm_cv ρ b))) := by
  obtain ⟨hd, rfl, htg⟩ := mm_chk_sp hc
  unfold mm_pfd at hex
  split at hex
  · rename_i hq
    exact mm_s_put1 (v := .int _) hown hts hK hw hq rfl rfl rfl hx hb hc hex hA kk
  · rename_i hq
    exact mm_s_put1 (v := .long _) hown hts hK hw hq rfl rfl rfl hx hb hc hex hA kk
  · cases hex
end MMW
