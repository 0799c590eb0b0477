/-! MAKING CELLS: rows in the small machine's words, for methods that make cells -/
def mc_v (N : Nat) (v : Value) : Bool := match v with
  | .ref j => Nat.ble (j + 1) N
  | _ => true
def mc_l (N : Nat) : mm_L → Bool
  | [] => true
  | some v :: t => mc_v N v && mc_l N t
  | none :: t => mc_l N t
def mc_s (N : Nat) : List Value → Bool
  | [] => true
  | v :: t => mc_v N v && mc_s N t
def mc_h (N : Nat) : mm_H → Bool
  | [] => true
  | .inl _ :: t => mc_h N t
  | .inr x :: t => mc_s N x.2 && mc_h N t
def mc_ok (N : Nat) (L : mm_L) (st : List Value) (h : mm_H) : Bool := mc_l N L && (mc_s N st && mc_h N h)
section MCW
variable {ρ ρ' : Nat → Nat} {b N : Nat}
theorem mc_v_eq (ha : ∀ j, j < N → ρ' j = ρ j) {v : Value} (h : mc_v N v = true) : mm_cv ρ' b v = mm_cv ρ b v := by
  cases v with
  | ref j =>
    have : j < N := Nat.le_of_ble_eq_true h
    simp only [mm_cv, ha j this]
  | _ => rfl
theorem mc_l_eq (ha : ∀ j, j < N → ρ' j = ρ j) : ∀ {L : mm_L}, mc_l N L = true → ∀ (i : Nat) (v : Value), L[i]? = some (some v) → mm_cv ρ' b v = mm_cv ρ b v
  | [], _, i, v, hi => by simp at hi
  | some w :: t, h, i, v, hi => by
    simp only [mc_l, Bool.and_eq_true] at h
    cases i with
    | zero =>
      have e : w = v := by simpa using hi
      subst e
      exact mc_v_eq ha h.1
    | succ i => exact mc_l_eq ha h.2 i v (by simpa using hi)
  | none :: t, h, i, v, hi => by
    simp only [mc_l] at h
    cases i with
    | zero => simp at hi
    | succ i => exact mc_l_eq ha h i v (by simpa using hi)
theorem mc_s_eq (ha : ∀ j, j < N → ρ' j = ρ j) : ∀ {st : List Value}, mc_s N st = true → st.map (mm_cv ρ' b) = st.map (mm_cv ρ b)
  | [], _ => rfl
  | v :: t, h => by
    simp only [mc_s, Bool.and_eq_true] at h
    simp only [List.map_cons]
    rw [mc_v_eq ha h.1, mc_s_eq ha h.2]
theorem mc_h_eq {κ κ' : Nat → ClassId} (ha : ∀ j, j < N → ρ' j = ρ j) : ∀ {h : mm_H}, mc_h N h = true → ∀ (i : Nat) (c : mm_C), h[i]? = some c → ρ' i = ρ i → κ' i = κ i → mm_co ρ' κ' b i c = mm_co ρ κ b i c
  | [], _, i, c, hi, _, _ => by simp at hi
  | .inl x :: t, h, i, c, hi, e1, e2 => by
    simp only [mc_h] at h
    cases i with
    | zero =>
      have e : Sum.inl x = c := by simpa using hi
      subst e
      simp only [mm_co, e1, e2]
    | succ i =>
      have z : t[i]? = some c := by simpa using hi
      cases c with
      | inl y => simp only [mm_co, e1, e2]
      | inr y =>
        have q := mc_h_mem h i y z
        simp only [mm_co, e1, mc_s_eq ha q]
  | .inr x :: t, h, i, c, hi, e1, e2 => by
    simp only [mc_h, Bool.and_eq_true] at h
    cases i with
    | zero =>
      have e : Sum.inr x = c := by simpa using hi
      subst e
      simp only [mm_co, e1, mc_s_eq ha h.1]
    | succ i =>
      have z : t[i]? = some c := by simpa using hi
      cases c with
      | inl y => simp only [mm_co, e1, e2]
      | inr y =>
        have q := mc_h_mem h.2 i y z
        simp only [mm_co, e1, mc_s_eq ha q]
where
  mc_h_mem : ∀ {h : mm_H}, mc_h N h = true → ∀ (i : Nat) (y : Nat × List Value), h[i]? = some (.inr y) → mc_s N y.2 = true
  | [], _, i, y, hi => by simp at hi
  | .inl x :: t, h, i, y, hi => by
    simp only [mc_h] at h
    cases i with
    | zero => simp at hi
    | succ i => exact mc_h_mem h i y (by simpa using hi)
  | .inr x :: t, h, i, y, hi => by
    simp only [mc_h, Bool.and_eq_true] at h
    cases i with
    | zero =>
      have e : x = y := by simpa using hi
      subst e
      exact h.1
    | succ i => exact mc_h_mem h.2 i y (by simpa using hi)
theorem mc_rep_eq {κ κ' : Nat → ClassId} {h : mm_H} (hl : h.length = N) (ha : ∀ j, j < N → ρ' j = ρ j ∧ κ' j = κ j) (hh : mc_h N h = true) : mm_rep ρ' κ' b h = mm_rep ρ κ b h := by
  apply List.ext_getElem?
  intro i
  unfold mm_rep
  rw [List.getElem?_mapIdx, List.getElem?_mapIdx]
  cases hi : h[i]? with
  | none => rfl
  | some c =>
    have hlt : i < N := by rw [← hl]; exact (List.getElem?_eq_some_iff.mp hi).1
    simp only [Option.map_some]
    rw [mc_h_eq (fun j hj => (ha j hj).1) hh i c hi (ha i hlt).1 (ha i hlt).2]
theorem mc_rep_app {κ : Nat → ClassId} (h : mm_H) (c : mm_C) : mm_rep ρ κ b (h ++ [c]) = mm_rep ρ κ b h ++ [mm_co ρ κ b h.length c] := by
  unfold mm_rep
  rw [List.mapIdx_append]
  simp
theorem mc_loc_eq {nL : Nat} {ls : Array Slot} {L : mm_L} (ha : ∀ j, j < N → ρ' j = ρ j) (hL : mc_l N L = true) (h : mm_loc ρ b nL ls L) : mm_loc ρ' b nL ls L := ⟨h.1, h.2.1, h.2.2.1, fun i v hi => by rw [mc_l_eq ha hL i v hi]; exact h.2.2.2 i v hi⟩
end MCW
/-- one more address, one more kind -/
def mc_up {α : Type} (f : Nat → α) (N : Nat) (x : α) : Nat → α := fun j => if j = N then x else f j
theorem mc_up_lt {α : Type} {f : Nat → α} {N j : Nat} {x : α} (h : j < N) : mc_up f N x j = f j := by
  unfold mc_up
  rw [if_neg (by omega)]
theorem mc_up_at {α : Type} {f : Nat → α} {N : Nat} {x : α} : mc_up f N x N = x := by
  unfold mc_up
  rw [if_pos rfl]
/-- the state of a method that makes cells, whatever the addresses -/
def mc_J (p : Program) (l : Launch) (e : Env) (R : Room) (s : State) (m : MethodId) (args : Array Value) (below : List Frame) (meth : Method) (c : Code) (Q : State → Prop) (D : va_G) (A : Nat → Prop) (b nL N0 : Nat) (ρ0 : Nat → Nat) (κ0 : Nat → ClassId) (cells slots pc : Nat) (L : mm_L) (st : List Value) (h : mm_H) : Prop :=
  cells ≤ R.cells → slots ≤ R.slots → ∀ (ρ : Nat → Nat) (κ : Nat → ClassId) (H : Heap) (locs : List Loc) (ls : Array Slot), (∀ j, j < N0 → ρ j = ρ0 j ∧ κ j = κ0 j) → N0 ≤ h.length → mm_At D kl A ρ κ b nL s H locs ls L h → W p l e R s m args below meth c H locs cells slots Q (F0 m pc ls (st.map (mm_cv ρ b)))
def mc_Post (D : va_G) (ρ : Nat → Nat) (κ : Nat → ClassId) (b : Nat) (h h1 : mm_H) (sz : Nat) : Array Value → State → Outcome → State → Prop := fun _ st oc t => oc = .returned none ∧ (∃ (ρ' : Nat → Nat) (κ' : Nat → ClassId), (∀ j, j < h.length → ρ' j = ρ j ∧ κ' j = κ j) ∧ va_P D kl (mm_rep ρ' κ' b h1) t.heap ∧ mm_ty κ' h1 t ∧ va_D (va_A (mm_rep ρ κ b h) sz) (mm_rep ρ' κ' b h1)) ∧ va_F (va_A (mm_rep ρ κ b h) sz) st t
/-- what is fixed in it -/
abbrev mc_C (p : Program) (R : Room) (s : State) (m : MethodId) (args : Array Value) (c : Code) (D : va_G) (A : Nat → Prop) (nL : Nat) (own : String) (cc : ByteArray) (Ts : List Cond) (M : mm_M) : Prop := p.tables.exec = Jvm.exec ∧ c.code = cc ∧ c.maxLocals = nL ∧ s.vm.findClass own = some m.cls ∧ (∀ w ∈ Ts, w.before args s = true) ∧ va_K D kl [] s ∧ mm_nw kNW s ∧ (∀ q, s.heap.size ≤ q → A q) ∧ mm_okW kM kY kWS kR kl 116 kNW own cc Ts R M
section MCJ
variable {p : Program} {l : Launch} {e : Env} {R : Room} {s : State} {m : MethodId} {args : Array Value} {below : List Frame} {meth : Method} {c : Code} {Q : State → Prop} {D : va_G} {A : Nat → Prop} {b nL N0 : Nat} {ρ0 : Nat → Nat} {κ0 : Nat → ClassId} {cells slots pc nx : Nat} {L L' : mm_L} {st st' r : List Value} {h h' : mm_H} {own : String} {cc : ByteArray} {Ts : List Cond} {M : mm_M} {tg : List Nat}
theorem mc_step {x : mm_I} {pc' : Nat} (C : mc_C p R s m args c D A nL own cc Ts M) (hI : mm_nth M.1 pc = some (some x)) (hx : ∀ call, mm_ex call none M.2.1 x.1 x.2.1 x.2.2 L st h = some (pc', L', st', h')) (hn : h'.length = h.length) (k : mc_J p l e R s m args below meth c Q D A b nL N0 ρ0 κ0 cells slots pc' L' st' h') : mc_J p l e R s m args below meth c Q D A b nL N0 ρ0 κ0 cells slots pc L st h := by
  intro c1 c2 ρ κ H locs ls hag hN hA
  obtain ⟨C1, C2, C3, C4, C5, C6, C7, C8, C9⟩ := C
  exact mm_step kM kY kWS kR kB kl 116 kNW (call := fun _ _ _ => none) (scr := none) (X := (pc', L', st', h')) C1 C2 C3 C4 C5 C6 C7 C8 ⟨c1, c2⟩ ko_all C9.2 (fun n f hf => by cases hf) (fun _ _ _ _ _ _ _ _ hc => by cases hc) (C9.1 pc x hI) (hx _) hA (fun H2 locs2 ls2 hA2 => k c1 c2 ρ κ H2 locs2 ls2 hag (by rw [hn]; exact hN) hA2)
theorem mc_stat {i j np : Nat} {As : List Value} {v : Option Value} (C : mc_C p R s m args c D A nL own cc Ts M) (hI : mm_nth M.1 pc = some (some (.invokestatic i, nx, tg))) (hp : mm_look M.2.1 i = some (.inr (.inr (.inl (j, np, none))))) (ht : mm_take np [] st = some (As, r)) (h8 : Nat.ble (mm_cat r) 8 = true) (hE : mm_EC kM j As h (v, h')) (hn : h'.length = h.length) (k : mc_J p l e R s m args below meth c Q D A b nL N0 ρ0 κ0 cells slots nx L (v.toList ++ r) h') : mc_J p l e R s m args below meth c Q D A b nL N0 ρ0 κ0 cells slots pc L st h := by
  intro c1 c2 ρ κ H locs ls hag hN hA
  obtain ⟨C1, C2, C3, C4, C5, C6, C7, C8, C9⟩ := C
  obtain ⟨Mj, e1, e2, n, e3⟩ := hE
  refine mm_step kM kY kWS kR kB kl 116 kNW (call := mm_cal kM (fun j L g => mm_run kM n none j 0 L [] g)) (scr := none) (ins := .invokestatic i) (nx := nx) (tg := tg) (X := (nx, L, v.toList ++ r, h')) C1 C2 C3 C4 C5 C6 C7 C8 ⟨c1, c2⟩ ko_all C9.2 (fun n f hf => by cases hf) ?_ (C9.1 pc _ hI) ?_ hA (fun H2 locs2 ls2 hA2 => k c1 c2 ρ κ H2 locs2 ls2 hag (by rw [hn]; exact hN) hA2)
  · intro k2 M2 As2 v2 h2 sz hk2 hM2 hc2
    simp only [mm_cal, hM2] at hc2
    split at hc2
    · rename_i eble
      exact mm_Met kM kY kWS kR kB kl 116 kNW l ko_all n k2 M2 As2 h v2 h2 sz hk2 hM2 (Nat.le_of_ble_eq_true eble) hc2
    · cases hc2
  · simp only [mm_ex, hp, mm_ivs, ht, mm_cs1, h8, mm_cal, e1, e2, e3]
    cases v <;> rfl
theorem mc_newa {aty : ArrayType} {ty : FieldType} {a0 : vp_A} {n : Int32} {N N1 : Nat} (C : mc_C p R s m args c D A nL own cc Ts M) (hI : mm_nth M.1 pc = some (some (.newarray aty, nx, tg))) (hty : newarray.typeOf aty = ty) (hw : Cond.arrayClass ty ∈ Ts) (hz : ∀ cA : ClassId, vp_cell cA a0 = arrV cA N (fun _ => defaultValue ty)) (hn : ¬ n < 0) (hN : n.toNatClampNeg = N) (hby : N * componentBytes ty ≤ 536870912) (hl : h.length = N1) (hc : cells + 1 ≤ R.cells) (hs : slots + N ≤ R.slots) (hwf : mc_ok N1 L r h = true) (hh : h ++ [.inl (ty, a0)] = h') (k : mc_J p l e R s m args below meth c Q D A b nL N0 ρ0 κ0 (cells + 1) (slots + N) nx L (.ref N1 :: r) h') : mc_J p l e R s m args below meth c Q D A b nL N0 ρ0 κ0 cells slots pc L (.int n :: r) h := by
  intro c1 c2 ρ κ H locs ls hag hN0 hA
  obtain ⟨C1, C2, C3, C4, C5, C6, C7, C8, C9⟩ := C
  obtain ⟨hd, rfl, -⟩ := mm_chk_sp (C9.1 pc _ hI)
  obtain ⟨hP, hD, hT, hS, hloc⟩ := hA
  simp only [mc_ok, Bool.and_eq_true] at hwf
  subst hh
  refine va_newa (atype := aty) (N' := N) (a0 := a0) C1 C2 (by rw [hty]; exact C5 _ hw) hty C6 hP hD hS C8 hz hn hN hby hc hs hd (fun q cA H1 hK1 hP1 hD1 hS1 => ?_)
  have hag' : ∀ j, j < N1 → mc_up ρ N1 q j = ρ j ∧ mc_up κ N1 cA j = κ j := fun j hj => ⟨mc_up_lt hj, mc_up_lt hj⟩
  have er : mm_rep (mc_up ρ N1 q) (mc_up κ N1 cA) b (h ++ [.inl (ty, a0)]) = mm_rep ρ κ b h ++ [(q, .inl (cA, a0))] := by
    rw [mc_rep_app, mc_rep_eq hl hag' hwf.2.2, hl]
    simp only [mm_co, mc_up_at]
  have es : ((.ref N1 :: r : List Value)).map (mm_cv (mc_up ρ N1 q) b) = .ref q :: r.map (mm_cv ρ b) := by
    simp only [List.map_cons, mm_cv, mc_up_at]
    rw [mc_s_eq (fun j hj => (hag' j hj).1) hwf.2.1]
  have z := k hc hs (mc_up ρ N1 q) (mc_up κ N1 cA) H1 locs ls (fun j hj => by
    have hj1 : j < N1 := by omega
    exact ⟨(hag' j hj1).1.trans (hag j hj).1, (hag' j hj1).2.trans (hag j hj).2⟩) (by simp; omega) ⟨by rw [er]; exact hP1, by rw [er]; exact hD1, fun i ty' x hi => by
      rw [List.getElem?_append] at hi
      split at hi
      · rename_i hlt
        rw [(hag' i (by omega)).2]
        exact hT i ty' x hi
      · rename_i hlt
        have : i = h.length := by
          rcases Nat.lt_or_ge (h.length) i with q1 | q1
          · rw [show i - h.length = (i - h.length - 1) + 1 by omega] at hi
            simp at hi
          · omega
        subst this
        simp at hi
        obtain ⟨rfl, rfl⟩ := hi
        rw [hl, mc_up_at]
        exact hK1.2 0 (cA, ty) rfl, hS1, mc_loc_eq (fun j hj => (hag' j hj).1) hwf.1 hloc⟩
  rw [es] at z
  exact z
theorem mc_new {i ci N N1 : Nat} {Cn : String} {T : u_T} {ty : Nat → FieldType} {fs : List Value} (C : mc_C p R s m args c D A nL own cc Ts M) (hI : mm_nth M.1 pc = some (some (.new i, nx, tg))) (hcl : kl[ci]? = some (Cn, T, N)) (hin : ∀ w ∈ u_ws Cn T N, w ∈ Ts) (hty : ∀ k, k < N → parseFieldDescriptor (T k).2.2.1 = some (ty k)) (w1 : Cond.classLink own i Cn ∈ Ts) (w2 : Cond.instantiable Cn N ∈ Ts) (w3 : Cond.initialized Cn ∈ Ts) (hfs : ∀ j, j < N → defaultValue (ty j) = vp_V fs j) (hfs0 : ∀ z : Nat → Nat, fs.map (mm_cv z b) = fs) (hl : h.length = N1) (hc : cells + 1 ≤ R.cells) (hs : slots + N ≤ R.slots) (hwf : mc_ok N1 L st h = true) (hh : h ++ [.inr (ci, fs)] = h') (k : mc_J p l e R s m args below meth c Q D A b nL N0 ρ0 κ0 (cells + 1) (slots + N) nx L (.ref N1 :: st) h') : mc_J p l e R s m args below meth c Q D A b nL N0 ρ0 κ0 cells slots pc L st h := by
  intro c1 c2 ρ κ H locs ls hag hN0 hA
  obtain ⟨C1, C2, C3, C4, C5, C6, C7, C8, C9⟩ := C
  obtain ⟨hd, rfl, -⟩ := mm_chk_sp (C9.1 pc _ hI)
  obtain ⟨hP, hD, hT, hS, hloc⟩ := hA
  simp only [mc_ok, Bool.and_eq_true] at hwf
  subst hh
  refine va_new (fs := fs) C1 C2 C5 hin ty hty C4 (C5 _ w1) (C5 _ w2) (C5 _ w3) C6 hP hD hS C8 hcl hfs hc hs hd (fun q H1 hP1 hD1 hS1 => ?_)
  have hag' : ∀ j, j < N1 → mc_up ρ N1 q j = ρ j ∧ κ j = κ j := fun j hj => ⟨mc_up_lt hj, rfl⟩
  have er : mm_rep (mc_up ρ N1 q) κ b (h ++ [.inr (ci, fs)]) = mm_rep ρ κ b h ++ [(q, .inr (ci, fs))] := by
    rw [mc_rep_app, mc_rep_eq hl hag' hwf.2.2, hl]
    simp only [mm_co, mc_up_at, hfs0]
  have es : ((.ref N1 :: st : List Value)).map (mm_cv (mc_up ρ N1 q) b) = .ref q :: st.map (mm_cv ρ b) := by
    simp only [List.map_cons, mm_cv, mc_up_at]
    rw [mc_s_eq (fun j hj => (hag' j hj).1) hwf.2.1]
  have z := k hc hs (mc_up ρ N1 q) κ H1 locs ls (fun j hj => by
    have hj1 : j < N1 := by omega
    exact ⟨(hag' j hj1).1.trans (hag j hj).1, (hag j hj).2⟩) (by simp; omega) ⟨by rw [er]; exact hP1, by rw [er]; exact hD1, fun i ty' x hi => by
      rw [List.getElem?_append] at hi
      split at hi
      · exact hT i ty' x hi
      · rename_i hlt
        rcases Nat.lt_or_ge (h.length) i with q1 | q1
        · rw [show i - h.length = (i - h.length - 1) + 1 by omega] at hi
          simp at hi
        · have : i = h.length := by omega
          subst this
          simp at hi, hS1, mc_loc_eq (fun j hj => (hag' j hj).1) hwf.1 hloc⟩
  rw [es] at z
  exact z
theorem mc_putr {i a x ci j N : Nat} {Cn : String} {T : u_T} {ty0 : Nat → FieldType} {ty : FieldType} {fs fs' : List Value} (C : mc_C p R s m args c D A nL own cc Ts M) (hname : meth.name = "<init>") (hI : mm_nth M.1 pc = some (some (.putfield i, nx, tg))) (hcl : kl[ci]? = some (Cn, T, N)) (hj : j < N) (hin : ∀ w ∈ u_ws Cn T N, w ∈ Ts) (hty : ∀ k, k < N → parseFieldDescriptor (T k).2.2.1 = some (ty0 k)) (hnm : ∀ a, a < N → ∀ b, b < N → a ≠ b → (T a).2.1 ≠ (T b).2.1) (hw : Cond.fieldLink own i (T j).1 (T j).2.1 (T j).2.2.1 ∈ Ts) (hfin : (T j).2.2.2 = true) (hdecl : (T j).1 = own) (hd2 : parseFieldDescriptor (T j).2.2.1 = some ty) (hfit : ∀ q : Nat, narrow ty (.ref q) = .ref q ∧ fits ty (.ref q) = true) (hc : mm_nth h a = some (.inr (ci, fs))) (hf : mm_put fs j (.ref x) = some fs') (hh : mm_put h a (.inr (ci, fs')) = some h') (k : mc_J p l e R s m args below meth c Q D A b nL N0 ρ0 κ0 cells slots nx L r h') : mc_J p l e R s m args below meth c Q D A b nL N0 ρ0 κ0 cells slots pc L (.ref x :: .ref a :: r) h := by
  intro c1 c2 ρ κ H locs ls hag hN0 hA
  obtain ⟨C1, C2, C3, C4, C5, C6, C7, C8, C9⟩ := C
  obtain ⟨hd, rfl, -⟩ := mm_chk_sp (C9.1 pc _ hI)
  obtain ⟨hP, hD, hT, hS, hloc⟩ := hA
  obtain ⟨hlt, rfl⟩ := mm_put_eq hf
  obtain ⟨-, rfl⟩ := mm_put_eq hh
  have ec : mm_co ρ κ b a (.inr (ci, fs.set j (.ref x))) = (ρ a, .inr (ci, (fs.map (mm_cv ρ b)).set j (.ref (ρ x)))) := by simp [mm_co, List.map_set, mm_cv]
  refine va_putF C1 C2 C5 hin ty0 hty hnm C4 C6 hP hD hS _ (mm_rep_at hc) hcl j hj (C5 _ hw) (fun _ h9 => h9) hfin hname hdecl hd2 (hfit _).1 (hfit _).2 (by rw [List.length_map]; exact hlt) hd (fun H1 locs1 hP1 hD1 hS1 => k c1 c2 ρ κ H1 locs1 ls hag (by rw [List.length_set]; exact hN0) ⟨?_, ?_, mm_ty_setr hT, hS1, hloc⟩)
  · rw [mm_rep_set, ec]
    exact hP1
  · rw [mm_rep_set, ec]
    exact hD1
theorem mc_obj {i a : Nat} (C : mc_C p R s m args c D A nL own cc Ts M) (hI : mm_nth M.1 pc = some (some (.invokespecial i, nx, tg))) (w1 : Cond.methodLink own i Lib.objectInit ∈ Ts) (w2 : Cond.instanceMethod Lib.objectInit ∈ Ts) (w3 : Cond.code Lib.objectInit ⟨#[0xb1]⟩ 1 none ∈ Ts) (hfr : 1 ≤ R.frames) (hlo : 20 ≤ R.locals) (h8 : Nat.ble (mm_cat r) 8 = true) (k : mc_J p l e R s m args below meth c Q D A b nL N0 ρ0 κ0 cells slots nx L r h) : mc_J p l e R s m args below meth c Q D A b nL N0 ρ0 κ0 cells slots pc L (.ref a :: r) h := by
  intro c1 c2 ρ κ H locs ls hag hN0 hA
  obtain ⟨C1, C2, C3, C4, C5, C6, C7, C8, C9⟩ := C
  obtain ⟨hd, rfl, -⟩ := mm_chk_sp (C9.1 pc _ hI)
  have h8' := lv_room (m := m) (pc := pc) (ls := ls) (rest := ((.ref a :: r : List Value)).map (mm_cv ρ b)) (st := r.map (mm_cv ρ b)) (by rw [mm_cat_sum]; exact Nat.le_of_ble_eq_true h8)
  refine W.objInit (g := F0 m pc ls ((.ref a :: r : List Value).map (mm_cv ρ b))) (a := ρ a) (rest := r.map (mm_cv ρ b)) C1 C2 C4 (C5 _ w1) (C5 _ w2) (C5 _ w3) rfl (by rw [C3]; exact hA.2.2.2.2.1) rfl hd hfr (by omega) ?_
  exact k c1 c2 ρ κ H locs ls hag hN0 hA
theorem mc_ret {h0 : mm_H} (C : mc_C p R s m args c D A nL own cc Ts M) (hI : mm_nth M.1 pc = some (some (.return_, nx, tg))) (hr : meth.sig.returnType = none) (hlocks : meth.locks = false) (hA : A = va_A (mm_rep ρ0 κ0 b h0) s.heap.size) : mc_J p l e R s m args below meth c (MQ below (mc_Post D ρ0 κ0 b h0 h s.heap.size) args s cells slots (va_A (mm_rep ρ0 κ0 b h0) s.heap.size)) D A b nL h0.length ρ0 κ0 cells slots pc L [] h := by
  intro c1 c2 ρ κ H locs ls hag hN0 hAt
  obtain ⟨C1, C2, C3, C4, C5, C6, C7, C8, C9⟩ := C
  obtain ⟨hd, rfl, -⟩ := mm_chk_sp (C9.1 pc _ hI)
  obtain ⟨hP, hD, hT, hS, hloc⟩ := hAt
  subst hA
  exact W.vret C1 C2 hr (fun t ht hW => ⟨rfl, ⟨ρ, κ, hag, by rw [ht]; exact hP, mm_ty_moved hW.alike hT, hD⟩, hS.F ht⟩) hS.2.2 hd
theorem mc_init {i a N1 mc ms ml : Nat} {y : MethodName} {bytes : ByteArray} {rm : Room} {h1 : mm_H} (C : mc_C p R s m args c D A nL own cc Ts M) (hI : mm_nth M.1 pc = some (some (.invokespecial i, nx, tg))) (hM : ∀ (ρ : Nat → Nat) (κ : Nat → ClassId) (sz : Nat), Met l y (Cond.code y bytes ml none :: kG) rm (va_Pc ([Value.ref a].map (mm_cv ρ b)) (mm_Pre kNW D kl ρ κ b h sz)) (mc_Post D ρ κ b h h1 sz) mc ms (va_A (mm_rep ρ κ b h) sz)) (hG : GoodIn Ts (Cond.code y bytes ml none :: kG)) (w1 : Cond.initialized y.cls ∈ Ts) (w2 : Cond.methodLink own i y ∈ Ts) (w3 : Cond.instanceMethod y ∈ Ts) (hy : y.name = "<init>") (hd2 : y.cls ≠ "java/lang/invoke/MethodHandle" ∧ y.cls ≠ "java/lang/invoke/VarHandle" ∧ (parseMethodDescriptor y.desc).map (fun d => d.parameters.length) = some 0) (hR : rm.frames + 1 ≤ R.frames ∧ 8 + (ml + 11) + rm.locals ≤ R.locals) (hrc : rm.cells = mc) (hrs : rm.slots = ms) (hc : cells + mc ≤ R.cells) (hs : slots + ms ≤ R.slots) (h8 : Nat.ble (mm_cat r) 8 = true) (hl : h.length = N1) (hwf : mc_ok N1 L r h = true) (hle : h.length ≤ h1.length) (k : mc_J p l e R s m args below meth c Q D A b nL N0 ρ0 κ0 (cells + mc) (slots + ms) nx L r h1) : mc_J p l e R s m args below meth c Q D A b nL N0 ρ0 κ0 cells slots pc L (.ref a :: r) h := by
  intro c1 c2 ρ κ H locs ls hag hN0 hAt
  obtain ⟨C1, C2, C3, C4, C5, C6, C7, C8, C9⟩ := C
  obtain ⟨hd, rfl, -⟩ := mm_chk_sp (C9.1 pc _ hI)
  obtain ⟨hP, hD, hT, hS, hloc⟩ := hAt
  simp only [mc_ok, Bool.and_eq_true] at hwf
  have run := va_runI (p := p) (l := l) (e := e) (R := R) (s := s) (m := m) (args := args) (below := below) (meth := meth) (c := c) (H := H) (locs := locs) (cells := cells) (slots := slots) (As := []) (rest := r.map (mm_cv ρ b)) (b := ρ a) (g := F0 m pc ls ((.ref a :: r : List Value).map (mm_cv ρ b))) (nL := nL) (Ts := Ts) (own := own) ⟨C1, C2, C3, C4, C5⟩ (hM ρ κ H.size) (cwI 0 C5 hG rfl hrc hrs (C5 _ w1) (C5 _ w2) (C5 _ w3) hy hd2 hR)
    ⟨mm_blind, fun U hU hW => ⟨rfl, by rw [hU], by rw [hU]; exact hP, va_K.moved hW.alike C6, mm_nw_warm hW C7, mm_ty_moved hW.alike hT, hD.weaken (fun _ _ _ _ => trivial)⟩⟩ rfl rfl hloc.1 rfl (lv_room (by rw [mm_cat_sum]; exact Nat.le_of_ble_eq_true h8)) hd ⟨hc, hs⟩
  intro T hTT X
  obtain ⟨v', st₀, t, T', L1, q0, X', hL, e1, e2, ⟨hv, ⟨ρ', κ', ha, hP1, hT1, hD1⟩, hz, hk⟩, sto⟩ := run T hTT X
  have hv : v' = none := by cases hv; rfl
  subst hv
  rw [q0] at hz hk
  have hF : ∀ q, va_A (mm_rep ρ κ b h) H.size q → A q := fun q hq => by
    rcases hq with ⟨k, x, hk⟩ | hq
    · exact hD.2 k _ hk
    · exact C8 q (Nat.le_trans hS.1 hq)
  have hal : s.vm.Alike t.vm := by rw [← e2]; exact X'.warmed.alike
  have z := k hc hs ρ' κ' T'.heap (locs ++ L1) ls (fun j hj => ⟨(ha j (by omega)).1.trans (hag j hj).1, (ha j (by omega)).2.trans (hag j hj).2⟩) (by omega) ⟨by rw [e1]; exact hP1, hD1.weaken (fun _ _ _ z => hF _ z), mm_ty_moved hal.symm hT1, ⟨Nat.le_trans hS.1 (by rw [e1]; exact hz), fun q h1 h2 => by rw [e1, hk q (Nat.lt_of_lt_of_le h1 hS.1) (fun z => h2 (hF q z))]; exact hS.2.1 q h1 h2, fun q hq => by
      rcases List.mem_append.mp hq with h | h
      · exact hS.2.2 q h
      · exact hF _ (hL q h)⟩, mc_loc_eq (fun j hj => (ha j (by omega)).1) (N := N1) hwf.1 hloc⟩
  rw [mc_s_eq (N := N1) (fun j hj => (ha j (by omega)).1) hwf.2.1] at z
  obtain ⟨t2, a1, b1⟩ := z T' rfl X'
  exact ⟨t2, sto t2 a1, b1⟩
end MCJ
theorem mc_Met {l : Launch} {D : va_G} {b : Nat} {ρ : Nat → Nat} {κ : Nat → ClassId} {sz a mc ms ml : Nat} {y : MethodName} {bytes : ByteArray} {rm : Room} {M : mm_M} {h h1 : mm_H} {L0 : mm_L} (hpl : plainName y.cls = true) (hML : M.2.2.1 = ml) (hlay : 1 ≤ ml) (hL0 : mm_pad [some (.ref a)] ml = L0) (hokW : mm_okW kM kY kWS kR kl 116 kNW y.cls bytes (Cond.code y bytes ml none :: kG) rm M) (hname : y.name = "<init>")
    (body : ∀ {p : Program} {e : Env} {s : State} {m : MethodId} {args : Array Value} {below : List Frame} {meth : Method} {c : Code} {A : Nat → Prop}, mc_C p rm s m args c D A ml y.cls bytes (Cond.code y bytes ml none :: kG) M → meth.name = "<init>" → meth.sig.returnType = none → meth.locks = false → A = va_A (mm_rep ρ κ b h) s.heap.size → mc_J p l e rm s m args below meth c (MQ below (mc_Post D ρ κ b h h1 s.heap.size) args s mc ms (va_A (mm_rep ρ κ b h) s.heap.size)) D A b ml h.length ρ κ 0 0 0 L0 [] h) : Met l y (Cond.code y bytes ml none :: kG) rm (va_Pc ([Value.ref a].map (mm_cv ρ b)) (mm_Pre kNW D kl ρ κ b h sz)) (mc_Post D ρ κ b h h1 sz) mc ms (va_A (mm_rep ρ κ b h) sz) := by
  refine Met.ofW (cc := bytes) (maxL := ml) (ret := none) hpl rfl ?_
  intro p e s m args below meth c s₁ B hml hv
  obtain ⟨rfl, hsz, hP, hK, hNW, hT, hD0⟩ := hv
  subst hsz
  have hts := atoms_spec (ws := Cond.code y bytes ml none :: kG) B.pre
  have hown : s.vm.findClass y.cls = some m.cls := findClass_of_methodNamed B.named
  have hin : meth.name = y.name := (name_of_methodNamed B.named B.method).1
  have hl := lv_entry ([Value.ref a].map (mm_cv ρ b)) (n := ml) (by rw [mm_lay_sl]; exact hlay)
  rw [lg_entry_eq]
  generalize (lg_sl ([Value.ref a].map (mm_cv ρ b)) ++ List.replicate (ml - (lg_sl ([Value.ref a].map (mm_cv ρ b))).length) Slot.unset).toArray = ls at hl ⊢
  have hloc : mm_loc ρ b ml ls (mm_pad (mm_lay [.ref a]) ml) := ⟨hl.1, mm_pad_len _ _ hlay, hl.2.1, fun i w hi => by
    have z := hl.2.2 _ (mm_lay_get ρ b [.ref a] 0 i w (mm_pad_get _ _ _ _ hi))
    simpa using z⟩
  have hloc : mm_loc ρ b ml ls L0 := by rw [← hL0]; exact hloc
  exact body ⟨B.exec, B.bytes, hml, hown, hts, hK, hNW, fun q hq => Or.inr hq, hokW⟩ (by rw [hin, hname]) B.returns B.notSynchronized rfl (Nat.zero_le _) (Nat.zero_le _) ρ κ s.heap [] ls (fun _ _ => ⟨rfl, rfl⟩) (Nat.le_refl _) ⟨hP, hD0.self, hT, va_S.rf, hloc⟩
