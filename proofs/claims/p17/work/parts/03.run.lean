/-! THE SMALL MACHINE IS SOUND, second half: calls, one step, a run, a contract. -/
abbrev mm_N : Type := List (String × Nat × MethodName × String)
def mm_nw (NW : mm_N) (U : State) : Prop := ∀ x ∈ NW, va_Nw (.methodLinkNest x.1 x.2.1 x.2.2.1 x.2.2.2) U
theorem mm_nw_warm {NW : mm_N} {s U : State} (hW : s.WarmedH U.vm) (h : mm_nw NW s) : mm_nw NW U := fun x hx => va_Nw.warmM hW (h x hx)
def mm_Pre (NW : mm_N) (D : va_G) (cl : List vw_C) (ρ : Nat → Nat) (κ : Nat → ClassId) (b : Nat) (h : mm_H) (sz : Nat) : State → Prop := fun U => U.heap.size = sz ∧ va_P D cl (mm_rep ρ κ b h) U.heap ∧ va_K D cl [] U ∧ mm_nw NW U ∧ mm_ty κ h U ∧ va_D (fun _ => True) (mm_rep ρ κ b h)
def mm_Post (D : va_G) (cl : List vw_C) (ρ : Nat → Nat) (κ : Nat → ClassId) (b : Nat) (h : mm_H) (v : Option Value) (h1 : mm_H) (sz : Nat) : Array Value → State → Outcome → State → Prop := fun _ st oc t => oc = .returned (v.map (mm_cv ρ b)) ∧ va_P D cl (mm_rep ρ κ b h1) t.heap ∧ mm_ty κ h1 t ∧ va_D (va_A (mm_rep ρ κ b h) sz) (mm_rep ρ κ b h1) ∧ va_F (va_A (mm_rep ρ κ b h) sz) st t
theorem mm_blind {NW : mm_N} {D : va_G} {cl : List vw_C} {ρ : Nat → Nat} {κ : Nat → ClassId} {b : Nat} {h : mm_H} {sz : Nat} {av : List Value} : FrameBlind (va_Pc av (mm_Pre NW D cl ρ κ b h sz)) := fun a U g mk q => by
  obtain ⟨q0, q1, qP, qK, qN, qT, qD⟩ := q
  exact ⟨q0, q1, qP, va_K.moved (u := U) (U := U.calling g mk a) (Vm.Alike.refl U.vm) qK, fun x hx => va_Nw.same (u := U) (U := U.calling g mk a) rfl rfl (qN x hx), mm_ty_moved (u := U) (U := U.calling g mk a) (Vm.Alike.refl U.vm) qT, qD⟩
theorem mm_back_sp {nx : Nat} {L : mm_L} {r : List Value} {o : Option (Option Value × mm_H)} {X : mm_R} (h : mm_back nx L r o = some X) : ∃ (v : Option Value) (h1 : mm_H), o = some (v, h1) ∧ X = (nx, L, v.toList ++ r, h1) := by
  unfold mm_back at h
  split at h
  · rename_i v h1
    cases h
    exact ⟨some v, h1, rfl, rfl⟩
  · rename_i h1
    cases h
    exact ⟨none, h1, rfl, rfl⟩
  · cases h
section MMC
variable {p : Program} {l : Launch} {e : Env} {R : Room} {s : State} {m : MethodId} {args : Array Value} {below : List Frame} {meth : Method} {c : Code} {cells slots : Nat} {Q : State → Prop} {cc : ByteArray} {D : va_G} {cl : List vw_C} {A : Nat → Prop} {ρ : Nat → Nat} {κ : Nat → ClassId} {b nL : Nat} {H : Heap} {locs : List Loc} {ls : Array Slot} {pc nx : Nat} {L : mm_L} {st : List Value} {h : mm_H} {X : mm_R} {tg : List Nat}
theorem mm_after {v : Option Value} {h1 : mm_H} {a0 : Array Value} {st0 rest : List Value} (hr : va_Run p l e R s m args below meth c H locs cells slots 0 0 (F0 m pc ls st0) rest (mm_Post D cl ρ κ b h v h1 H.size a0) (va_A (mm_rep ρ κ b h) H.size)) (hA : mm_At D cl A ρ κ b nL s H locs ls L h) (hAz : ∀ q, s.heap.size ≤ q → A q)
    (kk : ∀ (H1 : Heap) (locs1 : List Loc), mm_At D cl A ρ κ b nL s H1 locs1 ls L h1 → W p l e R s m args below meth c H1 locs1 cells slots Q (F0 m (pc + 3) ls ((v.map (mm_cv ρ b)).toList ++ rest))) : W p l e R s m args below meth c H locs cells slots Q (F0 m pc ls st0) := by
  intro T hT X
  obtain ⟨v', st₀, t, T', L1, h0, X', hL, e1, e2, ⟨hv, hP1, hT1, hD1, hz, hk⟩, sto⟩ := hr T hT X
  have hv : v' = v.map (mm_cv ρ b) := by cases hv; rfl
  subst hv
  rw [h0] at hz hk
  obtain ⟨hP, hD, hTy, hS, hl⟩ := hA
  have hF : ∀ q, va_A (mm_rep ρ κ b h) H.size q → A q := fun q hq => by
    rcases hq with ⟨k, x, hk⟩ | hq
    · exact hD.2 k _ hk
    · exact hAz q (Nat.le_trans hS.1 hq)
  have hal : s.vm.Alike t.vm := by rw [← e2]; exact X'.warmed.alike
  obtain ⟨t2, a1, b1⟩ := kk T'.heap (locs ++ L1) ⟨by rw [e1]; exact hP1, hD1.weaken (fun _ _ _ z => hF _ z), mm_ty_moved hal.symm hT1, ⟨Nat.le_trans hS.1 (by rw [e1]; exact hz), fun q h1 h2 => by rw [e1, hk q (Nat.lt_of_lt_of_le h1 hS.1) (fun z => h2 (hF q z))]; exact hS.2.1 q h1 h2, fun q hq => by
      rcases List.mem_append.mp hq with h | h
      · exact hS.2.2 q h
      · exact hF _ (hL q h)⟩, hl⟩ T' rfl X'
  exact ⟨t2, sto t2 a1, b1⟩
end MMC
section MMT
variable (G : List mm_M) (Y : Nat → MethodName) (WS : Nat → List Cond) (RM : Nat → Room) (BC : Nat → ByteArray) (cl : List vw_C) (nM : Nat) (NW : mm_N)
/-- what the words say of a number of the pool -/
def mm_word (own : String) (Ts : List Cond) (R : Room) (i : Nat) (K : mm_K) : Prop := match K with
  | .inl q => mm_fw cl own Ts i q
  | .inr (.inl (.int v)) => Cond.constant own i v ∈ Ts
  | .inr (.inl (.long v)) => Cond.constantLong own i v ∈ Ts
  | .inr (.inl _) => True
  | .inr (.inr (.inr n)) => n = 0 ∧ (Cond.methodLink own i Lib.Math.max.name ∈ Ts ∧ Cond.static Lib.Math.max.name ∈ Ts ∧ Cond.initialized "java/lang/Math" ∈ Ts ∧ Cond.code Lib.Math.max.name Lib.Math.max.code 2 (some .int) ∈ Ts ∧ 1 ≤ R.frames ∧ 21 ≤ R.locals) ∨ n = 1 ∧ (Cond.methodLink own i Lib.MathLoose.min_long.x ∈ Ts ∧ Cond.static Lib.MathLoose.min_long.x ∈ Ts ∧ Cond.initialized "java/lang/Math" ∈ Ts ∧ Cond.code Lib.MathLoose.min_long.x Lib.MathLoose.min_long.code 4 (some .long) ∈ Ts ∧ 1 ≤ R.frames ∧ 23 ≤ R.locals)
  | .inr (.inr (.inl q)) => q.1 < nM ∧ ∃ M2 : mm_M, mm_nth G q.1 = some M2 ∧ (RM q.1).frames + 1 ≤ R.frames ∧ 8 + (M2.2.2.1 + 11) + (RM q.1).locals ≤ R.locals ∧ ((Y q.1).cls ≠ "java/lang/invoke/MethodHandle" ∧ (Y q.1).cls ≠ "java/lang/invoke/VarHandle" ∧ (parseMethodDescriptor (Y q.1).desc).map (fun d => d.parameters.length) = some q.2.1) ∧ (match q.2.2 with
    | some ci => ∃ (C : String) (T : u_T) (N : Nat), cl[ci]? = some (C, T, N) ∧ (Y q.1).cls = C ∧ GoodIn Ts (wsV own i C (Y q.1) (WS q.1))
    | none => GoodIn Ts (va_wsS own i (Y q.1) (WS q.1)) ∨ ∃ host : String, (own, i, Y q.1, host) ∈ NW ∧ GoodIn Ts (WS q.1) ∧ Cond.initialized (Y q.1).cls ∈ Ts ∧ Cond.static (Y q.1) ∈ Ts)
/-- a method's tables fit its code and its words -/
def mm_okW (own : String) (cc : ByteArray) (Ts : List Cond) (R : Room) (M : mm_M) : Prop := (∀ (pc : Nat) (x : mm_I), mm_nth M.1 pc = some (some x) → mm_chk cc pc x = true) ∧ ∀ (i : Nat) (K : mm_K), mm_look M.2.1 i = some K → mm_word G Y WS RM cl nM NW own Ts R i K
def mm_ok (k : Nat) (M : mm_M) : Prop := (∃ ws', WS k = Cond.code (Y k) (BC k) M.2.2.1 M.2.2.2 :: ws') ∧ plainName (Y k).cls = true ∧ (RM k).cells = 0 ∧ (RM k).slots = 0 ∧ mm_okW G Y WS RM cl nM NW (Y k).cls (BC k) (WS k) (RM k) M

theorem mm_s_virt {p : Program} {l : Launch} {e : Env} {R : Room} {s : State} {m : MethodId} {args : Array Value} {below : List Frame} {meth : Method} {c : Code} {cells slots : Nat} {Q : State → Prop} {cc : ByteArray} {D : va_G} {A : Nat → Prop} {ρ : Nat → Nat} {κ : Nat → ClassId} {b nL : Nat} {H : Heap} {locs : List Loc} {ls : Array Slot} {pc nx : Nat} {L : mm_L} {st : List Value} {h : mm_H} {X : mm_R} {tg : List Nat} {own : String} {Ts : List Cond} {call : Nat → List Value → mm_H → Option (Option Value × mm_H)} {i : Nat} {q : Nat × Nat × Option Nat} (hx : p.tables.exec = Jvm.exec) (hb : c.code = cc) (hml : c.maxLocals = nL) (hown : s.vm.findClass own = some m.cls) (hts : ∀ w ∈ Ts, w.before args s = true) (hK : va_K D cl [] s) (hNW : mm_nw NW s) (hAz : ∀ q, s.heap.size ≤ q → A q) (hcs : cells ≤ R.cells ∧ slots ≤ R.slots) (hok : ∀ (k : Nat) (M : mm_M), k < nM → mm_nth G k = some M → mm_ok G Y WS RM BC cl nM NW k M) (hw : mm_word G Y WS RM cl nM NW own Ts R i (.inr (.inr (.inl q)))) (hcall : ∀ (k : Nat) (M : mm_M) (As : List Value) (v : Option Value) (h1 : mm_H) (sz : Nat), k < nM → mm_nth G k = some M → call k As h = some (v, h1) → Met l (Y k) (WS k) (RM k) (va_Pc (As.map (mm_cv ρ b)) (mm_Pre NW D cl ρ κ b h sz)) (mm_Post D cl ρ κ b h v h1 sz) 0 0 (va_A (mm_rep ρ κ b h) sz)) (hc : mm_chk cc pc (.invokevirtual i, nx, tg) = true) (hex : mm_ivv call nx L st h q = some X) (hA : mm_At D cl A ρ κ b nL s H locs ls L h) (kk : mm_kk p l e R s m args below meth c cells slots Q D cl A ρ κ b nL X) : W p l e R s m args below meth c H locs cells slots Q (F0 m pc ls (st.map (mm_cv ρ b))) := by
  obtain ⟨hd, rfl, -⟩ := mm_chk_sp hc
  unfold mm_ivv at hex
  split at hex
  · rename_i ci As r eci etk
    obtain ⟨Bk, hAs, hst, hlen⟩ := mm_take_eq _ _ _ _ _ etk
    rw [List.append_nil] at hAs
    unfold mm_cv1 at hex
    split at hex
    · rename_i a r'
      split at hex
      · rename_i cj fs ecell
        split at hex
        · rename_i e1 e2
          have e1 := Nat.eq_of_beq_eq_true e1
          have e2 := Nat.le_of_ble_eq_true e2
          subst e1
          obtain ⟨v, h1, ecall, rfl⟩ := mm_back_sp hex
          obtain ⟨hk, M2, hM2, hfr, hlo, hnm, hrest⟩ := hw
          rw [eci] at hrest
          obtain ⟨C, T, N, hcl, hyc, hG⟩ := hrest
          obtain ⟨⟨ws', hws⟩, -, hz1, hz2, -⟩ := hok q.1 M2 hk hM2
          have hM := hcall q.1 M2 (.ref a :: As) v h1 H.size hk hM2 ecall
          obtain ⟨hP, hD, hTy, hS, hl⟩ := id hA
          have run := va_runV (p := p) (l := l) (e := e) (R := R) (s := s) (m := m) (args := args) (below := below) (meth := meth) (c := c) (H := H) (locs := locs) (cells := cells) (slots := slots) (As := As.map (mm_cv ρ b)) (rest := r'.map (mm_cv ρ b)) (b := ρ a) (C := C) (g := F0 m pc ls (st.map (mm_cv ρ b))) (nL := nL) (Ts := Ts) (own := own) ⟨hx, hb, hml, hown, hts⟩ hM (cwV q.2.1 hts hG hws hz1 hz2 ⟨hyc, hnm.1, hnm.2.1, hnm.2.2⟩ ⟨hfr, hlo⟩)
            ⟨mm_blind, va_recv hK hP hcl (mm_rep_at ecell), fun U hU hW => ⟨rfl, by rw [hU], by rw [hU]; exact hP, va_K.moved hW.alike hK, mm_nw_warm hW hNW, mm_ty_moved hW.alike hTy, hD.weaken (fun _ _ _ _ => trivial)⟩⟩ rfl (by rw [List.length_map, hAs, List.length_reverse, hlen]) hl.1 (by show st.map _ = _; rw [hst, hAs]; simp [mm_cv]) (lv_room (by rw [mm_cat_sum]; exact e2)) hd ⟨hcs.1, hcs.2⟩
          refine mm_after run hA hAz (fun H1 locs1 hA1 => ?_)
          have z := kk H1 locs1 ls hA1
          cases v with
          | none => exact z
          | some v => exact z
        · cases hex
      · cases hex
    · cases hex
  · cases hex
theorem mm_s_stat {p : Program} {l : Launch} {e : Env} {R : Room} {s : State} {m : MethodId} {args : Array Value} {below : List Frame} {meth : Method} {c : Code} {cells slots : Nat} {Q : State → Prop} {cc : ByteArray} {D : va_G} {A : Nat → Prop} {ρ : Nat → Nat} {κ : Nat → ClassId} {b nL : Nat} {H : Heap} {locs : List Loc} {ls : Array Slot} {pc nx : Nat} {L : mm_L} {st : List Value} {h : mm_H} {X : mm_R} {tg : List Nat} {own : String} {Ts : List Cond} {call : Nat → List Value → mm_H → Option (Option Value × mm_H)} {i : Nat} {q : Nat × Nat × Option Nat} (hx : p.tables.exec = Jvm.exec) (hb : c.code = cc) (hml : c.maxLocals = nL) (hown : s.vm.findClass own = some m.cls) (hts : ∀ w ∈ Ts, w.before args s = true) (hK : va_K D cl [] s) (hNW : mm_nw NW s) (hAz : ∀ q, s.heap.size ≤ q → A q) (hcs : cells ≤ R.cells ∧ slots ≤ R.slots) (hok : ∀ (k : Nat) (M : mm_M), k < nM → mm_nth G k = some M → mm_ok G Y WS RM BC cl nM NW k M) (hw : mm_word G Y WS RM cl nM NW own Ts R i (.inr (.inr (.inl q)))) (hcall : ∀ (k : Nat) (M : mm_M) (As : List Value) (v : Option Value) (h1 : mm_H) (sz : Nat), k < nM → mm_nth G k = some M → call k As h = some (v, h1) → Met l (Y k) (WS k) (RM k) (va_Pc (As.map (mm_cv ρ b)) (mm_Pre NW D cl ρ κ b h sz)) (mm_Post D cl ρ κ b h v h1 sz) 0 0 (va_A (mm_rep ρ κ b h) sz)) (hc : mm_chk cc pc (.invokestatic i, nx, tg) = true) (hex : mm_ivs call nx L st h q = some X) (hA : mm_At D cl A ρ κ b nL s H locs ls L h) (kk : mm_kk p l e R s m args below meth c cells slots Q D cl A ρ κ b nL X) : W p l e R s m args below meth c H locs cells slots Q (F0 m pc ls (st.map (mm_cv ρ b))) := by
  obtain ⟨hd, rfl, -⟩ := mm_chk_sp hc
  unfold mm_ivs at hex
  split at hex
  · rename_i As r eci etk
    obtain ⟨Bk, hAs, hst, hlen⟩ := mm_take_eq _ _ _ _ _ etk
    rw [List.append_nil] at hAs
    unfold mm_cs1 at hex
    split at hex
    · rename_i e2
      have e2 := Nat.le_of_ble_eq_true e2
      obtain ⟨v, h1, ecall, rfl⟩ := mm_back_sp hex
      obtain ⟨hk, M2, hM2, hfr, hlo, hnm, hrest⟩ := hw
      rw [eci] at hrest
      obtain ⟨⟨ws', hws⟩, -, hz1, hz2, -⟩ := hok q.1 M2 hk hM2
      have hM := hcall q.1 M2 As v h1 H.size hk hM2 ecall
      obtain ⟨hP, hD, hTy, hS, hl⟩ := id hA
      have run : va_Run p l e R s m args below meth c H locs cells slots 0 0 (F0 m pc ls (st.map (mm_cv ρ b))) (r.map (mm_cv ρ b)) (mm_Post D cl ρ κ b h v h1 H.size (As.map (mm_cv ρ b)).toArray) (va_A (mm_rep ρ κ b h) H.size) := by
        rcases hrest with hrest | ⟨host, hn1, hn2, hn3, hn4⟩
        · exact va_runS (As := As.map (mm_cv ρ b)) (rest := r.map (mm_cv ρ b)) (g := F0 m pc ls (st.map (mm_cv ρ b))) (nL := nL) (Ts := Ts) (own := own) ⟨hx, hb, hml, hown, hts⟩ hM (va_cwS q.2.1 hts hrest hws hz1 hz2 hnm ⟨hfr, hlo⟩)
            ⟨mm_blind, fun U hU hW => ⟨rfl, by rw [hU], by rw [hU]; exact hP, va_K.moved hW.alike hK, mm_nw_warm hW hNW, mm_ty_moved hW.alike hTy, hD.weaken (fun _ _ _ _ => trivial)⟩⟩ rfl (by rw [List.length_map, hAs, List.length_reverse, hlen]) hl.1 (by show st.map _ = _; rw [hst, hAs]; simp) (lv_room (by rw [mm_cat_sum]; exact e2)) hd ⟨hcs.1, hcs.2⟩
        · exact va_runSN (As := As.map (mm_cv ρ b)) (rest := r.map (mm_cv ρ b)) (g := F0 m pc ls (st.map (mm_cv ρ b))) (nL := nL) (Ts := Ts) (own := own) (host := host) ⟨hx, hb, hml, hown, hts⟩ hM ⟨va_cnB q.2.1 hts hn2 hws hz1 hz2 (hNW _ hn1) (hts _ hn3) hnm ⟨hfr, hlo⟩, hts _ hn4, trivial⟩
            ⟨mm_blind, fun U hU hW => ⟨rfl, by rw [hU], by rw [hU]; exact hP, va_K.moved hW.alike hK, mm_nw_warm hW hNW, mm_ty_moved hW.alike hTy, hD.weaken (fun _ _ _ _ => trivial)⟩⟩ rfl (by rw [List.length_map, hAs, List.length_reverse, hlen]) hl.1 (by show st.map _ = _; rw [hst, hAs]; simp) (lv_room (by rw [mm_cat_sum]; exact e2)) hd ⟨hcs.1, hcs.2⟩
      refine mm_after run hA hAz (fun H1 locs1 hA1 => ?_)
      have z := kk H1 locs1 ls hA1
      cases v with
      | none => exact z
      | some v => exact z
    · cases hex
  · cases hex
set_option maxHeartbeats 4000000 in
theorem mm_step {p : Program} {l : Launch} {e : Env} {R : Room} {s : State} {m : MethodId} {args : Array Value} {below : List Frame} {meth : Method} {c : Code} {cells slots : Nat} {Q : State → Prop} {cc : ByteArray} {D : va_G} {A : Nat → Prop} {ρ : Nat → Nat} {κ : Nat → ClassId} {b nL : Nat} {H : Heap} {locs : List Loc} {ls : Array Slot} {pc nx : Nat} {L : mm_L} {st : List Value} {h : mm_H} {X : mm_R} {tg : List Nat} {own : String} {Ts : List Cond} {call : Nat → List Value → mm_H → Option (Option Value × mm_H)} {scr : mm_X} {pool : List (Nat × mm_K)} {ins : Jvm.ClassFile.Instr} (hx : p.tables.exec = Jvm.exec) (hb : c.code = cc) (hml : c.maxLocals = nL) (hown : s.vm.findClass own = some m.cls) (hts : ∀ w ∈ Ts, w.before args s = true) (hK : va_K D cl [] s) (hNW : mm_nw NW s) (hAz : ∀ q, s.heap.size ≤ q → A q) (hcs : cells ≤ R.cells ∧ slots ≤ R.slots) (hok : ∀ (k : Nat) (M : mm_M), k < nM → mm_nth G k = some M → mm_ok G Y WS RM BC cl nM NW k M) (hpool : ∀ (i : Nat) (K : mm_K), mm_look pool i = some K → mm_word G Y WS RM cl nM NW own Ts R i K) (hscr : ∀ (n : Nat) (f : Nat → Int32), scr = some (n, f) → va_X b n f s s.heap ∧ b < s.heap.size ∧ ¬ A b) (hcall : ∀ (k : Nat) (M : mm_M) (As : List Value) (v : Option Value) (h1 : mm_H) (sz : Nat), k < nM → mm_nth G k = some M → call k As h = some (v, h1) → Met l (Y k) (WS k) (RM k) (va_Pc (As.map (mm_cv ρ b)) (mm_Pre NW D cl ρ κ b h sz)) (mm_Post D cl ρ κ b h v h1 sz) 0 0 (va_A (mm_rep ρ κ b h) sz)) (hc : mm_chk cc pc (ins, nx, tg) = true) (hex : mm_ex call scr pool ins nx tg L st h = some X) (hA : mm_At D cl A ρ κ b nL s H locs ls L h) (kk : mm_kk p l e R s m args below meth c cells slots Q D cl A ρ κ b nL X) : W p l e R s m args below meth c H locs cells slots Q (F0 m pc ls (st.map (mm_cv ρ b))) := by
  cases ins
  case iconst n =>
    obtain ⟨hd, rfl, -⟩ := mm_chk_sp hc
    cases hex
    exact lv_iconst hx hb hd rfl (kk H locs ls hA)
  case bipush n =>
    obtain ⟨hd, rfl, -⟩ := mm_chk_sp hc
    cases hex
    exact lv_bipush hx hb hd rfl (kk H locs ls hA)
  case sipush n =>
    obtain ⟨hd, rfl, -⟩ := mm_chk_sp hc
    cases hex
    exact lv_sipush hx hb hd rfl (kk H locs ls hA)
  case lconst n =>
    obtain ⟨hd, rfl, -⟩ := mm_chk_sp hc
    cases hex
    exact lv_lconst hx hb hd rfl (kk H locs ls hA)
  case aconst_null =>
    obtain ⟨hd, rfl, -⟩ := mm_chk_sp hc
    cases hex
    exact lv_null hx hb hd (kk H locs ls hA)
  case ldc i =>
    obtain ⟨hd, rfl, -⟩ := mm_chk_sp hc
    simp only [mm_ex] at hex
    split at hex
    · rename_i v ev
      cases hex
      exact lv_ldc hx hb hown (hts _ (hpool i _ ev)) hd (kk H locs ls hA)
    · cases hex
  case ldc_w i =>
    obtain ⟨hd, rfl, -⟩ := mm_chk_sp hc
    simp only [mm_ex] at hex
    split at hex
    · rename_i v ev
      cases hex
      exact lv_ldcw hx hb hown (hts _ (hpool i _ ev)) hd (kk H locs ls hA)
    · cases hex
  case ldc2_w i =>
    obtain ⟨hd, rfl, -⟩ := mm_chk_sp hc
    simp only [mm_ex] at hex
    split at hex
    · rename_i v ev
      cases hex
      exact lv_ldc2 hx hb hown (hts _ (hpool i _ ev)) hd (kk H locs ls hA)
    · cases hex
  case iload_n k =>
    exact mm_s_iload_n hx hb hc hex hA kk
  case iload i =>
    exact mm_s_iload hx hb hc hex hA kk
  case lload_n k =>
    exact mm_s_lload_n hx hb hc hex hA kk
  case lload i =>
    exact mm_s_lload hx hb hc hex hA kk
  case aload_n k =>
    exact mm_s_aload_n hx hb hc hex hA kk
  case aload i =>
    exact mm_s_aload hx hb hc hex hA kk
  case istore_n k =>
    exact mm_s_istore_n hx hb hc hex hA kk
  case istore i =>
    exact mm_s_istore hx hb hc hex hA kk
  case lstore_n k =>
    exact mm_s_lstore_n hx hb hc hex hA kk
  case lstore i =>
    exact mm_s_lstore hx hb hc hex hA kk
  case astore_n k =>
    exact mm_s_astore_n hx hb hc hex hA kk
  case astore i =>
    exact mm_s_astore hx hb hc hex hA kk
  case iinc i n =>
    exact mm_s_iinc hx hb hc hex hA kk
  case iadd =>
    exact mm_s_iadd hx hb hc hex hA kk
  case isub =>
    exact mm_s_isub hx hb hc hex hA kk
  case imul =>
    exact mm_s_imul hx hb hc hex hA kk
  case iand =>
    exact mm_s_iand hx hb hc hex hA kk
  case ior =>
    exact mm_s_ior hx hb hc hex hA kk
  case ixor =>
    exact mm_s_ixor hx hb hc hex hA kk
  case ishl =>
    exact mm_s_ishl hx hb hc hex hA kk
  case ishr =>
    exact mm_s_ishr hx hb hc hex hA kk
  case iushr =>
    exact mm_s_iushr hx hb hc hex hA kk
  case ladd =>
    exact mm_s_ladd hx hb hc hex hA kk
  case lsub =>
    exact mm_s_lsub hx hb hc hex hA kk
  case lmul =>
    exact mm_s_lmul hx hb hc hex hA kk
  case land =>
    exact mm_s_land hx hb hc hex hA kk
  case lor =>
    exact mm_s_lor hx hb hc hex hA kk
  case lxor =>
    exact mm_s_lxor hx hb hc hex hA kk
  case idiv =>
    exact mm_s_idiv hx hb hc hex hA kk
  case irem =>
    exact mm_s_irem hx hb hc hex hA kk
  case ldiv =>
    exact mm_s_ldiv hx hb hc hex hA kk
  case lrem =>
    exact mm_s_lrem hx hb hc hex hA kk
  case lshl =>
    exact mm_s_lshl hx hb hc hex hA kk
  case lshr =>
    exact mm_s_lshr hx hb hc hex hA kk
  case ineg =>
    obtain ⟨hd, rfl, -⟩ := mm_chk_sp hc
    simp only [mm_ex] at hex
    split at hex
    · cases hex
      exact lv_ineg hx hb hd (kk H locs ls hA)
    · cases hex
  case lneg =>
    obtain ⟨hd, rfl, -⟩ := mm_chk_sp hc
    simp only [mm_ex] at hex
    split at hex
    · cases hex
      exact lv_lneg hx hb hd (kk H locs ls hA)
    · cases hex
  case lcmp =>
    obtain ⟨hd, rfl, -⟩ := mm_chk_sp hc
    simp only [mm_ex] at hex
    split at hex
    · cases hex
      exact W.lcmp hx hb hd (kk H locs ls hA)
    · cases hex
  case i2l =>
    obtain ⟨hd, rfl, -⟩ := mm_chk_sp hc
    simp only [mm_ex] at hex
    split at hex
    · cases hex
      exact lv_i2l hx hb hd rfl (kk H locs ls hA)
    · cases hex
  case l2i =>
    obtain ⟨hd, rfl, -⟩ := mm_chk_sp hc
    simp only [mm_ex] at hex
    split at hex
    · cases hex
      exact lv_l2i hx hb hd rfl (kk H locs ls hA)
    · cases hex
  case dup =>
    obtain ⟨hd, rfl, -⟩ := mm_chk_sp hc
    simp only [mm_ex] at hex
    split at hex
    · cases hex
      exact lv_dup hx hb hd rfl (kk H locs ls hA)
    · cases hex
      exact lv_dup hx hb hd rfl (kk H locs ls hA)
    · cases hex
  case dup2 =>
    obtain ⟨hd, rfl, -⟩ := mm_chk_sp hc
    simp only [mm_ex] at hex
    split at hex
    · cases hex
      exact lv_dup2_11 hx hb hd rfl rfl (kk H locs ls hA)
    · cases hex
  case pop =>
    obtain ⟨hd, rfl, -⟩ := mm_chk_sp hc
    simp only [mm_ex] at hex
    split at hex
    · cases hex
      exact lv_pop hx hb hd rfl (kk H locs ls hA)
    · cases hex
  case goto o =>
    exact mm_s_goto hx hb hc hex hA kk
  case ifCond co o =>
    simp only [mm_ex] at hex
    split at hex
    · exact mm_s_if hx hb hc hex hA kk
    · cases hex
  case if_icmp co o =>
    simp only [mm_ex] at hex
    split at hex
    · exact mm_s_icmp hx hb hc hex hA kk
    · cases hex
  case ifnull o =>
    exact mm_s_ifnull hx hb hc hex hA kk
  case ifnonnull o =>
    exact mm_s_ifnonnull hx hb hc hex hA kk
  case tableswitch d lo hi offs =>
    exact mm_s_tsw hx hb hc hex hA kk
  case iaload =>
    exact mm_s_iaload hK hscr hx hb hc hex hA kk
  case laload =>
    exact mm_s_laload hK hx hb hc hex hA kk
  case baload =>
    exact mm_s_baload hK hx hb hc hex hA kk
  case iastore =>
    exact mm_s_iastore hK hx hb hc hex hA kk
  case lastore =>
    exact mm_s_lastore hK hx hb hc hex hA kk
  case bastore =>
    exact mm_s_bastore hK hx hb hc hex hA kk
  case arraylength =>
    exact mm_s_arraylength hK hscr hx hb hc hex hA kk
  case getfield i =>
    simp only [mm_ex] at hex
    split at hex
    · rename_i q ev
      exact mm_s_getfield hown hts hK (hpool i _ ev) hx hb hc hex hA kk
    · cases hex
  case putfield i =>
    simp only [mm_ex] at hex
    split at hex
    · rename_i q ev
      exact mm_s_putfield hown hts hK (hpool i _ ev) hx hb hc hex hA kk
    · cases hex
  case invokevirtual i =>
    simp only [mm_ex] at hex
    split at hex
    · rename_i q ev
      exact mm_s_virt G Y WS RM BC cl nM NW hx hb hml hown hts hK hNW hAz hcs hok (hpool i _ ev) hcall hc hex hA kk
    · cases hex
  case invokestatic i =>
    simp only [mm_ex] at hex
    split at hex
    · rename_i q ev
      exact mm_s_stat G Y WS RM BC cl nM NW hx hb hml hown hts hK hNW hAz hcs hok (hpool i _ ev) hcall hc hex hA kk
    · rename_i ev
      obtain ⟨hd, rfl, -⟩ := mm_chk_sp hc
      rcases hpool i _ ev with ⟨-, w1, w2, w3, w4, w5, w6⟩ | ⟨e1, -⟩
      · unfold mm_max at hex
        split at hex
        · split at hex
          · rename_i e2
            cases hex
            exact va_mmax hx hb (by rw [hml]; exact hA.2.2.2.2.1.symm) hown (hts _ w1) (hts _ w2) (hts _ w3) (hts _ w4) w5 (by rw [mm_cat_sum]; exact Nat.le_trans (Nat.add_le_add_right (Nat.le_of_ble_eq_true e2) 13) w6) hcs.1 hcs.2 hd (kk H locs ls hA)
          · cases hex
        · cases hex
      · cases e1
    · rename_i ev
      obtain ⟨hd, rfl, -⟩ := mm_chk_sp hc
      rcases hpool i _ ev with ⟨e1, -⟩ | ⟨-, w1, w2, w3, w4, w5, w6⟩
      · cases e1
      · unfold mm_min at hex
        split at hex
        · split at hex
          · rename_i e2
            cases hex
            exact va_mmin_long hx hb (by rw [hml]; exact hA.2.2.2.2.1.symm) hown (hts _ w1) (hts _ w2) (hts _ w3) (hts _ w4) w5 (by rw [mm_cat_sum]; exact Nat.le_trans (Nat.add_le_add_right (Nat.le_of_ble_eq_true e2) 15) w6) hcs.1 hcs.2 hd (kk H locs ls hA)
          · cases hex
        · cases hex
    · cases hex
  all_goals exact nomatch (show (none : Option mm_R) = some X from hex)
/-- A RUN IS A WALK -/
theorem mm_W (l : Launch) {D : va_G} {ρ : Nat → Nat} {κ : Nat → ClassId} {b : Nat} (hok : ∀ (k : Nat) (M : mm_M), k < nM → mm_nth G k = some M → mm_ok G Y WS RM BC cl nM NW k M) (n : Nat)
    (hcall : ∀ (n' : Nat), n' < n → ∀ (k : Nat) (M : mm_M) (As : List Value) (h : mm_H) (v : Option Value) (h1 : mm_H) (sz : Nat), k < nM → mm_nth G k = some M → (mm_lay As).length ≤ M.2.2.1 → mm_run G n' none k 0 (mm_pad (mm_lay As) M.2.2.1) [] h = some (v, h1) → Met l (Y k) (WS k) (RM k) (va_Pc (As.map (mm_cv ρ b)) (mm_Pre NW D cl ρ κ b h sz)) (mm_Post D cl ρ κ b h v h1 sz) 0 0 (va_A (mm_rep ρ κ b h) sz)) :
    ∀ {p : Program} {e : Env} {R : Room} {s : State} {m : MethodId} {args : Array Value} {below : List Frame} {meth : Method} {c : Code} {cells slots : Nat} {Q : State → Prop} {cc : ByteArray} {A : Nat → Prop} {nL k : Nat} {M : mm_M} {own : String} {Ts : List Cond} {scr : mm_X} {v : Option Value} {h1 : mm_H},
    p.tables.exec = Jvm.exec → c.code = cc → c.maxLocals = nL → s.vm.findClass own = some m.cls → (∀ w ∈ Ts, w.before args s = true) → va_K D cl [] s → mm_nw NW s → (∀ q, s.heap.size ≤ q → A q) → (cells ≤ R.cells ∧ slots ≤ R.slots) → mm_nth G k = some M → mm_okW G Y WS RM cl nM NW own cc Ts R M → (∀ (n : Nat) (f : Nat → Int32), scr = some (n, f) → va_X b n f s s.heap ∧ b < s.heap.size ∧ ¬ A b) →
    (∀ (pc nx : Nat) (tg : List Nat) (ins : Jvm.ClassFile.Instr) (st : List Value) (L : mm_L) (H : Heap) (locs : List Loc) (ls : Array Slot), mm_chk cc pc (ins, nx, tg) = true → mm_ret M.2.2.2 ins st = some v → mm_At D cl A ρ κ b nL s H locs ls L h1 → W p l e R s m args below meth c H locs cells slots Q (F0 m pc ls (st.map (mm_cv ρ b)))) →
    ∀ (pc : Nat) (L : mm_L) (st : List Value) (h : mm_H) (H : Heap) (locs : List Loc) (ls : Array Slot), mm_run G n scr k pc L st h = some (v, h1) → mm_At D cl A ρ κ b nL s H locs ls L h → W p l e R s m args below meth c H locs cells slots Q (F0 m pc ls (st.map (mm_cv ρ b))) := by
  induction n with
  | zero =>
    intro p e R s m args below meth c cells slots Q cc A nL k M own Ts scr v h1 hx hb hml hown hts hK hNW hAz hcs hM hokW hscr hret pc L st h H locs ls hrun
    simp only [mm_run] at hrun
    cases hrun
  | succ n ih =>
    intro p e R s m args below meth c cells slots Q cc A nL k M own Ts scr v h1 hx hb hml hown hts hK hNW hAz hcs hM hokW hscr hret pc L st h H locs ls hrun hA
    simp only [mm_run, hM] at hrun
    split at hrun
    · rename_i x ex
      have hc := hokW.1 pc x ex
      split at hrun
      · rename_i v' ev
        cases hrun
        exact hret pc x.2.1 x.2.2 x.1 st L H locs ls hc ev hA
      · split at hrun
        · rename_i pc' L' st' h' eex
          refine mm_step G Y WS RM BC cl nM NW (X := (pc', L', st', h')) hx hb hml hown hts hK hNW hAz hcs hok hokW.2 hscr ?_ hc eex hA (fun H2 locs2 ls2 hA2 => ?_)
          · intro k2 M2 As v2 h2 sz hk2 hM2 hc2
            simp only [mm_cal, hM2] at hc2
            split at hc2
            · rename_i eble
              exact hcall n (Nat.lt_succ_self n) k2 M2 As h v2 h2 sz hk2 hM2 (Nat.le_of_ble_eq_true eble) hc2
            · cases hc2
          · exact ih (fun n' hn' => hcall n' (Nat.lt_succ_of_lt hn')) hx hb hml hown hts hK hNW hAz hcs hM hokW hscr hret pc' L' st' h' H2 locs2 ls2 hrun hA2
        · cases hrun
    · cases hrun
theorem mm_lay_sl (ρ : Nat → Nat) (b : Nat) : ∀ (As : List Value), (lg_sl (As.map (mm_cv ρ b))).length = (mm_lay As).length
  | [] => rfl
  | v :: t => by
    have ih := mm_lay_sl ρ b t
    simp only [lg_sl, List.map_cons, List.flatMap_cons, List.length_append, mm_lay] at ih ⊢
    rw [mm_cv_cat]
    by_cases hv : v.category = 2
    · rw [hv]
      simp [Nat.beq, ih]
      omega
    · have : Nat.beq v.category 2 = false := by
        cases hq : Nat.beq v.category 2 with
        | false => rfl
        | true => exact absurd (Nat.eq_of_beq_eq_true hq) hv
      rw [this, if_neg hv]
      simp [ih]
      omega
theorem mm_lay_get (ρ : Nat → Nat) (b : Nat) : ∀ (As : List Value) (o i : Nat) (v : Value), (mm_lay As)[i]? = some (some v) → (o + i, mm_cv ρ b v) ∈ lv_args o (As.map (mm_cv ρ b))
  | [], o, i, v, h => by simp [mm_lay] at h
  | w :: t, o, i, v, h => by
    simp only [mm_lay] at h
    simp only [List.map_cons, lv_args, mm_cv_cat]
    by_cases hv : w.category = 2
    · rw [hv] at h
      rw [if_pos hv]
      match i, h with
      | 0, h =>
        have : w = v := by simpa [Nat.beq] using h
        subst this
        exact List.mem_cons_self
      | 1, h => simp [Nat.beq] at h
      | i + 2, h =>
        refine List.mem_cons_of_mem _ ?_
        have h2 : (mm_lay t)[i]? = some (some v) := by simpa [Nat.beq] using h
        have z := mm_lay_get ρ b t (o + 2) i v h2
        rwa [show o + 2 + i = o + (i + 2) by omega] at z
    · have hq : Nat.beq w.category 2 = false := by
        cases hq : Nat.beq w.category 2 with
        | false => rfl
        | true => exact absurd (Nat.eq_of_beq_eq_true hq) hv
      rw [hq] at h
      rw [if_neg hv]
      match i, h with
      | 0, h =>
        have : w = v := by simpa using h
        subst this
        exact List.mem_cons_self
      | i + 1, h =>
        refine List.mem_cons_of_mem _ ?_
        have h2 : (mm_lay t)[i]? = some (some v) := by simpa using h
        have z := mm_lay_get ρ b t (o + 1) i v h2
        rwa [show o + 1 + i = o + (i + 1) by omega] at z
theorem mm_pad_get : ∀ (L : mm_L) (n i : Nat) (v : Value), (mm_pad L n)[i]? = some (some v) → L[i]? = some (some v)
  | [], 0, i, v, h => by simp [mm_pad] at h
  | [], n + 1, i, v, h => by
    simp only [mm_pad] at h
    cases i with
    | zero => simp at h
    | succ i =>
      have z := mm_pad_get [] n i v (by simpa using h)
      simp at z
  | x :: l, 0, i, v, h => h
  | x :: l, n + 1, i, v, h => by
    simp only [mm_pad] at h
    cases i with
    | zero => simpa using h
    | succ i =>
      have z := mm_pad_get l n i v (by simpa using h)
      simpa using z
theorem mm_pad_len : ∀ (L : mm_L) (n : Nat), L.length ≤ n → (mm_pad L n).length = n
  | [], 0, _ => rfl
  | [], n + 1, _ => by
    simp only [mm_pad, List.length_cons]
    rw [mm_pad_len [] n (Nat.zero_le n)]
  | x :: l, 0, h => by simp at h
  | x :: l, n + 1, h => by
    simp only [mm_pad, List.length_cons]
    rw [mm_pad_len l n (by simpa using h)]
/-- A RUN IS A CONTRACT -/
theorem mm_Met (l : Launch) {D : va_G} {ρ : Nat → Nat} {κ : Nat → ClassId} {b : Nat} (hok : ∀ (k : Nat) (M : mm_M), k < nM → mm_nth G k = some M → mm_ok G Y WS RM BC cl nM NW k M) :
    ∀ (n : Nat) (k : Nat) (M : mm_M) (As : List Value) (h : mm_H) (v : Option Value) (h1 : mm_H) (sz : Nat), k < nM → mm_nth G k = some M → (mm_lay As).length ≤ M.2.2.1 → mm_run G n none k 0 (mm_pad (mm_lay As) M.2.2.1) [] h = some (v, h1) → Met l (Y k) (WS k) (RM k) (va_Pc (As.map (mm_cv ρ b)) (mm_Pre NW D cl ρ κ b h sz)) (mm_Post D cl ρ κ b h v h1 sz) 0 0 (va_A (mm_rep ρ κ b h) sz) := by
  intro n
  induction n using Nat.strongRecOn with
  | _ n IH =>
    intro k M As h v h1 sz hk hM hlay hrun
    obtain ⟨⟨ws', hws⟩, hpl, hz1, hz2, hokW⟩ := hok k M hk hM
    refine Met.ofW (cc := BC k) (maxL := M.2.2.1) (ret := M.2.2.2) hpl hws ?_
    intro p e s m args below meth c s₁ B hml hv
    obtain ⟨rfl, hsz, hP, hK, hNW, hT, hD0⟩ := hv
    subst hsz
    have hx := B.exec
    have hb := B.bytes
    have hr := B.returns
    have hts := atoms_spec (ws := WS k) B.pre
    have hown : s.vm.findClass (Y k).cls = some m.cls := findClass_of_methodNamed B.named
    have hlocks := B.notSynchronized
    have hl := lv_entry (As.map (mm_cv ρ b)) (n := M.2.2.1) (by rw [mm_lay_sl]; exact hlay)
    rw [lg_entry_eq]
    generalize (lg_sl (As.map (mm_cv ρ b)) ++ List.replicate (M.2.2.1 - (lg_sl (As.map (mm_cv ρ b))).length) Slot.unset).toArray = ls at hl ⊢
    have hloc : mm_loc ρ b M.2.2.1 ls (mm_pad (mm_lay As) M.2.2.1) := ⟨hl.1, mm_pad_len _ _ hlay, hl.2.1, fun i w hi => by
      have z := hl.2.2 _ (mm_lay_get ρ b As 0 i w (mm_pad_get _ _ _ _ hi))
      simpa using z⟩
    refine mm_W G Y WS RM BC cl nM NW l hok n IH (scr := none) (A := va_A (mm_rep ρ κ b h) s.heap.size) hx hb hml hown hts hK hNW (fun q hq => Or.inr hq) ⟨Nat.zero_le _, Nat.zero_le _⟩ hM hokW (fun n f hf => by cases hf) ?_ 0 _ [] h s.heap [] ls hrun ⟨hP, hD0.self, hT, va_S.rf, hloc⟩
    intro pc nx tg ins st L H locs ls hc hret hA
    obtain ⟨hd, -, -⟩ := mm_chk_sp hc
    obtain ⟨hP1, hD1, hT1, hS1, hl1⟩ := hA
    unfold mm_ret at hret
    split at hret
    · split at hret
      · rename_i x er
        cases hret
        exact W.iret (v := x) hx hb (by rw [hr, er]) (fun t ht hW => ⟨rfl, by rw [ht]; exact hP1, mm_ty_moved hW.alike hT1, hD1, hS1.F ht⟩) hS1.2.2 hd
      · rename_i x er
        split at hret
        · rename_i hz
          cases hret
          exact W.zret (v := x) (ty := .boolean) hx hb (by rw [hr, er]) (by rw [mm_narz, hz]) (fun t ht hW => ⟨rfl, by rw [ht]; exact hP1, mm_ty_moved hW.alike hT1, hD1, hS1.F ht⟩) hS1.2.2 hd
        · cases hret
      · cases hret
    · split at hret
      · rename_i C x er
        cases hret
        exact W.aret (v := .ref (ρ x)) (rt := .object C) hx hb (by rw [hr, er]) (Or.inl ⟨_, rfl⟩) (Or.inr ⟨_, rfl⟩) (fun t ht hW => ⟨rfl, by rw [ht]; exact hP1, mm_ty_moved hW.alike hT1, hD1, hS1.F ht⟩) hS1.2.2 hd
      · rename_i C er
        cases hret
        exact W.aret (v := .null) (rt := .object C) hx hb (by rw [hr, er]) (Or.inl ⟨_, rfl⟩) (Or.inl rfl) (fun t ht hW => ⟨rfl, by rw [ht]; exact hP1, mm_ty_moved hW.alike hT1, hD1, hS1.F ht⟩) hS1.2.2 hd
      · cases hret
    · split at hret
      · rename_i x er
        cases hret
        exact W.lret (v := x) hx hb (by rw [hr, er]) (fun t ht hW => ⟨rfl, by rw [ht]; exact hP1, mm_ty_moved hW.alike hT1, hD1, hS1.F ht⟩) hS1.2.2 hd
      · cases hret
    · split at hret
      · rename_i er
        cases hret
        exact W.vret hx hb (by rw [hr, er]) (fun t ht hW => ⟨rfl, by rw [ht]; exact hP1, mm_ty_moved hW.alike hT1, hD1, hS1.F ht⟩) hS1.2.2 hd
      · cases hret
    · cases hret
end MMT
