/-! STEPS OF A RUN, goal first -/
section MMS
variable {G : List mm_M} {scr : mm_X} {k pc nx i a n : Nat} {M : mm_M} {L : mm_L} {st r : List Value} {h h1 : mm_H} {res : Option Value × mm_H} {tg : List Nat}
theorem mm_E.s {x : mm_I} {pc' : Nat} {L' : mm_L} {st' : List Value} {h' : mm_H} (hM : mm_nth G k = some M) (hI : mm_nth M.1 pc = some (some x)) (hr : mm_ret M.2.2.2 x.1 st = none) (hx : ∀ call, mm_ex call scr M.2.1 x.1 x.2.1 x.2.2 L st h = some (pc', L', st', h')) (he : mm_E G scr k pc' L' st' h' res) : mm_E G scr k pc L st h res := by
  obtain ⟨n, hn⟩ := he
  refine ⟨n + 1, ?_⟩
  rw [mm_run]
  simp only [hM, hI, hr, hx]
  exact hn
theorem mm_E.gf {ci j : Nat} {ty : Option FieldType} {fs : List Value} {v : Value} (hM : mm_nth G k = some M) (hI : mm_nth M.1 pc = some (some (.getfield i, nx, tg))) (hp : mm_look M.2.1 i = some (.inl (ci, j, ty))) (hc : mm_nth h a = some (.inr (ci, fs))) (hf : mm_nth fs j = some v) (he : mm_E G scr k nx L (v :: r) h res) : mm_E G scr k pc L (.ref a :: r) h res := by
  refine mm_E.s hM hI rfl (fun call => ?_) he
  simp only [mm_ex, hp, mm_gfd, hc, Nat.beq_refl, hf, mm_go]
theorem mm_E.pfi {ci j : Nat} {fs fs' : List Value} {x : Int32} (hM : mm_nth G k = some M) (hI : mm_nth M.1 pc = some (some (.putfield i, nx, tg))) (hp : mm_look M.2.1 i = some (.inl (ci, j, some .int))) (hc : mm_nth h a = some (.inr (ci, fs))) (hf : mm_put fs j (.int x) = some fs') (hh : mm_put h a (.inr (ci, fs')) = some h1) (he : mm_E G scr k nx L r h1 res) : mm_E G scr k pc L (.int x :: .ref a :: r) h res := by
  refine mm_E.s hM hI rfl (fun call => ?_) he
  simp only [mm_ex, hp, mm_pfd, mm_pfd1, hc, Nat.beq_refl, hf, mm_goH, hh, mm_go]
theorem mm_E.pfl {ci j : Nat} {fs fs' : List Value} {x : Int64} (hM : mm_nth G k = some M) (hI : mm_nth M.1 pc = some (some (.putfield i, nx, tg))) (hp : mm_look M.2.1 i = some (.inl (ci, j, some .long))) (hc : mm_nth h a = some (.inr (ci, fs))) (hf : mm_put fs j (.long x) = some fs') (hh : mm_put h a (.inr (ci, fs')) = some h1) (he : mm_E G scr k nx L r h1 res) : mm_E G scr k pc L (.long x :: .ref a :: r) h res := by
  refine mm_E.s hM hI rfl (fun call => ?_) he
  simp only [mm_ex, hp, mm_pfd, mm_pfd1, hc, Nat.beq_refl, hf, mm_goH, hh, mm_go]
theorem mm_E.ia {f : Nat → Int32} {j : Int32} {v : Int32} (hM : mm_nth G k = some M) (hI : mm_nth M.1 pc = some (some (.iaload, nx, tg))) (hc : mm_nth h a = some (.inl (.int, n, .inl f))) (hj : 0 ≤ j.toInt ∧ j.toInt < (n : Int)) (hv : f j.toNatClampNeg = v) (he : mm_E G scr k nx L (.int v :: r) h res) : mm_E G scr k pc L (.int j :: .ref a :: r) h res := by
  subst hv
  refine mm_E.s hM hI rfl (fun call => ?_) he
  simp only [mm_ex, mm_iald, hc, if_pos hj, mm_go]
theorem mm_E.xa {f : Nat → Int32} {j : Int32} {v : Int32} {b : Nat} (hM : mm_nth G k = some M) (hI : mm_nth M.1 pc = some (some (.iaload, nx, tg))) (hj : 0 ≤ j.toInt ∧ j.toInt < (n : Int)) (hv : f j.toNatClampNeg = v) (he : mm_E G (some (n, f)) k nx L (.int v :: r) h res) : mm_E G (some (n, f)) k pc L (.int j :: .retAddr b :: r) h res := by
  subst hv
  refine mm_E.s hM hI rfl (fun call => ?_) he
  simp only [mm_ex, mm_iald, if_pos hj, mm_go]
theorem mm_E.la {f : Nat → Int64} {j : Int32} {v : Int64} (hM : mm_nth G k = some M) (hI : mm_nth M.1 pc = some (some (.laload, nx, tg))) (hc : mm_nth h a = some (.inl (.long, n, .inr (.inl f)))) (hj : 0 ≤ j.toInt ∧ j.toInt < (n : Int)) (hv : f j.toNatClampNeg = v) (he : mm_E G scr k nx L (.long v :: r) h res) : mm_E G scr k pc L (.int j :: .ref a :: r) h res := by
  subst hv
  refine mm_E.s hM hI rfl (fun call => ?_) he
  simp only [mm_ex, mm_lald, hc, if_pos hj, mm_go]
theorem mm_E.za {f : Nat → Int32} {j : Int32} {v : Int32} (hM : mm_nth G k = some M) (hI : mm_nth M.1 pc = some (some (.baload, nx, tg))) (hc : mm_nth h a = some (.inl (.boolean, n, .inl f))) (hj : 0 ≤ j.toInt ∧ j.toInt < (n : Int)) (hv : f j.toNatClampNeg = v) (he : mm_E G scr k nx L (.int v :: r) h res) : mm_E G scr k pc L (.int j :: .ref a :: r) h res := by
  subst hv
  refine mm_E.s hM hI rfl (fun call => ?_) he
  simp only [mm_ex, mm_zald, hc, if_pos hj, mm_go]
theorem mm_E.is {f : Nat → Int32} {j x : Int32} (hM : mm_nth G k = some M) (hI : mm_nth M.1 pc = some (some (.iastore, nx, tg))) (hc : mm_nth h a = some (.inl (.int, n, .inl f))) (hj : 0 ≤ j.toInt ∧ j.toInt < (n : Int)) (hh : mm_put h a (.inl (.int, n, .inl (upd f j.toNatClampNeg x))) = some h1) (he : mm_E G scr k nx L r h1 res) : mm_E G scr k pc L (.int x :: .int j :: .ref a :: r) h res := by
  refine mm_E.s hM hI rfl (fun call => ?_) he
  simp only [mm_ex, mm_iast, hc, if_pos hj, mm_goH, hh, mm_go]
theorem mm_E.ls {f : Nat → Int64} {j : Int32} {x : Int64} (hM : mm_nth G k = some M) (hI : mm_nth M.1 pc = some (some (.lastore, nx, tg))) (hc : mm_nth h a = some (.inl (.long, n, .inr (.inl f)))) (hj : 0 ≤ j.toInt ∧ j.toInt < (n : Int)) (hh : mm_put h a (.inl (.long, n, .inr (.inl (vp_updL f j.toNatClampNeg x)))) = some h1) (he : mm_E G scr k nx L r h1 res) : mm_E G scr k pc L (.long x :: .int j :: .ref a :: r) h res := by
  refine mm_E.s hM hI rfl (fun call => ?_) he
  simp only [mm_ex, mm_last, hc, if_pos hj, mm_goH, hh, mm_go]
theorem mm_E.zs {f : Nat → Int32} {j x : Int32} (hM : mm_nth G k = some M) (hI : mm_nth M.1 pc = some (some (.bastore, nx, tg))) (hc : mm_nth h a = some (.inl (.boolean, n, .inl f))) (hj : 0 ≤ j.toInt ∧ j.toInt < (n : Int)) (hh : mm_put h a (.inl (.boolean, n, .inl (upd f j.toNatClampNeg (vp_nar .boolean x)))) = some h1) (he : mm_E G scr k nx L r h1 res) : mm_E G scr k pc L (.int x :: .int j :: .ref a :: r) h res := by
  refine mm_E.s hM hI rfl (fun call => ?_) he
  simp only [mm_ex, mm_zast, hc, if_pos hj, mm_goH, hh, mm_go]
theorem mm_E.al {ty : FieldType} {y : (Nat → Int32) ⊕ (Nat → Int64) ⊕ (Nat → UInt32) ⊕ (Nat → UInt64) ⊕ (Nat → Option Nat)} (hM : mm_nth G k = some M) (hI : mm_nth M.1 pc = some (some (.arraylength, nx, tg))) (hc : mm_nth h a = some (.inl (ty, n, y))) (he : mm_E G scr k nx L (.int (nI n) :: r) h res) : mm_E G scr k pc L (.ref a :: r) h res := by
  refine mm_E.s hM hI rfl (fun call => ?_) he
  simp only [mm_ex, mm_len, hc, mm_go, nI]
theorem mm_E.iv {j np ci b : Nat} {fs As : List Value} {v : Option Value} (hM : mm_nth G k = some M) (hI : mm_nth M.1 pc = some (some (.invokevirtual i, nx, tg))) (hp : mm_look M.2.1 i = some (.inr (.inr (.inl (j, np, some ci))))) (ht : mm_take np [] st = some (As, .ref b :: r)) (hc : mm_nth h b = some (.inr (ci, fs))) (h8 : Nat.ble (mm_cat r) 8 = true) (hE : mm_EC G j (.ref b :: As) h (v, h1)) (he : mm_E G scr k nx L (v.toList ++ r) h1 res) : mm_E G scr k pc L st h res := by
  refine mm_E.call (x := (.invokevirtual i, nx, tg)) (j := j) (As := .ref b :: As) (v := v) (h1 := h1) hM hI rfl (fun call hcall => ?_) hE he
  simp only [mm_ex, hp, mm_ivv, ht, mm_cv1, hc, Nat.beq_refl, h8, hcall]
  cases v <;> rfl
theorem mm_E.ic {j np : Nat} {As : List Value} {v : Option Value} (hM : mm_nth G k = some M) (hI : mm_nth M.1 pc = some (some (.invokestatic i, nx, tg))) (hp : mm_look M.2.1 i = some (.inr (.inr (.inl (j, np, none))))) (ht : mm_take np [] st = some (As, r)) (h8 : Nat.ble (mm_cat r) 8 = true) (hE : mm_EC G j As h (v, h1)) (he : mm_E G scr k nx L (v.toList ++ r) h1 res) : mm_E G scr k pc L st h res := by
  refine mm_E.call (x := (.invokestatic i, nx, tg)) (j := j) (As := As) (v := v) (h1 := h1) hM hI rfl (fun call hcall => ?_) hE he
  simp only [mm_ex, hp, mm_ivs, ht, mm_cs1, h8, hcall]
  cases v <;> rfl
end MMS
theorem mm_bd {j n : Nat} (h : j < n) (hn : n < 2 ^ 31) : 0 ≤ (nI j).toInt ∧ (nI j).toInt < (n : Int) := by
  rw [nI_toInt (by omega)]
  omega
theorem mm_put_some {α : Type} : ∀ (l : List α) (i : Nat) (v : α), i < l.length → mm_put l i v = some (l.set i v)
  | [], i, v, h => by simp at h
  | x :: l, 0, v, h => by simp [mm_put]
  | x :: l, i + 1, v, h => by
    simp only [mm_put]
    rw [mm_put_some l i v (by simpa using h)]
    simp
theorem mm_nth_lt {α : Type} {l : List α} {i : Nat} {x : α} (h : mm_nth l i = some x) : i < l.length := by
  rw [mm_nth_eq] at h
  exact (List.getElem?_eq_some_iff.mp h).1
theorem mm_nth_set {α : Type} {l : List α} {i : Nat} {v : α} (h : i < l.length) : mm_nth (l.set i v) i = some v := by
  rw [mm_nth_eq]
  simp [h]
theorem mm_nth_set_ne {α : Type} {l : List α} {i j : Nat} {v : α} (h : i ≠ j) : mm_nth (l.set i v) j = mm_nth l j := by
  rw [mm_nth_eq, mm_nth_eq, List.getElem?_set, if_neg h]
theorem mm_cl {j : Nat} (h : j < 2 ^ 31) : (nI j).toNatClampNeg = j := nI_clamp h
