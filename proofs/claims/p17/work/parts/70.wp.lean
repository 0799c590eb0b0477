/-! RUNS THAT END WELL: what comes out is only known by a property -/
def mm_T (G : List mm_M) (scr : mm_X) (k pc : Nat) (L : mm_L) (st : List Value) (h : mm_H) (Q : Option Value → mm_H → Prop) : Prop := ∃ v h', mm_E G scr k pc L st h (v, h') ∧ Q v h'
def mm_TC (G : List mm_M) (k : Nat) (As : List Value) (h : mm_H) (Q : Option Value → mm_H → Prop) : Prop := ∃ v h', mm_EC G k As h (v, h') ∧ Q v h'
/-- a branch as a property -/
def mm_bp (c : Jvm.ClassFile.Cond) (x y : Int32) : Prop := match c with
  | .eq => x = y
  | .ne => ¬ x = y
  | .lt => x < y
  | .ge => y ≤ x
  | .gt => y < x
  | .le => x ≤ y
theorem mm_br_t {α : Type} {c : Jvm.ClassFile.Cond} {x y : Int32} {a b : α} (h : mm_bp c x y) : mm_br c x y a b = a := by
  cases c <;> simp only [mm_bp] at h <;> simp only [mm_br, h] <;> rfl
theorem mm_br_f {α : Type} {c : Jvm.ClassFile.Cond} {x y : Int32} {a b : α} (h : ¬ mm_bp c x y) : mm_br c x y a b = b := by
  cases c <;> simp only [mm_bp, Classical.not_not] at h <;> simp only [mm_br, h] <;> rfl
section MMT
variable {G : List mm_M} {scr : mm_X} {k pc nx i a n : Nat} {M : mm_M} {L : mm_L} {st r : List Value} {h h1 : mm_H} {Q : Option Value → mm_H → Prop} {tg : List Nat}
theorem mm_TC.of {As : List Value} (hM : mm_nth G k = some M) (hb : Nat.ble (mm_lay As).length M.2.2.1 = true) (hT : mm_T G none k 0 (mm_pad (mm_lay As) M.2.2.1) [] h Q) : mm_TC G k As h Q := by
  obtain ⟨v, h', e, q⟩ := hT
  exact ⟨v, h', ⟨M, hM, hb, e⟩, q⟩
theorem mm_TC.mono {As : List Value} {Q' : Option Value → mm_H → Prop} (hT : mm_TC G k As h Q') (hq : ∀ v h', Q' v h' → Q v h') : mm_TC G k As h Q := by
  obtain ⟨v, h', e, q⟩ := hT
  exact ⟨v, h', e, hq _ _ q⟩
theorem mm_EC.T {As : List Value} {v : Option Value} (hE : mm_EC G k As h (v, h1)) (q : Q v h1) : mm_TC G k As h Q := ⟨v, h1, hE, q⟩
theorem mm_T.s {x : mm_I} {pc' : Nat} {L' : mm_L} {st' : List Value} {h' : mm_H} (hM : mm_nth G k = some M) (hI : mm_nth M.1 pc = some (some x)) (hr : mm_ret M.2.2.2 x.1 st = none) (hx : ∀ call, mm_ex call scr M.2.1 x.1 x.2.1 x.2.2 L st h = some (pc', L', st', h')) (he : mm_T G scr k pc' L' st' h' Q) : mm_T G scr k pc L st h Q := by
  obtain ⟨v, g, e, q⟩ := he
  exact ⟨v, g, mm_E.s hM hI hr hx e, q⟩
theorem mm_T.gf {ci j : Nat} {ty : Option FieldType} {fs : List Value} {v : Value} (hM : mm_nth G k = some M) (hI : mm_nth M.1 pc = some (some (.getfield i, nx, tg))) (hp : mm_look M.2.1 i = some (.inl (ci, j, ty))) (hc : mm_nth h a = some (.inr (ci, fs))) (hf : mm_nth fs j = some v) (he : mm_T G scr k nx L (v :: r) h Q) : mm_T G scr k pc L (.ref a :: r) h Q := by
  obtain ⟨w, g, e, q⟩ := he
  exact ⟨w, g, mm_E.gf hM hI hp hc hf e, q⟩
theorem mm_T.pfi {ci j : Nat} {fs fs' : List Value} {x : Int32} (hM : mm_nth G k = some M) (hI : mm_nth M.1 pc = some (some (.putfield i, nx, tg))) (hp : mm_look M.2.1 i = some (.inl (ci, j, some .int))) (hc : mm_nth h a = some (.inr (ci, fs))) (hf : mm_put fs j (.int x) = some fs') (hh : mm_put h a (.inr (ci, fs')) = some h1) (he : mm_T G scr k nx L r h1 Q) : mm_T G scr k pc L (.int x :: .ref a :: r) h Q := by
  obtain ⟨w, g, e, q⟩ := he
  exact ⟨w, g, mm_E.pfi hM hI hp hc hf hh e, q⟩
theorem mm_T.pfl {ci j : Nat} {fs fs' : List Value} {x : Int64} (hM : mm_nth G k = some M) (hI : mm_nth M.1 pc = some (some (.putfield i, nx, tg))) (hp : mm_look M.2.1 i = some (.inl (ci, j, some .long))) (hc : mm_nth h a = some (.inr (ci, fs))) (hf : mm_put fs j (.long x) = some fs') (hh : mm_put h a (.inr (ci, fs')) = some h1) (he : mm_T G scr k nx L r h1 Q) : mm_T G scr k pc L (.long x :: .ref a :: r) h Q := by
  obtain ⟨w, g, e, q⟩ := he
  exact ⟨w, g, mm_E.pfl hM hI hp hc hf hh e, q⟩
theorem mm_T.ia {f : Nat → Int32} {j : Int32} {v : Int32} (hM : mm_nth G k = some M) (hI : mm_nth M.1 pc = some (some (.iaload, nx, tg))) (hc : mm_nth h a = some (.inl (.int, n, .inl f))) (hj : 0 ≤ j.toInt ∧ j.toInt < (n : Int)) (hv : f j.toNatClampNeg = v) (he : mm_T G scr k nx L (.int v :: r) h Q) : mm_T G scr k pc L (.int j :: .ref a :: r) h Q := by
  obtain ⟨w, g, e, q⟩ := he
  exact ⟨w, g, mm_E.ia hM hI hc hj hv e, q⟩
theorem mm_T.xa {f : Nat → Int32} {j : Int32} {v : Int32} {b : Nat} (hM : mm_nth G k = some M) (hI : mm_nth M.1 pc = some (some (.iaload, nx, tg))) (hj : 0 ≤ j.toInt ∧ j.toInt < (n : Int)) (hv : f j.toNatClampNeg = v) (he : mm_T G (some (n, f)) k nx L (.int v :: r) h Q) : mm_T G (some (n, f)) k pc L (.int j :: .retAddr b :: r) h Q := by
  obtain ⟨w, g, e, q⟩ := he
  exact ⟨w, g, mm_E.xa hM hI hj hv e, q⟩
theorem mm_T.la {f : Nat → Int64} {j : Int32} {v : Int64} (hM : mm_nth G k = some M) (hI : mm_nth M.1 pc = some (some (.laload, nx, tg))) (hc : mm_nth h a = some (.inl (.long, n, .inr (.inl f)))) (hj : 0 ≤ j.toInt ∧ j.toInt < (n : Int)) (hv : f j.toNatClampNeg = v) (he : mm_T G scr k nx L (.long v :: r) h Q) : mm_T G scr k pc L (.int j :: .ref a :: r) h Q := by
  obtain ⟨w, g, e, q⟩ := he
  exact ⟨w, g, mm_E.la hM hI hc hj hv e, q⟩
theorem mm_T.za {f : Nat → Int32} {j : Int32} {v : Int32} (hM : mm_nth G k = some M) (hI : mm_nth M.1 pc = some (some (.baload, nx, tg))) (hc : mm_nth h a = some (.inl (.boolean, n, .inl f))) (hj : 0 ≤ j.toInt ∧ j.toInt < (n : Int)) (hv : f j.toNatClampNeg = v) (he : mm_T G scr k nx L (.int v :: r) h Q) : mm_T G scr k pc L (.int j :: .ref a :: r) h Q := by
  obtain ⟨w, g, e, q⟩ := he
  exact ⟨w, g, mm_E.za hM hI hc hj hv e, q⟩
theorem mm_T.is {f : Nat → Int32} {j x : Int32} (hM : mm_nth G k = some M) (hI : mm_nth M.1 pc = some (some (.iastore, nx, tg))) (hc : mm_nth h a = some (.inl (.int, n, .inl f))) (hj : 0 ≤ j.toInt ∧ j.toInt < (n : Int)) (hh : mm_put h a (.inl (.int, n, .inl (upd f j.toNatClampNeg x))) = some h1) (he : mm_T G scr k nx L r h1 Q) : mm_T G scr k pc L (.int x :: .int j :: .ref a :: r) h Q := by
  obtain ⟨w, g, e, q⟩ := he
  exact ⟨w, g, mm_E.is hM hI hc hj hh e, q⟩
theorem mm_T.ls {f : Nat → Int64} {j : Int32} {x : Int64} (hM : mm_nth G k = some M) (hI : mm_nth M.1 pc = some (some (.lastore, nx, tg))) (hc : mm_nth h a = some (.inl (.long, n, .inr (.inl f)))) (hj : 0 ≤ j.toInt ∧ j.toInt < (n : Int)) (hh : mm_put h a (.inl (.long, n, .inr (.inl (vp_updL f j.toNatClampNeg x)))) = some h1) (he : mm_T G scr k nx L r h1 Q) : mm_T G scr k pc L (.long x :: .int j :: .ref a :: r) h Q := by
  obtain ⟨w, g, e, q⟩ := he
  exact ⟨w, g, mm_E.ls hM hI hc hj hh e, q⟩
theorem mm_T.zs {f : Nat → Int32} {j x : Int32} (hM : mm_nth G k = some M) (hI : mm_nth M.1 pc = some (some (.bastore, nx, tg))) (hc : mm_nth h a = some (.inl (.boolean, n, .inl f))) (hj : 0 ≤ j.toInt ∧ j.toInt < (n : Int)) (hh : mm_put h a (.inl (.boolean, n, .inl (upd f j.toNatClampNeg (vp_nar .boolean x)))) = some h1) (he : mm_T G scr k nx L r h1 Q) : mm_T G scr k pc L (.int x :: .int j :: .ref a :: r) h Q := by
  obtain ⟨w, g, e, q⟩ := he
  exact ⟨w, g, mm_E.zs hM hI hc hj hh e, q⟩
theorem mm_T.iv {j np ci b : Nat} {fs As : List Value} {v : Option Value} (hM : mm_nth G k = some M) (hI : mm_nth M.1 pc = some (some (.invokevirtual i, nx, tg))) (hp : mm_look M.2.1 i = some (.inr (.inr (.inl (j, np, some ci))))) (ht : mm_take np [] st = some (As, .ref b :: r)) (hc : mm_nth h b = some (.inr (ci, fs))) (h8 : Nat.ble (mm_cat r) 8 = true) (hE : mm_EC G j (.ref b :: As) h (v, h1)) (he : mm_T G scr k nx L (v.toList ++ r) h1 Q) : mm_T G scr k pc L st h Q := by
  obtain ⟨w, g, e, q⟩ := he
  exact ⟨w, g, mm_E.iv hM hI hp ht hc h8 hE e, q⟩
theorem mm_T.ic {j np : Nat} {As : List Value} {v : Option Value} (hM : mm_nth G k = some M) (hI : mm_nth M.1 pc = some (some (.invokestatic i, nx, tg))) (hp : mm_look M.2.1 i = some (.inr (.inr (.inl (j, np, none))))) (ht : mm_take np [] st = some (As, r)) (h8 : Nat.ble (mm_cat r) 8 = true) (hE : mm_EC G j As h (v, h1)) (he : mm_T G scr k nx L (v.toList ++ r) h1 Q) : mm_T G scr k pc L st h Q := by
  obtain ⟨w, g, e, q⟩ := he
  exact ⟨w, g, mm_E.ic hM hI hp ht h8 hE e, q⟩
theorem mm_T.ivw {j np ci b : Nat} {fs As : List Value} {Q1 : Option Value → mm_H → Prop} (hM : mm_nth G k = some M) (hI : mm_nth M.1 pc = some (some (.invokevirtual i, nx, tg))) (hp : mm_look M.2.1 i = some (.inr (.inr (.inl (j, np, some ci))))) (ht : mm_take np [] st = some (As, .ref b :: r)) (hc : mm_nth h b = some (.inr (ci, fs))) (h8 : Nat.ble (mm_cat r) 8 = true) (hE : mm_TC G j (.ref b :: As) h Q1) (he : ∀ v h1, Q1 v h1 → mm_T G scr k nx L (v.toList ++ r) h1 Q) : mm_T G scr k pc L st h Q := by
  obtain ⟨v1, h1, e1, q1⟩ := hE
  exact mm_T.iv hM hI hp ht hc h8 e1 (he _ _ q1)
theorem mm_T.icw {j np : Nat} {As : List Value} {Q1 : Option Value → mm_H → Prop} (hM : mm_nth G k = some M) (hI : mm_nth M.1 pc = some (some (.invokestatic i, nx, tg))) (hp : mm_look M.2.1 i = some (.inr (.inr (.inl (j, np, none))))) (ht : mm_take np [] st = some (As, r)) (h8 : Nat.ble (mm_cat r) 8 = true) (hE : mm_TC G j As h Q1) (he : ∀ v h1, Q1 v h1 → mm_T G scr k nx L (v.toList ++ r) h1 Q) : mm_T G scr k pc L st h Q := by
  obtain ⟨v1, h1, e1, q1⟩ := hE
  exact mm_T.ic hM hI hp ht h8 e1 (he _ _ q1)
theorem mm_T.ret {x : mm_I} {v : Option Value} (hM : mm_nth G k = some M) (hI : mm_nth M.1 pc = some (some x)) (hr : mm_ret M.2.2.2 x.1 st = some v) (hq : Q v h) : mm_T G scr k pc L st h Q := ⟨v, h, mm_E.ret hM hI hr, hq⟩
theorem mm_T.ci {c : Jvm.ClassFile.Cond} {o : Int} {x y : Int32} {t : Nat} (hM : mm_nth G k = some M) (hI : mm_nth M.1 pc = some (some (.if_icmp c o, nx, [t]))) (h1 : mm_bp c x y → mm_T G scr k t L r h Q) (h2 : ¬ mm_bp c x y → mm_T G scr k nx L r h Q) : mm_T G scr k pc L (.int y :: .int x :: r) h Q := by
  by_cases q : mm_bp c x y
  · exact mm_T.s hM hI rfl (fun _ => mm_br_t q) (h1 q)
  · exact mm_T.s hM hI rfl (fun _ => mm_br_f q) (h2 q)
theorem mm_T.cz {c : Jvm.ClassFile.Cond} {o : Int} {x : Int32} {t : Nat} (hM : mm_nth G k = some M) (hI : mm_nth M.1 pc = some (some (.ifCond c o, nx, [t]))) (h1 : mm_bp c x 0 → mm_T G scr k t L r h Q) (h2 : ¬ mm_bp c x 0 → mm_T G scr k nx L r h Q) : mm_T G scr k pc L (.int x :: r) h Q := by
  by_cases q : mm_bp c x 0
  · exact mm_T.s hM hI rfl (fun _ => mm_br_t q) (h1 q)
  · exact mm_T.s hM hI rfl (fun _ => mm_br_f q) (h2 q)
/-- a loop that counts up -/
theorem mm_T.up {n : Nat} (P : Nat → mm_L → mm_H → Prop) (hs : ∀ i L h, i < n → P i L h → (∀ L' h', P (i + 1) L' h' → mm_T G scr k pc L' [] h' Q) → mm_T G scr k pc L [] h Q) (he : ∀ L h, P n L h → mm_T G scr k pc L [] h Q) : ∀ i, i ≤ n → ∀ L h, P i L h → mm_T G scr k pc L [] h Q := by
  have : ∀ d i, i + d = n → ∀ L h, P i L h → mm_T G scr k pc L [] h Q := by
    intro d
    induction d with
    | zero => exact fun i hi L h p => he L h (by rw [← hi]; exact p)
    | succ d ih => exact fun i hi L h p => hs i L h (by omega) p (fun L' h' p' => ih (i + 1) (by omega) L' h' p')
  exact fun i hi L h p => this (n - i) i (by omega) L h p
/-- a loop with a number that falls -/
theorem mm_T.wf (P : Nat → mm_L → mm_H → Prop) (hs : ∀ m L h, P m L h → (∀ m' L' h', m' < m → P m' L' h' → mm_T G scr k pc L' [] h' Q) → mm_T G scr k pc L [] h Q) (m : Nat) : ∀ L h, P m L h → mm_T G scr k pc L [] h Q := by
  induction m using Nat.strongRecOn with
  | ind m ih => exact fun L h p => hs m L h p (fun m' L' h' hm p' => ih m' hm L' h' p')
theorem mm_T.lc {L' : mm_L} (e : L = L') (he : mm_T G scr k pc L' st h Q) : mm_T G scr k pc L st h Q := e ▸ he
end MMT
theorem x_48 {a b : Nat} (ha : a < 48) (hb : b < 48) : 0 ≤ (nI a * (Int8.ofInt 48).toInt32 + nI b).toInt ∧ (nI a * (Int8.ofInt 48).toInt32 + nI b).toInt < (2304 : Nat) := by
  rw [show ((Int8.ofInt 48).toInt32 : Int32) = nI 48 from rfl, pk_mul, nI_add]
  exact mm_bd (by omega) (by decide)
theorem x_48c {a b : Nat} (ha : a < 48) (hb : b < 48) : (nI a * (Int8.ofInt 48).toInt32 + nI b).toNatClampNeg = a * 48 + b := by
  rw [show ((Int8.ofInt 48).toInt32 : Int32) = nI 48 from rfl, pk_mul, nI_add, mm_cl (by omega)]
/-- all cells of the counter -/
abbrev kC (pl0 ke0 sz0 se0 gr0 pl1 ke1 sz1 se1 gr1 im ce wo pv fa pm pw fr ba : Nat → Int32) (rw : Nat → Int64) (ro co mo : Int32) (mi : Int64) (ki : Int32) (M : mm_H) : mm_H := ([.inr (3, [.ref 1, .ref 7, .ref 13, .ref 14, .ref 21, .ref 23, .ref 24]), .inr (0, [.ref 2, .ref 3, .ref 4, .ref 5, .ref 6]), x_it 256 pl0, x_it 256 ke0, x_it 4 sz0, x_it 96 se0, x_it 4 gr0, .inr (0, [.ref 8, .ref 9, .ref 10, .ref 11, .ref 12]), x_it 256 pl1, x_it 256 ke1, x_it 4 sz1, x_it 96 se1, x_it 4 gr1, x_it 8 im, .inr (1, [.ref 15, .ref 16, .ref 17, .ref 18, .ref 19, .ref 20, .int ro, .int co, .int mo, .long mi, .int ki]), x_it 2304 ce, x_it 2304 wo, x_it 31 pv, x_it 48 fa, x_it 10 pm, x_it 10 pw, .inr (2, [.ref 22]), x_lg 24 rw, x_it 24 fr, x_it 24 ba] ++ M : mm_H)
