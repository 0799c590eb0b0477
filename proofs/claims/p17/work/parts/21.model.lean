def x_pL (g f : Nat → Int64) (t : Nat) : Nat → Int64 := fun j => if j < t then g j else f j
theorem x_pL_s (g f : Nat → Int64) (i : Nat) : vp_updL (x_pL g f i) i (g i) = x_pL g f (i + 1) := by
  funext j
  unfold vp_updL x_pL
  by_cases h1 : j = i
  · subst h1
    simp
  · by_cases h2 : j < i
    · have h3 : j < i + 1 := by omega
      simp [h1, h2, h3]
    · have h3 : ¬ j < i + 1 := by omega
      simp [h1, h2, h3]
theorem x_pL_0 (g f : Nat → Int64) : x_pL g f 0 = f := by
  funext j
  simp [x_pL]
def x_pI (g f : Nat → Int32) (t : Nat) : Nat → Int32 := fun j => if j < t then g j else f j
theorem x_pI_s (g f : Nat → Int32) (i : Nat) : upd (x_pI g f i) i (g i) = x_pI g f (i + 1) := by
  funext j
  unfold upd x_pI
  by_cases h1 : j = i
  · subst h1
    simp
  · by_cases h2 : j < i
    · have h3 : j < i + 1 := by omega
      simp [h1, h2, h3]
    · have h3 : ¬ j < i + 1 := by omega
      simp [h1, h2, h3]
theorem x_pI_0 (g f : Nat → Int32) : x_pI g f 0 = f := by
  funext j
  simp [x_pI]
theorem x_same {α : Type} {l : List α} {i : Nat} {v : α} (h : mm_nth l i = some v) : l.set i v = l := by
  apply List.ext_getElem?
  intro j
  rw [List.getElem?_set]
  by_cases hj : i = j
  · subst hj
    rw [mm_nth_eq] at h
    rw [if_pos rfl, if_pos (List.getElem?_eq_some_iff.mp h).1, h]
  · simp [hj]
theorem mm_E.hc {G : List mm_M} {scr : mm_X} {k pc : Nat} {L : mm_L} {st : List Value} {h : mm_H} {res : Option Value × mm_H} (h' : mm_H) (e : h = h') (he : mm_E G scr k pc L st h' res) : mm_E G scr k pc L st h res := by rw [e]; exact he
abbrev x_lg (n : Nat) (f : Nat → Int64) : mm_C := .inl (.long, n, .inr (.inl f))
abbrev x_it (n : Nat) (f : Nat → Int32) : mm_C := .inl (.int, n, .inl f)
theorem x_shape {h : mm_H} {ro co di tr : Int32} {mat : Nat → Int64} (hO : mm_nth h 25 = some (x_mo ro co di tr)) (hM : mm_nth h 29 = some (x_lg 2304 mat)) (r c : Int32) : mm_EC kM 78 [.ref 25, .int r, .int c] h (none, (h.set 25 (x_mo r c di tr)).set 29 (x_lg 2304 (x_pL (fun _ => 0) mat 2304))) := by
  have l25 := mm_nth_lt hO
  have l29 := mm_nth_lt hM
  have hM1 : mm_nth (h.set 25 (x_mo r c di tr)) 29 = some (x_lg 2304 mat) := by rw [mm_nth_set_ne (by decide)]; exact hM
  refine ⟨kq_78, rfl, rfl, ?_⟩
  refine mm_E.s rfl rfl rfl (fun _ => rfl) ?_
  refine mm_E.s rfl rfl rfl (fun _ => rfl) ?_
  refine mm_E.pfi rfl rfl rfl hO rfl (mm_put_some _ _ _ l25) ?_
  refine mm_E.s rfl rfl rfl (fun _ => rfl) ?_
  refine mm_E.s rfl rfl rfl (fun _ => rfl) ?_
  refine mm_E.pfi rfl rfl rfl (mm_nth_set l25) rfl (mm_put_some _ _ _ (by simpa using l25)) ?_
  refine mm_E.hc ((h.set 25 (x_mo r c di tr)).set 29 (x_lg 2304 (x_pL (fun _ => 0) mat 0))) (by rw [List.set_set, x_pL_0, x_same hM1]; rfl) ?_
  refine mm_E.s rfl rfl rfl (fun _ => rfl) ?_
  refine mm_E.s rfl rfl rfl (fun _ => rfl) ?_
  refine mm_E.loop (fun t => [some (.ref 25), some (.int r), some (.int c), some (.int (nI t))]) (fun t => (h.set 25 (x_mo r c di tr)).set 29 (x_lg 2304 (x_pL (fun _ => 0) mat t))) 2304 ?_ ?_
  · skip
    refine mm_E.s rfl rfl rfl (fun _ => rfl) ?_
    refine mm_E.s rfl rfl rfl (fun _ => rfl) ?_
    refine mm_E.s rfl rfl rfl (fun _ => rfl) ?_
    exact mm_E.ret rfl rfl rfl
  · intro t ht ih
    have hO2 : mm_nth ((h.set 25 (x_mo r c di tr)).set 29 (x_lg 2304 (x_pL (fun _ => 0) mat t))) 25 = some (x_mo r c di tr) := by rw [mm_nth_set_ne (by decide)]; exact mm_nth_set l25
    refine mm_E.s rfl rfl rfl (fun _ => rfl) ?_
    refine mm_E.s rfl rfl rfl (fun _ => rfl) ?_
    refine mm_E.s rfl rfl rfl (fun _ => if_neg (nI_ge (a := t) (b := 2304) (by omega) (by decide))) ?_
    refine mm_E.s rfl rfl rfl (fun _ => rfl) ?_
    refine mm_E.gf rfl rfl rfl hO2 rfl ?_
    refine mm_E.s rfl rfl rfl (fun _ => rfl) ?_
    refine mm_E.s rfl rfl rfl (fun _ => rfl) ?_
    refine mm_E.ls rfl rfl (mm_nth_set (by simpa using l29)) (mm_bd (by omega) (by decide)) (mm_put_some _ _ _ (by simpa using l29)) ?_
    refine mm_E.s rfl rfl rfl (fun _ => rfl) ?_
    refine mm_E.s rfl rfl rfl (fun _ => rfl) ?_
    rw [List.set_set, mm_cl (by omega)]
    rw [← nI_1, ← x_pL_s] at ih
    exact ih

def x_rm (mat : Nat → Int64) (p : Int64) (j : Nat) : Int64 := mat j - mat j / p * p
def x_rn (mat : Nat → Int64) (p : Int64) (j : Nat) : Int64 := if 0 ≤ lg_cmp (x_rm mat p j) 0 then x_rm mat p j else x_rm mat p j + p
theorem x_rank0 {h : mm_H} {ro di tr : Int32} {mat work : Nat → Int64} (hO : mm_nth h 25 = some (x_mo ro 0 di tr)) (hM : mm_nth h 29 = some (x_lg 2304 mat)) (hW : mm_nth h 30 = some (x_lg 2304 work)) {p : Int64} (hp : ¬ p = 0) : mm_EC kM 83 [.ref 25, .long p] h (some (.int 0), h.set 30 (x_lg 2304 (x_pL (x_rn mat p) work 2304))) := by
  have l30 := mm_nth_lt hW
  refine ⟨kq_83, rfl, rfl, ?_⟩
  refine mm_E.hc (h.set 30 (x_lg 2304 (x_pL (x_rn mat p) work 0))) (by rw [x_pL_0, x_same hW]) ?_
  refine mm_E.s rfl rfl rfl (fun _ => rfl) ?_
  refine mm_E.s rfl rfl rfl (fun _ => rfl) ?_
  refine mm_E.loop (fun t => [some (.ref 25), some (.long p), none, some (.int (nI t)), (match t with
    | 0 => none
    | j + 1 => some (.long (x_rm mat p j))), none]) (fun t => h.set 30 (x_lg 2304 (x_pL (x_rn mat p) work t))) 2304 ?_ ?_
  · have hO2 : mm_nth (h.set 30 (x_lg 2304 (x_pL (x_rn mat p) work 2304))) 25 = some (x_mo ro 0 di tr) := by rw [mm_nth_set_ne (by decide)]; exact hO
    refine mm_E.s rfl rfl rfl (fun _ => rfl) ?_
    refine mm_E.s rfl rfl rfl (fun _ => rfl) ?_
    refine mm_E.s rfl rfl rfl (fun _ => rfl) ?_
    refine mm_E.s rfl rfl rfl (fun _ => rfl) ?_
    refine mm_E.s rfl rfl rfl (fun _ => rfl) ?_
    refine mm_E.s rfl rfl rfl (fun _ => rfl) ?_
    refine mm_E.s rfl rfl rfl (fun _ => rfl) ?_
    refine mm_E.s rfl rfl rfl (fun _ => rfl) ?_
    refine mm_E.s rfl rfl rfl (fun _ => rfl) ?_
    refine mm_E.gf rfl rfl rfl hO2 rfl ?_
    refine mm_E.s rfl rfl rfl (fun _ => rfl) ?_
    refine mm_E.s rfl rfl rfl (fun _ => rfl) ?_
    exact mm_E.ret rfl rfl rfl
  · intro t ht ih
    have hO2 : mm_nth (h.set 30 (x_lg 2304 (x_pL (x_rn mat p) work t))) 25 = some (x_mo ro 0 di tr) := by rw [mm_nth_set_ne (by decide)]; exact hO
    have hM2 : mm_nth (h.set 30 (x_lg 2304 (x_pL (x_rn mat p) work t))) 29 = some (x_lg 2304 mat) := by rw [mm_nth_set_ne (by decide)]; exact hM
    rw [← nI_1, ← x_pL_s] at ih
    by_cases hq : 0 ≤ lg_cmp (x_rm mat p t) 0
    · rw [show x_rn mat p t = x_rm mat p t from if_pos hq] at ih
      refine mm_E.s rfl rfl rfl (fun _ => rfl) ?_
      refine mm_E.s rfl rfl rfl (fun _ => rfl) ?_
      refine mm_E.s rfl rfl rfl (fun _ => if_neg (nI_ge (a := t) (b := 2304) (by omega) (by decide))) ?_
      refine mm_E.s rfl rfl rfl (fun _ => rfl) ?_
      refine mm_E.gf rfl rfl rfl hO2 rfl ?_
      refine mm_E.s rfl rfl rfl (fun _ => rfl) ?_
      refine mm_E.la rfl rfl hM2 (mm_bd (by omega) (by decide)) (v := mat t) (by rw [mm_cl (by omega)]) ?_
      refine mm_E.s rfl rfl rfl (fun _ => rfl) ?_
      refine mm_E.s rfl rfl rfl (fun _ => if_neg hp) ?_
      refine mm_E.s rfl rfl rfl (fun _ => rfl) ?_
      refine mm_E.s rfl rfl rfl (fun _ => rfl) ?_
      refine mm_E.gf rfl rfl rfl hO2 rfl ?_
      refine mm_E.s rfl rfl rfl (fun _ => rfl) ?_
      refine mm_E.s rfl rfl rfl (fun _ => rfl) ?_
      refine mm_E.s rfl rfl rfl (fun _ => rfl) ?_
      refine mm_E.s rfl rfl rfl (fun _ => rfl) ?_
      refine mm_E.s rfl rfl rfl (fun _ => if_pos hq) ?_
      refine mm_E.s rfl rfl rfl (fun _ => rfl) ?_
      refine mm_E.ls rfl rfl (mm_nth_set l30) (mm_bd (by omega) (by decide)) (mm_put_some _ _ _ (by simpa using l30)) ?_
      refine mm_E.s rfl rfl rfl (fun _ => rfl) ?_
      refine mm_E.s rfl rfl rfl (fun _ => rfl) ?_
      rw [List.set_set, mm_cl (by omega)]
      exact ih
    · rw [show x_rn mat p t = x_rm mat p t + p from if_neg hq] at ih
      refine mm_E.s rfl rfl rfl (fun _ => rfl) ?_
      refine mm_E.s rfl rfl rfl (fun _ => rfl) ?_
      refine mm_E.s rfl rfl rfl (fun _ => if_neg (nI_ge (a := t) (b := 2304) (by omega) (by decide))) ?_
      refine mm_E.s rfl rfl rfl (fun _ => rfl) ?_
      refine mm_E.gf rfl rfl rfl hO2 rfl ?_
      refine mm_E.s rfl rfl rfl (fun _ => rfl) ?_
      refine mm_E.la rfl rfl hM2 (mm_bd (by omega) (by decide)) (v := mat t) (by rw [mm_cl (by omega)]) ?_
      refine mm_E.s rfl rfl rfl (fun _ => rfl) ?_
      refine mm_E.s rfl rfl rfl (fun _ => if_neg hp) ?_
      refine mm_E.s rfl rfl rfl (fun _ => rfl) ?_
      refine mm_E.s rfl rfl rfl (fun _ => rfl) ?_
      refine mm_E.gf rfl rfl rfl hO2 rfl ?_
      refine mm_E.s rfl rfl rfl (fun _ => rfl) ?_
      refine mm_E.s rfl rfl rfl (fun _ => rfl) ?_
      refine mm_E.s rfl rfl rfl (fun _ => rfl) ?_
      refine mm_E.s rfl rfl rfl (fun _ => rfl) ?_
      refine mm_E.s rfl rfl rfl (fun _ => if_neg hq) ?_
      refine mm_E.s rfl rfl rfl (fun _ => rfl) ?_
      refine mm_E.s rfl rfl rfl (fun _ => rfl) ?_
      refine mm_E.s rfl rfl rfl (fun _ => rfl) ?_
      refine mm_E.s rfl rfl rfl (fun _ => rfl) ?_
      refine mm_E.ls rfl rfl (mm_nth_set l30) (mm_bd (by omega) (by decide)) (mm_put_some _ _ _ (by simpa using l30)) ?_
      refine mm_E.s rfl rfl rfl (fun _ => rfl) ?_
      refine mm_E.s rfl rfl rfl (fun _ => rfl) ?_
      rw [List.set_set, mm_cl (by omega)]
      exact ih

theorem x_diag0 {h : mm_H} {co di tr : Int32} {mat work : Nat → Int64} (hO : mm_nth h 25 = some (x_mo 0 co di tr)) (hM : mm_nth h 29 = some (x_lg 2304 mat)) (hW : mm_nth h 30 = some (x_lg 2304 work)) : mm_EC kM 94 [.ref 25] h (none, (h.set 30 (x_lg 2304 (x_pL mat work 2304))).set 25 (x_mo 0 co 0 tr)) := by
  have l30 := mm_nth_lt hW
  have l25 := mm_nth_lt hO
  refine ⟨kq_94, rfl, rfl, ?_⟩
  refine mm_E.hc (h.set 30 (x_lg 2304 (x_pL mat work 0))) (by rw [x_pL_0, x_same hW]) ?_
  refine mm_E.s rfl rfl rfl (fun _ => rfl) ?_
  refine mm_E.s rfl rfl rfl (fun _ => rfl) ?_
  refine mm_E.loop (fun t => [some (.ref 25), some (.int (nI t)), none, none, none]) (fun t => h.set 30 (x_lg 2304 (x_pL mat work t))) 2304 ?_ ?_
  · have hO2 : mm_nth (h.set 30 (x_lg 2304 (x_pL mat work 2304))) 25 = some (x_mo 0 co di tr) := by rw [mm_nth_set_ne (by decide)]; exact hO
    have hO3 : mm_nth ((h.set 30 (x_lg 2304 (x_pL mat work 2304))).set 25 (x_mo 0 co 0 tr)) 25 = some (x_mo 0 co 0 tr) := mm_nth_set (by simpa using l25)
    refine mm_E.s rfl rfl rfl (fun _ => rfl) ?_
    refine mm_E.s rfl rfl rfl (fun _ => rfl) ?_
    refine mm_E.s rfl rfl rfl (fun _ => rfl) ?_
    refine mm_E.s rfl rfl rfl (fun _ => rfl) ?_
    refine mm_E.s rfl rfl rfl (fun _ => rfl) ?_
    refine mm_E.pfi rfl rfl rfl hO2 rfl (mm_put_some _ _ _ (by simpa using l25)) ?_
    refine mm_E.s rfl rfl rfl (fun _ => rfl) ?_
    refine mm_E.gf rfl rfl rfl hO3 rfl ?_
    refine mm_E.s rfl rfl rfl (fun _ => rfl) ?_
    refine mm_E.gf rfl rfl rfl hO3 rfl ?_
    refine mm_E.s rfl rfl rfl (fun _ => rfl) ?_
    refine mm_E.s rfl rfl rfl (fun _ => rfl) ?_
    refine mm_E.s rfl rfl rfl (fun _ => rfl) ?_
    refine mm_E.s rfl rfl rfl (fun _ => rfl) ?_
    refine mm_E.s rfl rfl rfl (fun _ => rfl) ?_
    refine mm_E.gf rfl rfl rfl hO3 rfl ?_
    refine mm_E.s rfl rfl rfl (fun _ => rfl) ?_
    exact mm_E.ret rfl rfl rfl
  · intro t ht ih
    have hO2 : mm_nth (h.set 30 (x_lg 2304 (x_pL mat work t))) 25 = some (x_mo 0 co di tr) := by rw [mm_nth_set_ne (by decide)]; exact hO
    have hM2 : mm_nth (h.set 30 (x_lg 2304 (x_pL mat work t))) 29 = some (x_lg 2304 mat) := by rw [mm_nth_set_ne (by decide)]; exact hM
    rw [← nI_1, ← x_pL_s] at ih
    refine mm_E.s rfl rfl rfl (fun _ => rfl) ?_
    refine mm_E.s rfl rfl rfl (fun _ => rfl) ?_
    refine mm_E.s rfl rfl rfl (fun _ => if_neg (nI_ge (a := t) (b := 2304) (by omega) (by decide))) ?_
    refine mm_E.s rfl rfl rfl (fun _ => rfl) ?_
    refine mm_E.gf rfl rfl rfl hO2 rfl ?_
    refine mm_E.s rfl rfl rfl (fun _ => rfl) ?_
    refine mm_E.s rfl rfl rfl (fun _ => rfl) ?_
    refine mm_E.gf rfl rfl rfl hO2 rfl ?_
    refine mm_E.s rfl rfl rfl (fun _ => rfl) ?_
    refine mm_E.la rfl rfl hM2 (mm_bd (by omega) (by decide)) (v := mat t) (by rw [mm_cl (by omega)]) ?_
    refine mm_E.ls rfl rfl (mm_nth_set l30) (mm_bd (by omega) (by decide)) (mm_put_some _ _ _ (by simpa using l30)) ?_
    refine mm_E.s rfl rfl rfl (fun _ => rfl) ?_
    refine mm_E.s rfl rfl rfl (fun _ => rfl) ?_
    rw [List.set_set, mm_cl (by omega)]
    exact ih

/-- an empty model: nothing is there; its numbers -/
def x_em (h : mm_H) (ro co di : Int32) : Prop := ∃ (tr : Int32) (has kept f cc sp e1 e2 e3 : Nat → Int32) (mat work dv : Nat → Int64), mm_nth h 25 = some (x_mo ro co di tr) ∧ mm_nth h 26 = some (x_ha has) ∧ x_no has ∧ mm_nth h 27 = some (x_it 512 kept) ∧ mm_nth h 28 = some (x_it 8 f) ∧ mm_nth h 29 = some (x_lg 2304 mat) ∧ mm_nth h 30 = some (x_lg 2304 work) ∧ mm_nth h 31 = some (x_lg 48 dv) ∧ mm_nth h 32 = some (x_it 24 cc) ∧ mm_nth h 33 = some (x_it 24 sp) ∧ mm_nth h 34 = some (x_it 24 e1) ∧ mm_nth h 35 = some (x_it 24 e2) ∧ mm_nth h 36 = some (x_it 24 e3)
theorem y_shape {h : mm_H} {ro co di : Int32} (hE : x_em h ro co di) (r c : Int32) : ∃ h', mm_EC kM 78 [.ref 25, .int r, .int c] h (none, h') ∧ x_em h' r c di := by
  obtain ⟨tr, has, kept, f, cc, sp, e1, e2, e3, mat, work, dv, hO, hH, hz, h27, h28, h29, h30, h31, h32, h33, h34, h35, h36⟩ := hE
  exact ⟨_, x_shape hO h29 r c, ⟨tr, has, kept, f, cc, sp, e1, e2, e3, _, work, dv, (by rw [mm_nth_set_ne (by decide)]; exact mm_nth_set (by first | exact mm_nth_lt hO | (simp only [List.length_set]; exact mm_nth_lt hO))), (by rw [mm_nth_set_ne (by decide)]; rw [mm_nth_set_ne (by decide)]; exact hH), hz, (by rw [mm_nth_set_ne (by decide)]; rw [mm_nth_set_ne (by decide)]; exact h27), (by rw [mm_nth_set_ne (by decide)]; rw [mm_nth_set_ne (by decide)]; exact h28), (by exact mm_nth_set (by first | exact mm_nth_lt h29 | (simp only [List.length_set]; exact mm_nth_lt h29))), (by rw [mm_nth_set_ne (by decide)]; rw [mm_nth_set_ne (by decide)]; exact h30), (by rw [mm_nth_set_ne (by decide)]; rw [mm_nth_set_ne (by decide)]; exact h31), (by rw [mm_nth_set_ne (by decide)]; rw [mm_nth_set_ne (by decide)]; exact h32), (by rw [mm_nth_set_ne (by decide)]; rw [mm_nth_set_ne (by decide)]; exact h33), (by rw [mm_nth_set_ne (by decide)]; rw [mm_nth_set_ne (by decide)]; exact h34), (by rw [mm_nth_set_ne (by decide)]; rw [mm_nth_set_ne (by decide)]; exact h35), (by rw [mm_nth_set_ne (by decide)]; rw [mm_nth_set_ne (by decide)]; exact h36)⟩⟩
theorem y_rank {h : mm_H} {ro di : Int32} (hE : x_em h ro 0 di) {p : Int64} (hp : ¬ p = 0) : ∃ h', mm_EC kM 83 [.ref 25, .long p] h (some (.int 0), h') ∧ x_em h' ro 0 di := by
  obtain ⟨tr, has, kept, f, cc, sp, e1, e2, e3, mat, work, dv, hO, hH, hz, h27, h28, h29, h30, h31, h32, h33, h34, h35, h36⟩ := hE
  exact ⟨_, x_rank0 hO h29 h30 hp, ⟨tr, has, kept, f, cc, sp, e1, e2, e3, mat, _, dv, (by rw [mm_nth_set_ne (by decide)]; exact hO), (by rw [mm_nth_set_ne (by decide)]; exact hH), hz, (by rw [mm_nth_set_ne (by decide)]; exact h27), (by rw [mm_nth_set_ne (by decide)]; exact h28), (by rw [mm_nth_set_ne (by decide)]; exact h29), (by exact mm_nth_set (by first | exact mm_nth_lt h30 | (simp only [List.length_set]; exact mm_nth_lt h30))), (by rw [mm_nth_set_ne (by decide)]; exact h31), (by rw [mm_nth_set_ne (by decide)]; exact h32), (by rw [mm_nth_set_ne (by decide)]; exact h33), (by rw [mm_nth_set_ne (by decide)]; exact h34), (by rw [mm_nth_set_ne (by decide)]; exact h35), (by rw [mm_nth_set_ne (by decide)]; exact h36)⟩⟩
theorem y_diag {h : mm_H} {co di : Int32} (hE : x_em h 0 co di) : ∃ h', mm_EC kM 94 [.ref 25] h (none, h') ∧ x_em h' 0 co 0 := by
  obtain ⟨tr, has, kept, f, cc, sp, e1, e2, e3, mat, work, dv, hO, hH, hz, h27, h28, h29, h30, h31, h32, h33, h34, h35, h36⟩ := hE
  exact ⟨_, x_diag0 hO h29 h30, ⟨tr, has, kept, f, cc, sp, e1, e2, e3, mat, _, dv, (by exact mm_nth_set (by first | exact mm_nth_lt hO | (simp only [List.length_set]; exact mm_nth_lt hO))), (by rw [mm_nth_set_ne (by decide)]; rw [mm_nth_set_ne (by decide)]; exact hH), hz, (by rw [mm_nth_set_ne (by decide)]; rw [mm_nth_set_ne (by decide)]; exact h27), (by rw [mm_nth_set_ne (by decide)]; rw [mm_nth_set_ne (by decide)]; exact h28), (by rw [mm_nth_set_ne (by decide)]; rw [mm_nth_set_ne (by decide)]; exact h29), (by rw [mm_nth_set_ne (by decide)]; exact mm_nth_set (by first | exact mm_nth_lt h30 | (simp only [List.length_set]; exact mm_nth_lt h30))), (by rw [mm_nth_set_ne (by decide)]; rw [mm_nth_set_ne (by decide)]; exact h31), (by rw [mm_nth_set_ne (by decide)]; rw [mm_nth_set_ne (by decide)]; exact h32), (by rw [mm_nth_set_ne (by decide)]; rw [mm_nth_set_ne (by decide)]; exact h33), (by rw [mm_nth_set_ne (by decide)]; rw [mm_nth_set_ne (by decide)]; exact h34), (by rw [mm_nth_set_ne (by decide)]; rw [mm_nth_set_ne (by decide)]; exact h35), (by rw [mm_nth_set_ne (by decide)]; rw [mm_nth_set_ne (by decide)]; exact h36)⟩⟩
theorem y_many {h : mm_H} {ro co di : Int32} (hE : x_em h ro co di) {c : Nat} (hc : c < 2) (k : Int32) : mm_EC kM 69 [.ref 25, .int (nI c), .int k] h (some (.int 0), h) := by
  obtain ⟨tr, has, kept, f, cc, sp, e1, e2, e3, mat, work, dv, hO, hH, hz, h27, h28, h29, h30, h31, h32, h33, h34, h35, h36⟩ := hE
  exact x_many0 hO hH hz hc k
theorem y_pb {h : mm_H} {ro co di : Int32} (hE : x_em h ro co di) {c : Nat} (hc : c < 2) (k r j : Int32) : mm_EC kM 79 [.ref 25, .int (nI c), .int k, .int r, .int j] h (none, h) := by
  obtain ⟨tr, has, kept, f, cc, sp, e1, e2, e3, mat, work, dv, hO, hH, hz, h27, h28, h29, h30, h31, h32, h33, h34, h35, h36⟩ := hE
  exact x_pb0 hO hH hz hc k r j
theorem y_o {h : mm_H} {ro co di : Int32} (hE : x_em h ro co di) : ∃ tr, mm_nth h 25 = some (x_mo ro co di tr) := by
  obtain ⟨tr, has, kept, f, cc, sp, e1, e2, e3, mat, work, dv, hO, hH, hz, h27, h28, h29, h30, h31, h32, h33, h34, h35, h36⟩ := hE
  exact ⟨tr, hO⟩
theorem y_bof {h : mm_H} {ro co di : Int32} (hE : x_em h ro co di) {c : Nat} (hc : c < 2) (k : Int32) : ∃ h', mm_EC kM 80 [.ref 25, .int (nI c), .int k] h (none, h') ∧ x_em h' 0 0 di := by
  obtain ⟨tr, hO⟩ := y_o hE
  obtain ⟨h1, E1, hE1⟩ := y_shape hE 0 0
  obtain ⟨tr1, hO1⟩ := y_o hE1
  refine ⟨h1, ⟨kq_80, rfl, rfl, ?_⟩, hE1⟩
  refine mm_E.s rfl rfl rfl (fun _ => rfl) ?_
  refine mm_E.s rfl rfl rfl (fun _ => rfl) ?_
  refine mm_E.s rfl rfl rfl (fun _ => rfl) ?_
  refine mm_E.s rfl rfl rfl (fun _ => rfl) ?_
  refine mm_E.s rfl rfl rfl (fun _ => rfl) ?_
  refine mm_E.s rfl rfl rfl (fun _ => rfl) ?_
  refine mm_E.iv rfl rfl rfl rfl hO rfl (y_many hE hc _) ?_
  refine mm_E.s rfl rfl rfl (fun _ => rfl) ?_
  refine mm_E.s rfl rfl rfl (fun _ => rfl) ?_
  refine mm_E.s rfl rfl rfl (fun _ => rfl) ?_
  refine mm_E.iv rfl rfl rfl rfl hO rfl (y_many hE hc _) ?_
  refine mm_E.iv rfl rfl rfl rfl hO rfl E1 ?_
  refine mm_E.s rfl rfl rfl (fun _ => rfl) ?_
  refine mm_E.s rfl rfl rfl (fun _ => rfl) ?_
  refine mm_E.s rfl rfl rfl (fun _ => rfl) ?_
  refine mm_E.s rfl rfl rfl (fun _ => rfl) ?_
  refine mm_E.s rfl rfl rfl (fun _ => rfl) ?_
  refine mm_E.iv rfl rfl rfl rfl hO1 rfl (y_pb hE1 hc _ _ _) ?_
  exact mm_E.ret rfl rfl rfl

theorem y_rof {h : mm_H} {ro di : Int32} (hE : x_em h ro 0 di) : ∃ h', mm_EC kM 85 [.ref 25] h (some (.int 0), h') ∧ x_em h' ro 0 di := by
  obtain ⟨tr, hO⟩ := y_o hE
  obtain ⟨h1, E1, hE1⟩ := y_rank hE (p := 2147483647) (by decide)
  obtain ⟨tr1, hO1⟩ := y_o hE1
  obtain ⟨h2, E2, hE2⟩ := y_rank hE1 (p := 2147483629) (by decide)
  refine ⟨h2, ⟨kq_85, rfl, rfl, ?_⟩, hE2⟩
  refine mm_E.s rfl rfl rfl (fun _ => rfl) ?_
  refine mm_E.s rfl rfl rfl (fun _ => rfl) ?_
  refine mm_E.iv rfl rfl rfl rfl hO rfl E1 ?_
  refine mm_E.s rfl rfl rfl (fun _ => rfl) ?_
  refine mm_E.s rfl rfl rfl (fun _ => rfl) ?_
  refine mm_E.s rfl rfl rfl (fun _ => rfl) ?_
  refine mm_E.iv rfl rfl rfl rfl hO1 rfl E2 ?_
  refine mm_E.s rfl rfl rfl (fun _ => rfl) ?_
  refine mm_E.s rfl rfl rfl (fun _ => rfl) ?_
  refine mm_E.s rfl rfl rfl (fun _ => rfl) ?_
  refine mm_E.s rfl rfl rfl (fun _ => rfl) ?_
  refine mm_E.s rfl rfl rfl (fun _ => rfl) ?_
  exact mm_E.ret rfl rfl rfl

theorem y_br {h : mm_H} {ro co di : Int32} (hE : x_em h ro co di) {c : Nat} (hc : c < 2) (k : Int32) : ∃ h', mm_EC kM 86 [.ref 25, .int (nI c), .int k] h (some (.int 0), h') ∧ x_em h' 0 0 di := by
  obtain ⟨tr, hO⟩ := y_o hE
  obtain ⟨h1, E1, hE1⟩ := y_bof hE hc k
  obtain ⟨tr1, hO1⟩ := y_o hE1
  obtain ⟨h2, E2, hE2⟩ := y_rof hE1
  refine ⟨h2, ⟨kq_86, rfl, rfl, ?_⟩, hE2⟩
  refine mm_E.s rfl rfl rfl (fun _ => rfl) ?_
  refine mm_E.s rfl rfl rfl (fun _ => rfl) ?_
  refine mm_E.s rfl rfl rfl (fun _ => rfl) ?_
  refine mm_E.iv rfl rfl rfl rfl hO rfl E1 ?_
  refine mm_E.s rfl rfl rfl (fun _ => rfl) ?_
  refine mm_E.iv rfl rfl rfl rfl hO1 rfl E2 ?_
  exact mm_E.ret rfl rfl rfl

theorem y_betti {h : mm_H} {ro co di : Int32} (hE : x_em h ro co di) (c k : Int32) : ∃ h', mm_EC kM 87 [.ref 25, .int c, .int k] h (some (.int (if (c = 0 ∨ c = 1) ∧ ¬ k < 0 ∧ ¬ 3 < k then 0 else -1)), h') := by
  by_cases hc : c = 0 ∨ c = 1
  · by_cases hk : k < 0 ∨ 3 < k
    · rw [if_neg (fun q => hk.elim q.2.1 q.2.2)]
      refine ⟨h, kq_87, rfl, rfl, ?_⟩
      refine mm_E.s rfl rfl rfl (fun _ => rfl) ?_
      refine mm_E.ic rfl rfl rfl rfl rfl (x_isC1 hc) ?_
      refine mm_E.s rfl rfl rfl (fun _ => rfl) ?_
      refine mm_E.s rfl rfl rfl (fun _ => rfl) ?_
      refine mm_E.ic rfl rfl rfl rfl rfl (x_isD0 hk) ?_
      refine mm_E.s rfl rfl rfl (fun _ => rfl) ?_
      refine mm_E.s rfl rfl rfl (fun _ => rfl) ?_
      exact mm_E.ret rfl rfl rfl
    · have k0 : ¬ k < 0 := fun q => hk (Or.inl q)
      have k3 : ¬ 3 < k := fun q => hk (Or.inr q)
      rw [if_pos ⟨hc, k0, k3⟩]
      obtain ⟨n, hn, rfl⟩ := x_c01 hc
      obtain ⟨tr, hO⟩ := y_o hE
      obtain ⟨h1, E1, hE1⟩ := y_br hE hn k
      obtain ⟨tr1, hO1⟩ := y_o hE1
      obtain ⟨h2, E2, hE2⟩ := y_br hE1 hn (k + 1)
      refine ⟨h2, kq_87, rfl, rfl, ?_⟩
      refine mm_E.s rfl rfl rfl (fun _ => rfl) ?_
      refine mm_E.ic rfl rfl rfl rfl rfl (x_isC1 hc) ?_
      refine mm_E.s rfl rfl rfl (fun _ => rfl) ?_
      refine mm_E.s rfl rfl rfl (fun _ => rfl) ?_
      refine mm_E.ic rfl rfl rfl rfl rfl (x_isD1 k0 k3) ?_
      refine mm_E.s rfl rfl rfl (fun _ => rfl) ?_
      refine mm_E.s rfl rfl rfl (fun _ => rfl) ?_
      refine mm_E.s rfl rfl rfl (fun _ => rfl) ?_
      refine mm_E.s rfl rfl rfl (fun _ => rfl) ?_
      refine mm_E.iv rfl rfl rfl rfl hO rfl (y_many hE hn k) ?_
      refine mm_E.s rfl rfl rfl (fun _ => rfl) ?_
      refine mm_E.s rfl rfl rfl (fun _ => rfl) ?_
      refine mm_E.s rfl rfl rfl (fun _ => rfl) ?_
      refine mm_E.iv rfl rfl rfl rfl hO rfl E1 ?_
      refine mm_E.s rfl rfl rfl (fun _ => rfl) ?_
      refine mm_E.s rfl rfl rfl (fun _ => rfl) ?_
      refine mm_E.s rfl rfl rfl (fun _ => rfl) ?_
      refine mm_E.s rfl rfl rfl (fun _ => rfl) ?_
      refine mm_E.s rfl rfl rfl (fun _ => rfl) ?_
      refine mm_E.s rfl rfl rfl (fun _ => rfl) ?_
      refine mm_E.iv rfl rfl rfl rfl hO1 rfl E2 ?_
      refine mm_E.s rfl rfl rfl (fun _ => rfl) ?_
      refine mm_E.s rfl rfl rfl (fun _ => rfl) ?_
      exact mm_E.ret rfl rfl rfl
  · rw [if_neg (fun q => hc q.1)]
    refine ⟨h, kq_87, rfl, rfl, ?_⟩
    refine mm_E.s rfl rfl rfl (fun _ => rfl) ?_
    refine mm_E.ic rfl rfl rfl rfl rfl (x_isC0 hc) ?_
    refine mm_E.s rfl rfl rfl (fun _ => rfl) ?_
    refine mm_E.s rfl rfl rfl (fun _ => rfl) ?_
    exact mm_E.ret rfl rfl rfl

theorem y_torsion {h : mm_H} {ro co di : Int32} (hE : x_em h ro co di) (c k i : Int32) : ∃ h', mm_EC kM 95 [.ref 25, .int c, .int k, .int i] h (some (.int (if (c = 0 ∨ c = 1) ∧ ¬ k < 0 ∧ ¬ 3 < k ∧ 0 ≤ i then 0 else -1)), h') := by
  by_cases hc : c = 0 ∨ c = 1
  · by_cases hk : k < 0 ∨ 3 < k
    · rw [if_neg (fun q => hk.elim q.2.1 q.2.2.1)]
      refine ⟨h, kq_95, rfl, rfl, ?_⟩
      refine mm_E.s rfl rfl rfl (fun _ => rfl) ?_
      refine mm_E.ic rfl rfl rfl rfl rfl (x_isC1 hc) ?_
      refine mm_E.s rfl rfl rfl (fun _ => rfl) ?_
      refine mm_E.s rfl rfl rfl (fun _ => rfl) ?_
      refine mm_E.ic rfl rfl rfl rfl rfl (x_isD0 hk) ?_
      refine mm_E.s rfl rfl rfl (fun _ => rfl) ?_
      refine mm_E.s rfl rfl rfl (fun _ => rfl) ?_
      exact mm_E.ret rfl rfl rfl
    · have k0 : ¬ k < 0 := fun q => hk (Or.inl q)
      have k3 : ¬ 3 < k := fun q => hk (Or.inr q)
      by_cases hi : 0 ≤ i
      · rw [if_pos ⟨hc, k0, k3, hi⟩]
        obtain ⟨n, hn, rfl⟩ := x_c01 hc
        obtain ⟨tr, hO⟩ := y_o hE
        obtain ⟨h1, E1, hE1⟩ := y_bof hE hn (k + 1)
        obtain ⟨tr1, hO1⟩ := y_o hE1
        obtain ⟨h2, E2, hE2⟩ := y_diag hE1
        obtain ⟨tr2, hO2⟩ := y_o hE2
        refine ⟨h2, kq_95, rfl, rfl, ?_⟩
        refine mm_E.s rfl rfl rfl (fun _ => rfl) ?_
        refine mm_E.ic rfl rfl rfl rfl rfl (x_isC1 hc) ?_
        refine mm_E.s rfl rfl rfl (fun _ => rfl) ?_
        refine mm_E.s rfl rfl rfl (fun _ => rfl) ?_
        refine mm_E.ic rfl rfl rfl rfl rfl (x_isD1 k0 k3) ?_
        refine mm_E.s rfl rfl rfl (fun _ => rfl) ?_
        refine mm_E.s rfl rfl rfl (fun _ => rfl) ?_
        refine mm_E.s rfl rfl rfl (fun _ => if_pos hi) ?_
        refine mm_E.s rfl rfl rfl (fun _ => rfl) ?_
        refine mm_E.s rfl rfl rfl (fun _ => rfl) ?_
        refine mm_E.s rfl rfl rfl (fun _ => rfl) ?_
        refine mm_E.s rfl rfl rfl (fun _ => rfl) ?_
        refine mm_E.s rfl rfl rfl (fun _ => rfl) ?_
        refine mm_E.iv rfl rfl rfl rfl hO rfl E1 ?_
        refine mm_E.s rfl rfl rfl (fun _ => rfl) ?_
        refine mm_E.iv rfl rfl rfl rfl hO1 rfl E2 ?_
        refine mm_E.s rfl rfl rfl (fun _ => rfl) ?_
        refine mm_E.s rfl rfl rfl (fun _ => rfl) ?_
        refine mm_E.s rfl rfl rfl (fun _ => rfl) ?_
        refine mm_E.s rfl rfl rfl (fun _ => rfl) ?_
        refine mm_E.s rfl rfl rfl (fun _ => rfl) ?_
        refine mm_E.s rfl rfl rfl (fun _ => rfl) ?_
        refine mm_E.gf rfl rfl rfl hO2 rfl ?_
        refine mm_E.s rfl rfl rfl (fun _ => rfl) ?_
        refine mm_E.s rfl rfl rfl (fun _ => rfl) ?_
        exact mm_E.ret rfl rfl rfl
      · rw [if_neg (fun q => hi q.2.2.2)]
        refine ⟨h, kq_95, rfl, rfl, ?_⟩
        refine mm_E.s rfl rfl rfl (fun _ => rfl) ?_
        refine mm_E.ic rfl rfl rfl rfl rfl (x_isC1 hc) ?_
        refine mm_E.s rfl rfl rfl (fun _ => rfl) ?_
        refine mm_E.s rfl rfl rfl (fun _ => rfl) ?_
        refine mm_E.ic rfl rfl rfl rfl rfl (x_isD1 k0 k3) ?_
        refine mm_E.s rfl rfl rfl (fun _ => rfl) ?_
        refine mm_E.s rfl rfl rfl (fun _ => rfl) ?_
        refine mm_E.s rfl rfl rfl (fun _ => if_neg hi) ?_
        refine mm_E.s rfl rfl rfl (fun _ => rfl) ?_
        exact mm_E.ret rfl rfl rfl
  · rw [if_neg (fun q => hc q.1)]
    refine ⟨h, kq_95, rfl, rfl, ?_⟩
    refine mm_E.s rfl rfl rfl (fun _ => rfl) ?_
    refine mm_E.ic rfl rfl rfl rfl rfl (x_isC0 hc) ?_
    refine mm_E.s rfl rfl rfl (fun _ => rfl) ?_
    refine mm_E.s rfl rfl rfl (fun _ => rfl) ?_
    exact mm_E.ret rfl rfl rfl

theorem y_vol {h : mm_H} {co di : Int32} (hE : x_em h 0 co di) : ∃ h', mm_EC kM 100 [.ref 25] h (some (.long 1), h') ∧ x_em h' 0 co 0 := by
  obtain ⟨tr, hO⟩ := y_o hE
  obtain ⟨h1, E1, hE1⟩ := y_diag hE
  obtain ⟨tr1, hO1⟩ := y_o hE1
  refine ⟨h1, ⟨kq_100, rfl, rfl, ?_⟩, hE1⟩
  refine mm_E.s rfl rfl rfl (fun _ => rfl) ?_
  refine mm_E.iv rfl rfl rfl rfl hO rfl E1 ?_
  refine mm_E.s rfl rfl rfl (fun _ => rfl) ?_
  refine mm_E.s rfl rfl rfl (fun _ => rfl) ?_
  refine mm_E.s rfl rfl rfl (fun _ => rfl) ?_
  refine mm_E.s rfl rfl rfl (fun _ => rfl) ?_
  refine mm_E.s rfl rfl rfl (fun _ => rfl) ?_
  refine mm_E.s rfl rfl rfl (fun _ => rfl) ?_
  refine mm_E.gf rfl rfl rfl hO1 rfl ?_
  refine mm_E.s rfl rfl rfl (fun _ => rfl) ?_
  refine mm_E.s rfl rfl rfl (fun _ => rfl) ?_
  exact mm_E.ret rfl rfl rfl

