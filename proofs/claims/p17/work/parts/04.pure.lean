/-! RUNS AS SUCH: more fuel does no harm; a stretch, a call, a return. -/
theorem mm_back_more {nx : Nat} {L : mm_L} {r : List Value} {o o' : Option (Option Value × mm_H)} {X : mm_R} (ho : ∀ q, o = some q → o' = some q) (h : mm_back nx L r o = some X) : mm_back nx L r o' = some X := by
  obtain ⟨v, h1, e1, -⟩ := mm_back_sp h
  rw [ho _ e1, ← e1]
  exact h
theorem mm_ex_more {call call' : Nat → List Value → mm_H → Option (Option Value × mm_H)} (hc : ∀ j As g q, call j As g = some q → call' j As g = some q) {scr : mm_X} {pool : List (Nat × mm_K)} {ins : Jvm.ClassFile.Instr} {nx : Nat} {tg : List Nat} {L : mm_L} {st : List Value} {h : mm_H} {X : mm_R} (hex : mm_ex call scr pool ins nx tg L st h = some X) : mm_ex call' scr pool ins nx tg L st h = some X := by
  cases ins
  case invokevirtual i =>
    simp only [mm_ex] at hex ⊢
    split at hex
    · rename_i q ev
      unfold mm_ivv at hex ⊢
      split at hex
      · rename_i ci As r e1 e2
        unfold mm_cv1 at hex ⊢
        split at hex
        · rename_i b r'
          split at hex
          · rename_i cj fs e3
            split at hex
            · exact mm_back_more (hc _ _ _) hex
            · cases hex
          · cases hex
        · cases hex
      · cases hex
    · cases hex
  case invokestatic i =>
    simp only [mm_ex] at hex ⊢
    split at hex
    · rename_i q ev
      unfold mm_ivs at hex ⊢
      split at hex
      · rename_i As r e1 e2
        unfold mm_cs1 at hex ⊢
        split at hex
        · exact mm_back_more (hc _ _ _) hex
        · cases hex
      · cases hex
    · exact hex
    · exact hex
    · cases hex
  all_goals exact hex
theorem mm_run_more {G : List mm_M} : ∀ (n : Nat) (scr : mm_X) (k pc : Nat) (L : mm_L) (st : List Value) (h : mm_H) (r : Option Value × mm_H), mm_run G n scr k pc L st h = some r → mm_run G (n + 1) scr k pc L st h = some r := by
  intro n
  induction n with
  | zero =>
    intro scr k pc L st h r hr
    simp only [mm_run] at hr
    cases hr
  | succ n ih =>
    intro scr k pc L st h r hr
    rw [mm_run] at hr ⊢
    split at hr
    · cases hr
    · rename_i M hM
      split at hr
      · rename_i x ex
        split at hr
        · exact hr
        · split at hr
          · rename_i pc' L' st' h' eex
            have e2 := mm_ex_more (call' := mm_cal G (fun j L g => mm_run G (n + 1) none j 0 L [] g)) (fun j As g q hq => by
                unfold mm_cal at hq ⊢
                split at hq
                · cases hq
                · split at hq
                  · exact ih _ _ _ _ _ _ _ hq
                  · cases hq) eex
            rw [e2]
            exact ih _ _ _ _ _ _ _ hr
          · cases hr
      · cases hr
theorem mm_run_le {G : List mm_M} {n m : Nat} (hnm : n ≤ m) {scr : mm_X} {k pc : Nat} {L : mm_L} {st : List Value} {h : mm_H} {r : Option Value × mm_H} (hr : mm_run G n scr k pc L st h = some r) : mm_run G m scr k pc L st h = some r := by
  obtain ⟨d, rfl⟩ := Nat.le.dest hnm
  induction d with
  | zero => exact hr
  | succ d ih => exact mm_run_more _ _ _ _ _ _ _ _ (ih (Nat.le_add_right n d))
/-- it ends so -/
def mm_E (G : List mm_M) (scr : mm_X) (k pc : Nat) (L : mm_L) (st : List Value) (h : mm_H) (r : Option Value × mm_H) : Prop := ∃ n, mm_run G n scr k pc L st h = some r
/-- a call of method k ends so -/
def mm_EC (G : List mm_M) (k : Nat) (As : List Value) (h : mm_H) (r : Option Value × mm_H) : Prop := ∃ M : mm_M, mm_nth G k = some M ∧ Nat.ble (mm_lay As).length M.2.2.1 = true ∧ mm_E G none k 0 (mm_pad (mm_lay As) M.2.2.1) [] h r
theorem mm_E.go {G : List mm_M} {scr : mm_X} {k pc pc' : Nat} {L L' : mm_L} {st st' : List Value} {h h' : mm_H} {r : Option Value × mm_H} (d : Nat) (hs : ∀ n, mm_run G (n + d) scr k pc L st h = mm_run G n scr k pc' L' st' h') (he : mm_E G scr k pc' L' st' h' r) : mm_E G scr k pc L st h r := by
  obtain ⟨n, hn⟩ := he
  exact ⟨n + d, by rw [hs]; exact hn⟩
theorem mm_E.call {G : List mm_M} {scr : mm_X} {k pc nx j : Nat} {M : mm_M} {x : mm_I} {L L' : mm_L} {st st' As : List Value} {h h1 h' : mm_H} {v : Option Value} {r : Option Value × mm_H} (hM : mm_nth G k = some M) (hI : mm_nth M.1 pc = some (some x)) (hr : mm_ret M.2.2.2 x.1 st = none)
    (hex : ∀ call : Nat → List Value → mm_H → Option (Option Value × mm_H), call j As h = some (v, h1) → mm_ex call scr M.2.1 x.1 x.2.1 x.2.2 L st h = some (nx, L', st', h')) (hc : mm_EC G j As h (v, h1)) (he : mm_E G scr k nx L' st' h' r) : mm_E G scr k pc L st h r := by
  obtain ⟨n, hn⟩ := he
  obtain ⟨Mj, h1, h2, n2, h3⟩ := hc
  refine ⟨n + n2 + 1, ?_⟩
  rw [mm_run]
  simp only [hM, hI, hr]
  rw [hex _ (by simp only [mm_cal, h1, h2]; exact mm_run_le (Nat.le_add_left n2 n) h3)]
  exact mm_run_le (Nat.le_add_right n n2) hn
theorem mm_E.ret {G : List mm_M} {scr : mm_X} {k pc : Nat} {M : mm_M} {x : mm_I} {L : mm_L} {st : List Value} {h : mm_H} {v : Option Value} (hM : mm_nth G k = some M) (hI : mm_nth M.1 pc = some (some x)) (hr : mm_ret M.2.2.2 x.1 st = some v) : mm_E G scr k pc L st h (v, h) := by
  refine ⟨1, ?_⟩
  rw [mm_run]
  simp only [hM, hI, hr]
