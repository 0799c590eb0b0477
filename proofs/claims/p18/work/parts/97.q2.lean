/-! ELIMINATION: the counter's grid, modulo p -/
theorem x_48e (a b : Nat) : nI a * (Int8.ofInt 48).toInt32 + nI b = nI (a * 48 + b) := by
  rw [show ((Int8.ofInt 48).toInt32 : Int32) = nI 48 from rfl, pk_mul, nI_add]
theorem x_ui2 (g : Nat → Int32) {a b a' b' : Nat} (hb : b < 48) (hb' : b' < 48) (x : Int32) : upd g (a * 48 + b) x (a' * 48 + b') = if a' = a ∧ b' = b then x else g (a' * 48 + b') := by
  rw [x_ui]
  by_cases h : a' = a ∧ b' = b
  · rw [if_pos h, if_pos (by rw [h.1, h.2])]
  · rw [if_neg h, if_neg (by omega)]
theorem x_irem (a b : Int32) : (a - a / b * b).toInt = a.toInt.tmod b.toInt := by
  have e : a.toInt.tmod b.toInt = a.toInt - a.toInt.tdiv b.toInt * b.toInt := by rw [Int.tmod_def, Int.mul_comm]
  have r1 : (a.toInt.tmod b.toInt).natAbs ≤ a.toInt.natAbs := by
    rw [Int.natAbs_tmod]
    exact Nat.mod_le _ _
  have l1 := a.toInt_lt
  have l2 := a.le_toInt
  have q1 : (a.toInt.tmod b.toInt) = Int.bmod (a.toInt.tmod b.toInt) (2 ^ 32) := by
    by_cases s : a.toInt.natAbs = 2 ^ 31 ∧ (a.toInt.tmod b.toInt).natAbs = 2 ^ 31
    · have hn : a.toInt.tmod b.toInt ≤ 0 := by
        have := Int.tmod_nonneg b.toInt (a := -a.toInt) (by omega)
        rw [Int.neg_tmod] at this
        omega
      rw [Int.bmod_eq_of_le (by omega) (by omega)]
    · rw [Int.bmod_eq_of_le (by omega) (by omega)]
  rw [Int32.toInt_sub, Int32.toInt_mul, Int32.toInt_div, q1, e]
  simp
theorem x_te {x p : Int} (hp : 0 < p) : x.tmod p = x % p ∧ 0 ≤ x.tmod p ∨ x.tmod p + p = x % p ∧ x.tmod p < 0 := by
  by_cases h : 0 ≤ x
  · exact Or.inl ⟨Int.tmod_eq_emod_of_nonneg h, Int.tmod_nonneg p h⟩
  · have e : (-x).tmod p = (-x) % p := Int.tmod_eq_emod_of_nonneg (by omega)
    rw [Int.neg_tmod] at e
    have r0 := Int.emod_nonneg (-x) (show p ≠ 0 by omega)
    have r1 := Int.emod_lt_of_pos (-x) hp
    have q0 := Int.emod_nonneg x (show p ≠ 0 by omega)
    have q1 := Int.emod_lt_of_pos x hp
    have d1 := Int.emod_add_mul_ediv x p
    have d2 := Int.emod_add_mul_ediv (-x) p
    have hs : x % p + (-x) % p = p * (-(x / p) - (-x) / p) := by
      rw [Int.mul_sub, Int.mul_neg]
      omega
    generalize -(x / p) - (-x) / p = k at hs
    have hk : k = 0 ∨ k = 1 := by
      have h1 : k < 2 := by
        refine Classical.byContradiction (fun q => ?_)
        have := Int.mul_le_mul_of_nonneg_left (show (2 : Int) ≤ k by omega) (show (0 : Int) ≤ p by omega)
        omega
      have h2 : -1 < k := by
        refine Classical.byContradiction (fun q => ?_)
        have := Int.mul_le_mul_of_nonneg_left (show k ≤ (-1 : Int) by omega) (show (0 : Int) ≤ p by omega)
        omega
      omega
    rcases hk with rfl | rfl
    · rw [Int.mul_zero] at hs
      exact Or.inl ⟨by omega, by omega⟩
    · rw [Int.mul_one] at hs
      by_cases z : (-x) % p = 0
      · omega
      · exact Or.inr ⟨by omega, by omega⟩
theorem x_ir1 {x p : Int32} (hp : 0 < p.toInt) (h : 0 ≤ x - x / p * p) : (x - x / p * p).toInt = x.toInt % p.toInt := by
  rw [Int32.le_iff_toInt_le, x_irem, show (0 : Int32).toInt = 0 from rfl] at h
  rw [x_irem]
  rcases x_te (x := x.toInt) hp with q | q
  · exact q.1
  · omega
theorem x_ir2 {x p : Int32} (hp : 0 < p.toInt) (h : ¬ 0 ≤ x - x / p * p) : (x - x / p * p + p).toInt = x.toInt % p.toInt := by
  rw [Int32.le_iff_toInt_le, x_irem, show (0 : Int32).toInt = 0 from rfl] at h
  rcases x_te (x := x.toInt) hp with q | q
  · omega
  · rw [Int32.toInt_add, x_irem, q.1]
    have q1 := Int.emod_lt_of_pos x.toInt hp
    have q0 := Int.emod_nonneg x.toInt (show p.toInt ≠ 0 by omega)
    have := p.toInt_lt
    exact Int.bmod_eq_of_le (by omega) (by omega)
theorem x_p0 {p : Int32} (hp : 0 < p.toInt) : ¬ p = 0 := fun q => by
  rw [q] at hp
  exact absurd hp (by decide)
/-- the grid's work holds E -/
def x_cw (R C : Nat) (wo : Nat → Int32) (E : Nat → Nat → Int) : Prop := ∀ a b, a < R → b < C → (wo (a * 48 + b)).toInt = E a b
theorem q_load {pl0 ke0 sz0 se0 gr0 pl1 ke1 sz1 se1 gr1 im ce wo pv fa pm pw fr ba : Nat → Int32} {rw : Nat → Int64} {mo : Int32} {mi : Int64} {ki : Int32} {M : mm_H} {R C : Nat} (hR : R ≤ 48) (hC : C ≤ 48) {p : Int32} (hp : 0 < p.toInt) : mm_TC kM 20 [.ref 14, .int p, .int 1] (kC pl0 ke0 sz0 se0 gr0 pl1 ke1 sz1 se1 gr1 im ce wo pv fa pm pw fr ba rw (nI R) (nI C) mo mi ki M) (fun v h => v = none ∧ ∃ wo1, x_cw R C wo1 (fun a b => (ce (a * 48 + b)).toInt % p.toInt) ∧ h = (kC pl0 ke0 sz0 se0 gr0 pl1 ke1 sz1 se1 gr1 im ce wo1 pv fa pm pw fr ba rw (nI R) (nI C) p mi ki M)) := by
  refine mm_TC.of (M := kq_20) rfl rfl ?_
  refine mm_T.s rfl rfl rfl (fun _ => rfl) ?_
  refine mm_T.s rfl rfl rfl (fun _ => rfl) ?_
  refine mm_T.pfi rfl rfl rfl rfl rfl rfl ?_
  refine mm_T.s rfl rfl rfl (fun _ => rfl) ?_
  refine mm_T.s rfl rfl rfl (fun _ => rfl) ?_
  refine mm_T.s rfl rfl rfl (fun _ => rfl) ?_
  refine mm_T.s rfl rfl rfl (fun _ => rfl) ?_
  refine mm_T.s rfl rfl rfl (fun _ => rfl) ?_
  refine mm_T.s rfl rfl rfl (fun _ => rfl) ?_
  refine mm_T.s rfl rfl rfl (fun _ => rfl) ?_
  refine mm_T.gf rfl rfl rfl rfl rfl ?_
  refine mm_T.s rfl rfl rfl (fun _ => rfl) ?_
  refine mm_T.s rfl rfl rfl (fun _ => rfl) ?_
  refine mm_T.ti _ (Int32.one_mul p) ?_
  refine mm_T.pfi rfl rfl rfl rfl rfl rfl ?_
  refine mm_T.s rfl rfl rfl (fun _ => rfl) ?_
  refine mm_T.s rfl rfl rfl (fun _ => rfl) ?_
  refine mm_T.s rfl rfl rfl (fun _ => rfl) ?_
  refine mm_T.s rfl rfl rfl (fun _ => rfl) ?_
  refine mm_T.s rfl rfl rfl (fun _ => rfl) ?_
  refine mm_T.s rfl rfl rfl (fun _ => rfl) ?_
  refine mm_T.s rfl rfl rfl (fun _ => rfl) ?_
  refine mm_T.up (n := R) (P := fun i L h => ∃ x3 y4 y5 y6 wo1, x3 = nI i ∧ (∀ a b, a < R → b < C → a < i → (wo1 (a * 48 + b)).toInt = (fun a b => (ce (a * 48 + b)).toInt % p.toInt) a b) ∧ L = [some (.ref 14), some (.int p), some (.int 1), some (.int x3), y4, y5, y6] ∧ h = (kC pl0 ke0 sz0 se0 gr0 pl1 ke1 sz1 se1 gr1 im ce wo1 pv fa pm pw fr ba rw (nI R) (nI C) p mi ki M)) ?_ ?_ 0 (Nat.zero_le _) _ _ ⟨_, _, _, _, _, rfl, fun a b _ _ h => absurd h (Nat.not_lt_zero a), rfl, rfl⟩
  · skip
    rintro i _ _ hi ⟨x3, y4, y5, y6, wo1, rfl, hw1, rfl, rfl⟩ K
    refine mm_T.s rfl rfl rfl (fun _ => rfl) ?_
    refine mm_T.s rfl rfl rfl (fun _ => rfl) ?_
    refine mm_T.gf rfl rfl rfl rfl rfl ?_
    refine mm_T.s rfl rfl rfl (fun _ => if_neg (nI_ge hi (by omega))) ?_
    refine mm_T.s rfl rfl rfl (fun _ => rfl) ?_
    refine mm_T.s rfl rfl rfl (fun _ => rfl) ?_
    refine mm_T.up (n := C) (P := fun i1 L h => ∃ x4 y5 y6 wo2, x4 = nI i1 ∧ (∀ a b, a < R → b < C → a < i ∨ a = i ∧ b < i1 → (wo2 (a * 48 + b)).toInt = (fun a b => (ce (a * 48 + b)).toInt % p.toInt) a b) ∧ L = [some (.ref 14), some (.int p), some (.int 1), some (.int (nI i)), some (.int x4), y5, y6] ∧ h = (kC pl0 ke0 sz0 se0 gr0 pl1 ke1 sz1 se1 gr1 im ce wo2 pv fa pm pw fr ba rw (nI R) (nI C) p mi ki M)) ?_ ?_ 0 (Nat.zero_le _) _ _ ⟨_, _, _, _, rfl, fun a b ha hb hab => hw1 a b ha hb (by omega), rfl, rfl⟩
    · skip
      rintro j _ _ hj ⟨x4, y5, y6, wo2, rfl, hw2, rfl, rfl⟩ K2
      refine mm_T.s rfl rfl rfl (fun _ => rfl) ?_
      refine mm_T.s rfl rfl rfl (fun _ => rfl) ?_
      refine mm_T.gf rfl rfl rfl rfl rfl ?_
      refine mm_T.s rfl rfl rfl (fun _ => if_neg (nI_ge hj (by omega))) ?_
      refine mm_T.s rfl rfl rfl (fun _ => rfl) ?_
      refine mm_T.s rfl rfl rfl (fun _ => rfl) ?_
      refine mm_T.s rfl rfl rfl (fun _ => rfl) ?_
      refine mm_T.s rfl rfl rfl (fun _ => rfl) ?_
      refine mm_T.s rfl rfl rfl (fun _ => rfl) ?_
      refine mm_T.ti _ (x_48e _ _) ?_
      refine mm_T.s rfl rfl rfl (fun _ => rfl) ?_
      refine mm_T.s rfl rfl rfl (fun _ => rfl) ?_
      refine mm_T.gf rfl rfl rfl rfl rfl ?_
      refine mm_T.s rfl rfl rfl (fun _ => rfl) ?_
      refine mm_T.iaN rfl rfl rfl (by omega) (by decide) rfl ?_
      refine mm_T.s rfl rfl rfl (fun _ => rfl) ?_
      refine mm_T.gf rfl rfl rfl rfl rfl ?_
      refine mm_T.s rfl rfl rfl (fun _ => if_neg (x_p0 hp)) ?_
      refine mm_T.s rfl rfl rfl (fun _ => rfl) ?_
      refine mm_T.s rfl rfl rfl (fun _ => rfl) ?_
      refine mm_T.gf rfl rfl rfl rfl rfl ?_
      refine mm_T.s rfl rfl rfl (fun _ => rfl) ?_
      refine mm_T.s rfl rfl rfl (fun _ => rfl) ?_
      refine mm_T.cz rfl rfl (fun hb81 => ?_) (fun hb81 => ?_)
      · skip
        have hq := x_ir1 (x := ce (i * 48 + j)) hp hb81
        refine mm_T.s rfl rfl rfl (fun _ => rfl) ?_
        refine mm_T.isN rfl rfl rfl (by omega) (by decide) rfl ?_
        refine mm_T.s rfl rfl rfl (fun _ => rfl) ?_
        refine mm_T.s rfl rfl rfl (fun _ => rfl) ?_
        exact K2 _ _ ⟨_, _, _, _, nI_1 j, fun a b ha hb hab => (by
          rw [x_ui2 _ (by omega) (by omega)]
          by_cases e : a = i ∧ b = j
          · rw [if_pos e, e.1, e.2]
            exact hq
          · rw [if_neg e]
            exact hw2 a b ha hb (by omega)), rfl, rfl⟩
      · skip
        have hq := x_ir2 (x := ce (i * 48 + j)) hp hb81
        refine mm_T.s rfl rfl rfl (fun _ => rfl) ?_
        refine mm_T.s rfl rfl rfl (fun _ => rfl) ?_
        refine mm_T.gf rfl rfl rfl rfl rfl ?_
        refine mm_T.s rfl rfl rfl (fun _ => rfl) ?_
        refine mm_T.s rfl rfl rfl (fun _ => rfl) ?_
        refine mm_T.isN rfl rfl rfl (by omega) (by decide) rfl ?_
        refine mm_T.s rfl rfl rfl (fun _ => rfl) ?_
        refine mm_T.s rfl rfl rfl (fun _ => rfl) ?_
        exact K2 _ _ ⟨_, _, _, _, nI_1 j, fun a b ha hb hab => (by
          rw [x_ui2 _ (by omega) (by omega)]
          by_cases e : a = i ∧ b = j
          · rw [if_pos e, e.1, e.2]
            exact hq
          · rw [if_neg e]
            exact hw2 a b ha hb (by omega)), rfl, rfl⟩
    · skip
      rintro _ _ ⟨x4, y5, y6, wo2, rfl, hw2, rfl, rfl⟩
      refine mm_T.s rfl rfl rfl (fun _ => rfl) ?_
      refine mm_T.s rfl rfl rfl (fun _ => rfl) ?_
      refine mm_T.gf rfl rfl rfl rfl rfl ?_
      refine mm_T.s rfl rfl rfl (fun _ => if_pos (nI_le (Nat.le_refl _) (by omega))) ?_
      refine mm_T.s rfl rfl rfl (fun _ => rfl) ?_
      refine mm_T.s rfl rfl rfl (fun _ => rfl) ?_
      exact K _ _ ⟨_, _, _, _, _, nI_1 i, fun a b ha hb hab => hw2 a b ha hb (by omega), rfl, rfl⟩
  · skip
    rintro _ _ ⟨x3, y4, y5, y6, wo1, rfl, hw1, rfl, rfl⟩
    refine mm_T.s rfl rfl rfl (fun _ => rfl) ?_
    refine mm_T.s rfl rfl rfl (fun _ => rfl) ?_
    refine mm_T.gf rfl rfl rfl rfl rfl ?_
    refine mm_T.s rfl rfl rfl (fun _ => if_pos (nI_le (Nat.le_refl _) (by omega))) ?_
    exact mm_T.ret rfl rfl rfl (⟨rfl, _, fun a b ha hb => hw1 a b ha hb ha, rfl⟩)
theorem q_pivot {pl0 ke0 sz0 se0 gr0 pl1 ke1 sz1 se1 gr1 im ce wo pv fa pm pw fr ba : Nat → Int32} {rw : Nat → Int64} {mi : Int64} {ki : Int32} {M : mm_H} {R C : Nat} (hR : R ≤ 48) (hC : C ≤ 48) {p : Int32} (hp : 0 < p.toInt) {E : Nat → Nat → Int} (hcw : x_cw R C wo E) (hr : ∀ a b, a < R → b < C → 0 ≤ E a b ∧ E a b < p.toInt) {t col : Nat} (ht : t ≤ R) (hcol : col < C) : mm_TC kM 21 [.ref 14, .int (nI t), .int (nI col), .int p] (kC pl0 ke0 sz0 se0 gr0 pl1 ke1 sz1 se1 gr1 im ce wo pv fa pm pw fr ba rw (nI R) (nI C) p mi ki M) (fun v h => v = some (.int (nI (x_pv E col (R - t) t))) ∧ h = (kC pl0 ke0 sz0 se0 gr0 pl1 ke1 sz1 se1 gr1 im ce wo pv fa pm pw fr ba rw (nI R) (nI C) p mi ki M)) := by
  refine mm_TC.of (M := kq_21) rfl rfl ?_
  refine mm_T.s rfl rfl rfl (fun _ => rfl) ?_
  refine mm_T.s rfl rfl rfl (fun _ => rfl) ?_
  refine mm_T.up (n := R) (P := fun i L h => ∃ x4, t ≤ i ∧ x4 = nI i ∧ x_pv E col (R - i) i = x_pv E col (R - t) t ∧ L = [some (.ref 14), some (.int (nI t)), some (.int (nI col)), some (.int p), some (.int x4)] ∧ h = (kC pl0 ke0 sz0 se0 gr0 pl1 ke1 sz1 se1 gr1 im ce wo pv fa pm pw fr ba rw (nI R) (nI C) p mi ki M)) ?_ ?_ t ht _ _ ⟨_, Nat.le_refl _, rfl, rfl, rfl, rfl⟩
  · skip
    rintro i _ _ hi ⟨x4, hti, rfl, hpv, rfl, rfl⟩ K
    have hE := hr i col hi hcol
    have hw := hcw i col hi hcol
    have er : (wo (i * 48 + col) - wo (i * 48 + col) / p * p).toInt = E i col := by
      rw [x_irem, hw]
      exact (Int.tmod_eq_emod_of_nonneg hE.1).trans (Int.emod_eq_of_lt hE.1 hE.2)
    have ed : x_pv E col (R - i) i = if E i col = 0 then x_pv E col (R - (i + 1)) (i + 1) else i := by
      rw [show R - i = R - (i + 1) + 1 by omega]
      rfl
    refine mm_T.s rfl rfl rfl (fun _ => rfl) ?_
    refine mm_T.s rfl rfl rfl (fun _ => rfl) ?_
    refine mm_T.gf rfl rfl rfl rfl rfl ?_
    refine mm_T.s rfl rfl rfl (fun _ => if_neg (nI_ge hi (by omega))) ?_
    refine mm_T.s rfl rfl rfl (fun _ => rfl) ?_
    refine mm_T.gf rfl rfl rfl rfl rfl ?_
    refine mm_T.s rfl rfl rfl (fun _ => rfl) ?_
    refine mm_T.s rfl rfl rfl (fun _ => rfl) ?_
    refine mm_T.s rfl rfl rfl (fun _ => rfl) ?_
    refine mm_T.s rfl rfl rfl (fun _ => rfl) ?_
    refine mm_T.s rfl rfl rfl (fun _ => rfl) ?_
    refine mm_T.ti _ (x_48e _ _) ?_
    refine mm_T.iaN rfl rfl rfl (by omega) (by decide) rfl ?_
    refine mm_T.s rfl rfl rfl (fun _ => rfl) ?_
    refine mm_T.s rfl rfl rfl (fun _ => if_neg (x_p0 hp)) ?_
    refine mm_T.cz rfl rfl (fun hb26 => ?_) (fun hb26 => ?_)
    · skip
      have hz : ¬ E i col = 0 := fun q => hb26 (Int32.toInt_inj.mp (by rw [er, q]; rfl))
      rw [ed, if_neg hz] at hpv
      refine mm_T.s rfl rfl rfl (fun _ => rfl) ?_
      exact mm_T.ret rfl rfl rfl (⟨by rw [← hpv], rfl⟩)
    · skip
      have hz : E i col = 0 := by
        rw [← er]
        exact congrArg Int32.toInt (Classical.not_not.mp hb26)
      refine mm_T.s rfl rfl rfl (fun _ => rfl) ?_
      refine mm_T.s rfl rfl rfl (fun _ => rfl) ?_
      refine K _ _ ⟨_, by omega, nI_1 i, ?_, rfl, rfl⟩
      rw [← hpv, ed, if_pos hz]
  · skip
    rintro _ _ ⟨x4, hti, rfl, hpv, rfl, rfl⟩
    have e0 : x_pv E col (R - R) R = R := by
      rw [Nat.sub_self]
      rfl
    rw [e0] at hpv
    refine mm_T.s rfl rfl rfl (fun _ => rfl) ?_
    refine mm_T.s rfl rfl rfl (fun _ => rfl) ?_
    refine mm_T.gf rfl rfl rfl rfl rfl ?_
    refine mm_T.s rfl rfl rfl (fun _ => if_pos (nI_le (Nat.le_refl _) (by omega))) ?_
    refine mm_T.s rfl rfl rfl (fun _ => rfl) ?_
    exact mm_T.ret rfl rfl rfl (⟨by rw [← hpv], rfl⟩)
theorem q_swap {pl0 ke0 sz0 se0 gr0 pl1 ke1 sz1 se1 gr1 im ce wo pv fa pm pw fr ba : Nat → Int32} {rw : Nat → Int64} {mi : Int64} {ki : Int32} {M : mm_H} {R C : Nat} (hR : R ≤ 48) (hC : C ≤ 48) {p : Int32} {E : Nat → Nat → Int} (hcw : x_cw R C wo E) {t r : Nat} (ht : t < R) (hr : r < R) : mm_TC kM 22 [.ref 14, .int (nI t), .int (nI r)] (kC pl0 ke0 sz0 se0 gr0 pl1 ke1 sz1 se1 gr1 im ce wo pv fa pm pw fr ba rw (nI R) (nI C) p mi ki M) (fun v h => v = none ∧ ∃ wo1, x_cw R C wo1 (fun a b => E (x_tw t r a) b) ∧ h = (kC pl0 ke0 sz0 se0 gr0 pl1 ke1 sz1 se1 gr1 im ce wo1 pv fa pm pw fr ba rw (nI R) (nI C) p mi ki M)) := by
  refine mm_TC.of (M := kq_22) rfl rfl ?_
  by_cases e : t = r
  · subst e
    have hs : x_cw R C wo (fun a b => E (x_tw t t a) b) := fun a b ha hb => (by
      rw [hcw a b ha hb]
      show E a b = E (x_tw t t a) b
      by_cases q : a = t
      · rw [q, x_tw_l]
      · rw [x_tw_n q q])
    refine mm_T.s rfl rfl rfl (fun _ => rfl) ?_
    refine mm_T.s rfl rfl rfl (fun _ => rfl) ?_
    refine mm_T.s rfl rfl rfl (fun _ => if_pos rfl) ?_
    exact mm_T.ret rfl rfl rfl (⟨rfl, _, hs, rfl⟩)
  · have ne : ¬ nI t = nI r := fun q => e ((nI_eq (by omega) (by omega)).mp q)
    refine mm_T.s rfl rfl rfl (fun _ => rfl) ?_
    refine mm_T.s rfl rfl rfl (fun _ => rfl) ?_
    refine mm_T.s rfl rfl rfl (fun _ => if_neg ne) ?_
    refine mm_T.s rfl rfl rfl (fun _ => rfl) ?_
    refine mm_T.s rfl rfl rfl (fun _ => rfl) ?_
    refine mm_T.up (n := C) (P := fun i L h => ∃ x3 y4 wo1, x3 = nI i ∧ (∀ a b, a < R → b < C → (wo1 (a * 48 + b)).toInt = if b < i then E (x_tw t r a) b else E a b) ∧ L = [some (.ref 14), some (.int (nI t)), some (.int (nI r)), some (.int x3), y4] ∧ h = (kC pl0 ke0 sz0 se0 gr0 pl1 ke1 sz1 se1 gr1 im ce wo1 pv fa pm pw fr ba rw (nI R) (nI C) p mi ki M)) ?_ ?_ 0 (Nat.zero_le _) _ _ ⟨_, _, _, rfl, fun a b ha hb => (by rw [if_neg (Nat.not_lt_zero b)]; exact hcw a b ha hb), rfl, rfl⟩
    · skip
      rintro i _ _ hi ⟨x3, y4, wo1, rfl, hw, rfl, rfl⟩ K
      have z1 := hw t i (by omega) hi
      have z2 := hw r i hr hi
      rw [if_neg (Nat.lt_irrefl i)] at z1 z2
      refine mm_T.s rfl rfl rfl (fun _ => rfl) ?_
      refine mm_T.s rfl rfl rfl (fun _ => rfl) ?_
      refine mm_T.gf rfl rfl rfl rfl rfl ?_
      refine mm_T.s rfl rfl rfl (fun _ => if_neg (nI_ge hi (by omega))) ?_
      refine mm_T.s rfl rfl rfl (fun _ => rfl) ?_
      refine mm_T.gf rfl rfl rfl rfl rfl ?_
      refine mm_T.s rfl rfl rfl (fun _ => rfl) ?_
      refine mm_T.s rfl rfl rfl (fun _ => rfl) ?_
      refine mm_T.s rfl rfl rfl (fun _ => rfl) ?_
      refine mm_T.s rfl rfl rfl (fun _ => rfl) ?_
      refine mm_T.s rfl rfl rfl (fun _ => rfl) ?_
      refine mm_T.ti _ (x_48e _ _) ?_
      refine mm_T.iaN rfl rfl rfl (by omega) (by decide) rfl ?_
      refine mm_T.s rfl rfl rfl (fun _ => rfl) ?_
      refine mm_T.s rfl rfl rfl (fun _ => rfl) ?_
      refine mm_T.gf rfl rfl rfl rfl rfl ?_
      refine mm_T.s rfl rfl rfl (fun _ => rfl) ?_
      refine mm_T.s rfl rfl rfl (fun _ => rfl) ?_
      refine mm_T.s rfl rfl rfl (fun _ => rfl) ?_
      refine mm_T.s rfl rfl rfl (fun _ => rfl) ?_
      refine mm_T.s rfl rfl rfl (fun _ => rfl) ?_
      refine mm_T.ti _ (x_48e _ _) ?_
      refine mm_T.s rfl rfl rfl (fun _ => rfl) ?_
      refine mm_T.gf rfl rfl rfl rfl rfl ?_
      refine mm_T.s rfl rfl rfl (fun _ => rfl) ?_
      refine mm_T.s rfl rfl rfl (fun _ => rfl) ?_
      refine mm_T.s rfl rfl rfl (fun _ => rfl) ?_
      refine mm_T.s rfl rfl rfl (fun _ => rfl) ?_
      refine mm_T.s rfl rfl rfl (fun _ => rfl) ?_
      refine mm_T.ti _ (x_48e _ _) ?_
      refine mm_T.iaN rfl rfl rfl (by omega) (by decide) rfl ?_
      refine mm_T.isN rfl rfl rfl (by omega) (by decide) rfl ?_
      refine mm_T.s rfl rfl rfl (fun _ => rfl) ?_
      refine mm_T.gf rfl rfl rfl rfl rfl ?_
      refine mm_T.s rfl rfl rfl (fun _ => rfl) ?_
      refine mm_T.s rfl rfl rfl (fun _ => rfl) ?_
      refine mm_T.s rfl rfl rfl (fun _ => rfl) ?_
      refine mm_T.s rfl rfl rfl (fun _ => rfl) ?_
      refine mm_T.s rfl rfl rfl (fun _ => rfl) ?_
      refine mm_T.ti _ (x_48e _ _) ?_
      refine mm_T.s rfl rfl rfl (fun _ => rfl) ?_
      refine mm_T.isN rfl rfl rfl (by omega) (by decide) rfl ?_
      refine mm_T.s rfl rfl rfl (fun _ => rfl) ?_
      refine mm_T.s rfl rfl rfl (fun _ => rfl) ?_
      refine K _ _ ⟨_, _, _, nI_1 i, fun a b ha hb => ?_, rfl, rfl⟩
      rw [x_ui2 _ (by omega) (by omega), x_ui2 _ (by omega) (by omega)]
      by_cases e : b = i
      · rw [e, if_pos (Nat.lt_succ_self i)]
        by_cases e2 : a = r
        · rw [if_pos ⟨e2, rfl⟩, z1, e2, x_tw_r]
        · rw [if_neg (fun q => e2 q.1)]
          by_cases e1 : a = t
          · rw [if_pos ⟨e1, rfl⟩, z2, e1, x_tw_l]
          · rw [if_neg (fun q => e1 q.1), hw a i ha hi, if_neg (Nat.lt_irrefl i), x_tw_n e1 e2]
      · rw [if_neg (fun q => e q.2), if_neg (fun q => e q.2), hw a b ha hb]
        by_cases l : b < i
        · rw [if_pos l, if_pos (show b < i + 1 by omega)]
        · rw [if_neg l, if_neg (show ¬ b < i + 1 by omega)]
    · skip
      rintro _ _ ⟨x3, y4, wo1, rfl, hw, rfl, rfl⟩
      refine mm_T.s rfl rfl rfl (fun _ => rfl) ?_
      refine mm_T.s rfl rfl rfl (fun _ => rfl) ?_
      refine mm_T.gf rfl rfl rfl rfl rfl ?_
      refine mm_T.s rfl rfl rfl (fun _ => if_pos (nI_le (Nat.le_refl _) (by omega))) ?_
      exact mm_T.ret rfl rfl rfl (⟨rfl, _, fun a b ha hb => (by rw [hw a b ha hb, if_pos hb]), rfl⟩)
