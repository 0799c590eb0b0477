/-! ELIMINATION: the counter's grid, rows and all -/
theorem x_ar {u v p : Int32} {z : Int64} (hu : 0 ≤ u.toInt ∧ u.toInt < p.toInt) (hv : 0 ≤ v.toInt ∧ v.toInt < p.toInt) (hz : 0 ≤ z.toInt ∧ z.toInt ≤ p.toInt) : ((u.toInt64 + z * v.toInt64 - (u.toInt64 + z * v.toInt64) / p.toInt64 * p.toInt64).toInt32).toInt = (u.toInt + z.toInt * v.toInt) % p.toInt := by
  have lp := p.toInt_lt
  have m0 : 0 ≤ z.toInt * v.toInt := Int.mul_nonneg hz.1 hv.1
  have m1 : z.toInt * v.toInt ≤ 2147483648 * 2147483648 := Int.mul_le_mul (by omega) (by omega) hv.1 (by decide)
  have e1 : (z * v.toInt64).toInt = z.toInt * v.toInt := by
    rw [Int64.toInt_mul, x_i64]
    exact Int.bmod_eq_of_le (by omega) (by omega)
  have e2 : (u.toInt64 + z * v.toInt64).toInt = u.toInt + z.toInt * v.toInt := by
    rw [Int64.toInt_add, x_i64, e1]
    exact Int.bmod_eq_of_le (by omega) (by omega)
  have r0 := Int.emod_nonneg (u.toInt + z.toInt * v.toInt) (show p.toInt ≠ 0 by omega)
  have r1 := Int.emod_lt_of_pos (u.toInt + z.toInt * v.toInt) (show 0 < p.toInt by omega)
  rw [Int64.toInt_toInt32, x_lrem, e2, x_i64, Int.tmod_eq_emod_of_nonneg (by omega)]
  exact Int.bmod_eq_of_le (by omega) (by omega)
theorem x_d1 (x : Int32) : x / 1 = x := by
  apply Int32.toInt_inj.mp
  have l1 := x.toInt_lt
  have l2 := x.le_toInt
  rw [Int32.toInt_div, show (1 : Int32).toInt = 1 from rfl, Int.tdiv_one]
  exact Int.bmod_eq_of_le (by omega) (by omega)
/-- how often the pivot's row is added -/
theorem x_tm {u p : Int32} {z : Int64} (hu : 0 ≤ u.toInt ∧ u.toInt < p.toInt) (hz : 0 ≤ z.toInt ∧ z.toInt < p.toInt) : (p.toInt64 - (u.toInt64 * z - u.toInt64 * z / p.toInt64 * p.toInt64)).toInt = p.toInt - u.toInt * z.toInt % p.toInt := by
  have lp := p.toInt_lt
  have m0 : 0 ≤ u.toInt * z.toInt := Int.mul_nonneg hu.1 hz.1
  have m1 : u.toInt * z.toInt ≤ 2147483648 * 2147483648 := Int.mul_le_mul (by omega) (by omega) hz.1 (by decide)
  have e1 : (u.toInt64 * z).toInt = u.toInt * z.toInt := by
    rw [Int64.toInt_mul, x_i64]
    exact Int.bmod_eq_of_le (by omega) (by omega)
  have r0 := Int.emod_nonneg (u.toInt * z.toInt) (show p.toInt ≠ 0 by omega)
  have r1 := Int.emod_lt_of_pos (u.toInt * z.toInt) (show 0 < p.toInt by omega)
  rw [Int64.toInt_sub, x_lrem, e1, x_i64, Int.tmod_eq_emod_of_nonneg m0]
  exact Int.bmod_eq_of_le (by omega) (by omega)
theorem x_el_add {p q x y : Int} (hp : 0 < p) : (x + (p - q) * y) % p = (x - q * y) % p := by
  rw [Int.sub_mul, show x + (p * y - q * y) = (x - q * y) + p * y by omega, Int.add_mul_emod_self_left]
theorem q_addRow {pl0 ke0 sz0 se0 gr0 pl1 ke1 sz1 se1 gr1 im ce wo pv fa pm pw fr ba : Nat → Int32} {rw : Nat → Int64} {mi : Int64} {ki : Int32} {M : mm_H} {R C : Nat} (hR : R ≤ 48) (hC : C ≤ 48) {p : Int32} (hp : 0 < p.toInt) {E : Nat → Nat → Int} (hcw : x_cw R C wo E) (hr : ∀ a b, a < R → b < C → 0 ≤ E a b ∧ E a b < p.toInt) {r t : Nat} (hrR : r < R) (ht : t < R) (hne : r ≠ t) {z : Int64} (hz : 0 ≤ z.toInt ∧ z.toInt ≤ p.toInt) : mm_TC kM 24 [.ref 14, .int (nI r), .int (nI t), .long z] (kC pl0 ke0 sz0 se0 gr0 pl1 ke1 sz1 se1 gr1 im ce wo pv fa pm pw fr ba rw (nI R) (nI C) p mi ki M) (fun v h => v = none ∧ ∃ wo1, x_cw R C wo1 (fun a b => if a = r then (E r b + z.toInt * E t b) % p.toInt else E a b) ∧ h = (kC pl0 ke0 sz0 se0 gr0 pl1 ke1 sz1 se1 gr1 im ce wo1 pv fa pm pw fr ba rw (nI R) (nI C) p mi ki M)) := by
  refine mm_TC.of (M := kq_24) rfl rfl ?_
  refine mm_T.s rfl rfl rfl (fun _ => rfl) ?_
  refine mm_T.s rfl rfl rfl (fun _ => rfl) ?_
  refine mm_T.up (n := C) (P := fun i L h => ∃ x5 y6 y7 wo1, x5 = nI i ∧ (∀ a b, a < R → b < C → (wo1 (a * 48 + b)).toInt = if a = r ∧ b < i then (E r b + z.toInt * E t b) % p.toInt else E a b) ∧ L = [some (.ref 14), some (.int (nI r)), some (.int (nI t)), some (.long z), none, some (.int x5), y6, y7] ∧ h = (kC pl0 ke0 sz0 se0 gr0 pl1 ke1 sz1 se1 gr1 im ce wo1 pv fa pm pw fr ba rw (nI R) (nI C) p mi ki M)) ?_ ?_ 0 (Nat.zero_le _) _ _ ⟨_, _, _, _, rfl, fun a b ha hb => (by rw [if_neg (fun q => absurd q.2 (Nat.not_lt_zero b))]; exact hcw a b ha hb), rfl, rfl⟩
  · skip
    rintro i _ _ hi ⟨x5, y6, y7, wo1, rfl, hw, rfl, rfl⟩ K
    have z1 := hw t i ht hi
    rw [if_neg (by omega)] at z1
    have z2 := hw r i hrR hi
    rw [if_neg (by omega)] at z2
    have r1 := hr t i ht hi
    have r2 := hr r i hrR hi
    refine mm_T.s rfl rfl rfl (fun _ => rfl) ?_
    refine mm_T.s rfl rfl rfl (fun _ => rfl) ?_
    refine mm_T.gf rfl rfl rfl rfl rfl ?_
    refine mm_T.s rfl rfl rfl (fun _ => if_neg (nI_ge hi (by omega))) ?_
    refine mm_T.s rfl rfl rfl (fun _ => rfl) ?_
    refine mm_T.gf rfl rfl rfl rfl rfl ?_
    refine mm_T.s rfl rfl rfl (fun _ => rfl) ?_
    refine mm_T.s rfl rfl rfl (fun _ => rfl) ?_
    refine mm_T.s rfl rfl rfl (fun _ => rfl) ?_
    refine mm_T.s rfl rfl rfl (fun _ => rfl) ?_
    refine mm_T.s rfl rfl rfl (fun _ => rfl) ?_
    refine mm_T.ti _ (x_48e _ _) ?_
    refine mm_T.iaN rfl rfl rfl (by omega) (by decide) rfl ?_
    refine mm_T.s rfl rfl rfl (fun _ => rfl) ?_
    refine mm_T.s rfl rfl rfl (fun _ => rfl) ?_
    refine mm_T.cz rfl rfl (fun hb28 => ?_) (fun hb28 => ?_)
    · skip
      have hz0 : E t i = 0 := by
        rw [← z1]
        exact congrArg Int32.toInt hb28
      have hn : ∀ a b, a < R → b < C → (wo1 (a * 48 + b)).toInt = if a = r ∧ b < i + 1 then (E r b + z.toInt * E t b) % p.toInt else E a b := fun a b ha hb => by
        rw [hw a b ha hb]
        by_cases e : a = r ∧ b < i
        · rw [if_pos e, if_pos ⟨e.1, by omega⟩]
        · rw [if_neg e]
          by_cases e2 : a = r ∧ b < i + 1
          · have e3 : b = i := by omega
            rw [if_pos e2, e2.1, e3, hz0, Int.mul_zero, Int.add_zero, Int.emod_eq_of_lt r2.1 r2.2]
          · rw [if_neg e2]
      refine mm_T.s rfl rfl rfl (fun _ => rfl) ?_
      refine mm_T.s rfl rfl rfl (fun _ => rfl) ?_
      exact K _ _ ⟨_, _, _, _, nI_1 i, hn, rfl, rfl⟩
    · skip
      have hn : ∀ a b, a < R → b < C → (upd wo1 (r * 48 + i) (((wo1 (r * 48 + i)).toInt64 + z * (wo1 (t * 48 + i)).toInt64 - ((wo1 (r * 48 + i)).toInt64 + z * (wo1 (t * 48 + i)).toInt64) / p.toInt64 * p.toInt64).toInt32) (a * 48 + b)).toInt = if a = r ∧ b < i + 1 then (E r b + z.toInt * E t b) % p.toInt else E a b := fun a b ha hb => by
        rw [x_ui2 _ (by omega) (by omega)]
        by_cases e : a = r ∧ b = i
        · rw [if_pos e, if_pos ⟨e.1, by omega⟩, e.2, x_ar (by rw [z2]; exact r2) (by rw [z1]; exact r1) hz, z1, z2]
        · rw [if_neg e, hw a b ha hb]
          by_cases e2 : a = r ∧ b < i
          · rw [if_pos e2, if_pos ⟨e2.1, by omega⟩]
          · rw [if_neg e2, if_neg (by omega)]
      refine mm_T.s rfl rfl rfl (fun _ => rfl) ?_
      refine mm_T.s rfl rfl rfl (fun _ => rfl) ?_
      refine mm_T.s rfl rfl rfl (fun _ => rfl) ?_
      refine mm_T.s rfl rfl rfl (fun _ => rfl) ?_
      refine mm_T.s rfl rfl rfl (fun _ => rfl) ?_
      refine mm_T.ti _ (x_48e _ _) ?_
      refine mm_T.s rfl rfl rfl (fun _ => rfl) ?_
      refine mm_T.s rfl rfl rfl (fun _ => rfl) ?_
      refine mm_T.gf rfl rfl rfl rfl rfl ?_
      refine mm_T.s rfl rfl rfl (fun _ => rfl) ?_
      refine mm_T.s rfl rfl rfl (fun _ => rfl) ?_
      refine mm_T.gf rfl rfl rfl rfl rfl ?_
      refine mm_T.s rfl rfl rfl (fun _ => rfl) ?_
      refine mm_T.iaN rfl rfl rfl (by omega) (by decide) rfl ?_
      refine mm_T.s rfl rfl rfl (fun _ => rfl) ?_
      refine mm_T.s rfl rfl rfl (fun _ => rfl) ?_
      refine mm_T.s rfl rfl rfl (fun _ => rfl) ?_
      refine mm_T.s rfl rfl rfl (fun _ => rfl) ?_
      refine mm_T.s rfl rfl rfl (fun _ => rfl) ?_
      refine mm_T.s rfl rfl rfl (fun _ => rfl) ?_
      refine mm_T.s rfl rfl rfl (fun _ => rfl) ?_
      refine mm_T.gf rfl rfl rfl rfl rfl ?_
      refine mm_T.s rfl rfl rfl (fun _ => rfl) ?_
      refine mm_T.s rfl rfl rfl (fun _ => if_neg (x_i2l0 (x_p0 hp))) ?_
      refine mm_T.s rfl rfl rfl (fun _ => rfl) ?_
      refine mm_T.isN rfl rfl rfl (by omega) (by decide) rfl ?_
      refine mm_T.s rfl rfl rfl (fun _ => rfl) ?_
      refine mm_T.s rfl rfl rfl (fun _ => rfl) ?_
      exact K _ _ ⟨_, _, _, _, nI_1 i, hn, rfl, rfl⟩
  · skip
    rintro _ _ ⟨x5, y6, y7, wo1, rfl, hw, rfl, rfl⟩
    refine mm_T.s rfl rfl rfl (fun _ => rfl) ?_
    refine mm_T.s rfl rfl rfl (fun _ => rfl) ?_
    refine mm_T.gf rfl rfl rfl rfl rfl ?_
    refine mm_T.s rfl rfl rfl (fun _ => if_pos (nI_le (Nat.le_refl _) (by omega))) ?_
    exact mm_T.ret rfl rfl rfl (⟨rfl, _, fun a b ha hb => (by
            rw [hw a b ha hb]
            show _ = if a = r then _ else _
            by_cases e : a = r
            · rw [if_pos ⟨e, hb⟩, if_pos e]
            · rw [if_neg (fun q => e q.1), if_neg e]), rfl⟩)
/-- Euclid's steps -/
def x_ie : Nat → Int64 → Int64 → Int64 → Int64 → Int64
  | 0, _, _, ga, _ => ga
  | n + 1, a, b, ga, gb => if b = 0 then ga else x_ie n b (a - a / b * b) gb (ga - a / b * gb)
def x_icv (p x : Int32) : Int64 := if 0 ≤ x_ie 100 x.toInt64 p.toInt64 1 0 then x_ie 100 x.toInt64 p.toInt64 1 0 else x_ie 100 x.toInt64 p.toInt64 1 0 + p.toInt64
theorem q_inv79 {pl0 ke0 sz0 se0 gr0 pl1 ke1 sz1 se1 gr1 im ce wo pv fa pm pw fr ba : Nat → Int32} {rw : Nat → Int64} {ro co : Int32} {mi : Int64} {ki : Int32} {M : mm_H} {p x : Int32} {a b ga gb : Int64} {x10 y11 y12 y13 y14 y15 y16 : Option Value} (he : x_ie 100 x.toInt64 p.toInt64 1 0 = ga) : mm_T kM none 25 79 [some (.ref 14), some (.int x), some (.long a), none, some (.long b), none, some (.long ga), none, some (.long gb), none, x10, y11, y12, y13, y14, y15, y16] [] (kC pl0 ke0 sz0 se0 gr0 pl1 ke1 sz1 se1 gr1 im ce wo pv fa pm pw fr ba rw ro co p mi ki M) (fun v h => v = some (.long (x_icv p x)) ∧ h = (kC pl0 ke0 sz0 se0 gr0 pl1 ke1 sz1 se1 gr1 im ce wo pv fa pm pw fr ba rw ro co p mi ki M)) := by
  have ex : x_icv p x = if 0 ≤ ga then ga else ga + p.toInt64 := by
    unfold x_icv
    rw [he]
  refine mm_T.s rfl rfl rfl (fun _ => rfl) ?_
  refine mm_T.s rfl rfl rfl (fun _ => rfl) ?_
  refine mm_T.s rfl rfl rfl (fun _ => rfl) ?_
  refine mm_T.cz rfl rfl (fun hb83 => ?_) (fun hb83 => ?_)
  · skip
    rw [if_pos ((lg_cmp_ge ga 0).mp hb83)] at ex
    refine mm_T.s rfl rfl rfl (fun _ => rfl) ?_
    exact mm_T.ret rfl rfl rfl (⟨by rw [ex], rfl⟩)
  · skip
    rw [if_neg (fun q => hb83 ((lg_cmp_ge ga 0).mpr q))] at ex
    refine mm_T.s rfl rfl rfl (fun _ => rfl) ?_
    refine mm_T.s rfl rfl rfl (fun _ => rfl) ?_
    refine mm_T.gf rfl rfl rfl rfl rfl ?_
    refine mm_T.s rfl rfl rfl (fun _ => rfl) ?_
    refine mm_T.s rfl rfl rfl (fun _ => rfl) ?_
    refine mm_T.s rfl rfl rfl (fun _ => rfl) ?_
    exact mm_T.ret rfl rfl rfl (⟨by rw [ex], rfl⟩)
theorem q_inv {pl0 ke0 sz0 se0 gr0 pl1 ke1 sz1 se1 gr1 im ce wo pv fa pm pw fr ba : Nat → Int32} {rw : Nat → Int64} {ro co : Int32} {mi : Int64} {ki : Int32} {M : mm_H} {p : Int32} (x : Int32) : mm_TC kM 25 [.ref 14, .int x] (kC pl0 ke0 sz0 se0 gr0 pl1 ke1 sz1 se1 gr1 im ce wo pv fa pm pw fr ba rw ro co p mi ki M) (fun v h => v = some (.long (x_icv p x)) ∧ h = (kC pl0 ke0 sz0 se0 gr0 pl1 ke1 sz1 se1 gr1 im ce wo pv fa pm pw fr ba rw ro co p mi ki M)) := by
  refine mm_TC.of (M := kq_25) rfl rfl ?_
  refine mm_T.s rfl rfl rfl (fun _ => rfl) ?_
  refine mm_T.s rfl rfl rfl (fun _ => rfl) ?_
  refine mm_T.s rfl rfl rfl (fun _ => rfl) ?_
  refine mm_T.s rfl rfl rfl (fun _ => rfl) ?_
  refine mm_T.gf rfl rfl rfl rfl rfl ?_
  refine mm_T.s rfl rfl rfl (fun _ => rfl) ?_
  refine mm_T.s rfl rfl rfl (fun _ => rfl) ?_
  refine mm_T.s rfl rfl rfl (fun _ => rfl) ?_
  refine mm_T.s rfl rfl rfl (fun _ => rfl) ?_
  refine mm_T.s rfl rfl rfl (fun _ => rfl) ?_
  refine mm_T.s rfl rfl rfl (fun _ => rfl) ?_
  refine mm_T.s rfl rfl rfl (fun _ => rfl) ?_
  refine mm_T.s rfl rfl rfl (fun _ => rfl) ?_
  refine mm_T.up (n := 100) (P := fun i L h => ∃ a b ga gb x10 y11 y12 y13 y14 y15 y16, x10 = nI i ∧ x_ie (100 - i) a b ga gb = x_ie 100 x.toInt64 p.toInt64 1 0 ∧ L = [some (.ref 14), some (.int x), some (.long a), none, some (.long b), none, some (.long ga), none, some (.long gb), none, some (.int x10), y11, y12, y13, y14, y15, y16] ∧ h = (kC pl0 ke0 sz0 se0 gr0 pl1 ke1 sz1 se1 gr1 im ce wo pv fa pm pw fr ba rw ro co p mi ki M)) ?_ ?_ 0 (Nat.zero_le _) _ _ ⟨_, _, _, _, _, _, _, _, _, _, _, rfl, rfl, rfl, rfl⟩
  · skip
    rintro i _ _ hi ⟨a, b, ga, gb, x10, y11, y12, y13, y14, y15, y16, rfl, he, rfl, rfl⟩ K
    have ed : x_ie (100 - i) a b ga gb = if b = 0 then ga else x_ie (100 - (i + 1)) b (a - a / b * b) gb (ga - a / b * gb) := by
      rw [show 100 - i = 100 - (i + 1) + 1 by omega]
      rfl
    refine mm_T.s rfl rfl rfl (fun _ => rfl) ?_
    refine mm_T.s rfl rfl rfl (fun _ => rfl) ?_
    refine mm_T.s rfl rfl rfl (fun _ => if_neg (nI_ge (b := 100) hi (by decide))) ?_
    refine mm_T.s rfl rfl rfl (fun _ => rfl) ?_
    refine mm_T.s rfl rfl rfl (fun _ => rfl) ?_
    refine mm_T.s rfl rfl rfl (fun _ => rfl) ?_
    refine mm_T.cz rfl rfl (fun hb30 => ?_) (fun hb30 => ?_)
    · skip
      rw [if_pos (x_lz hb30)] at ed
      rw [he] at ed
      exact q_inv79 ed
    · skip
      rw [if_neg (x_lnz hb30)] at ed
      refine mm_T.s rfl rfl rfl (fun _ => rfl) ?_
      refine mm_T.s rfl rfl rfl (fun _ => rfl) ?_
      refine mm_T.s rfl rfl rfl (fun _ => if_neg (x_lnz hb30)) ?_
      refine mm_T.s rfl rfl rfl (fun _ => rfl) ?_
      refine mm_T.s rfl rfl rfl (fun _ => rfl) ?_
      refine mm_T.s rfl rfl rfl (fun _ => rfl) ?_
      refine mm_T.s rfl rfl rfl (fun _ => rfl) ?_
      refine mm_T.s rfl rfl rfl (fun _ => rfl) ?_
      refine mm_T.s rfl rfl rfl (fun _ => rfl) ?_
      refine mm_T.s rfl rfl rfl (fun _ => rfl) ?_
      refine mm_T.s rfl rfl rfl (fun _ => rfl) ?_
      refine mm_T.s rfl rfl rfl (fun _ => rfl) ?_
      refine mm_T.s rfl rfl rfl (fun _ => rfl) ?_
      refine mm_T.s rfl rfl rfl (fun _ => rfl) ?_
      refine mm_T.s rfl rfl rfl (fun _ => rfl) ?_
      refine mm_T.s rfl rfl rfl (fun _ => rfl) ?_
      refine mm_T.s rfl rfl rfl (fun _ => rfl) ?_
      refine mm_T.s rfl rfl rfl (fun _ => rfl) ?_
      refine mm_T.s rfl rfl rfl (fun _ => rfl) ?_
      refine mm_T.s rfl rfl rfl (fun _ => rfl) ?_
      refine mm_T.s rfl rfl rfl (fun _ => rfl) ?_
      refine mm_T.s rfl rfl rfl (fun _ => rfl) ?_
      refine mm_T.s rfl rfl rfl (fun _ => rfl) ?_
      refine mm_T.s rfl rfl rfl (fun _ => rfl) ?_
      refine mm_T.s rfl rfl rfl (fun _ => rfl) ?_
      refine mm_T.s rfl rfl rfl (fun _ => rfl) ?_
      exact K _ _ ⟨_, _, _, _, _, _, _, _, _, _, _, nI_1 i, ed.symm.trans he, rfl, rfl⟩
  · skip
    rintro _ _ ⟨a, b, ga, gb, x10, y11, y12, y13, y14, y15, y16, rfl, he, rfl, rfl⟩
    refine mm_T.s rfl rfl rfl (fun _ => rfl) ?_
    refine mm_T.s rfl rfl rfl (fun _ => rfl) ?_
    refine mm_T.s rfl rfl rfl (fun _ => rfl) ?_
    exact q_inv79 he.symm
/-- the counter's inverse, as a function of whole numbers -/
def x_IC (p : Int32) (iv : Int → Int) : Prop := ∀ x : Int32, 0 < x.toInt → x.toInt < p.toInt → (x_icv p x).toInt = iv x.toInt ∧ 0 ≤ iv x.toInt ∧ iv x.toInt < p.toInt
theorem q_clear {pl0 ke0 sz0 se0 gr0 pl1 ke1 sz1 se1 gr1 im ce wo pv fa pm pw fr ba : Nat → Int32} {rw : Nat → Int64} {mi : Int64} {ki : Int32} {M : mm_H} {R C : Nat} (hR : R ≤ 48) (hC : C ≤ 48) {p : Int32} (hp : 0 < p.toInt) {iv : Int → Int} (hiv : x_IC p iv) {E : Nat → Nat → Int} (hcw : x_cw R C wo E) (hr : ∀ a b, a < R → b < C → 0 ≤ E a b ∧ E a b < p.toInt) {t col : Nat} (ht : t < R) (hcol : col < C) (hnz : E t col ≠ 0) : mm_TC kM 23 [.ref 14, .int (nI t), .int (nI col), .int 1] (kC pl0 ke0 sz0 se0 gr0 pl1 ke1 sz1 se1 gr1 im ce wo pv fa pm pw fr ba rw (nI R) (nI C) p mi ki M) (fun v h => v = none ∧ ∃ wo1, x_cw R C wo1 (x_el p.toInt iv E t col) ∧ h = (kC pl0 ke0 sz0 se0 gr0 pl1 ke1 sz1 se1 gr1 im ce wo1 pv fa pm pw fr ba rw (nI R) (nI C) p mi ki M)) := by
  have z0 := hcw t col ht hcol
  have r0 := hr t col ht hcol
  obtain ⟨hivc, hivr⟩ := hiv (wo (t * 48 + col)) (by rw [z0]; omega) (by rw [z0]; exact r0.2)
  rw [z0] at hivc hivr
  refine mm_TC.of (M := kq_23) rfl rfl ?_
  refine mm_T.s rfl rfl rfl (fun _ => rfl) ?_
  refine mm_T.s rfl rfl rfl (fun _ => rfl) ?_
  refine mm_T.gf rfl rfl rfl rfl rfl ?_
  refine mm_T.s rfl rfl rfl (fun _ => rfl) ?_
  refine mm_T.s rfl rfl rfl (fun _ => rfl) ?_
  refine mm_T.s rfl rfl rfl (fun _ => rfl) ?_
  refine mm_T.s rfl rfl rfl (fun _ => rfl) ?_
  refine mm_T.s rfl rfl rfl (fun _ => rfl) ?_
  refine mm_T.ti _ (x_48e _ _) ?_
  refine mm_T.iaN rfl rfl rfl (by omega) (by decide) rfl ?_
  refine mm_T.s rfl rfl rfl (fun _ => rfl) ?_
  refine mm_T.s rfl rfl rfl (fun _ => rfl) ?_
  refine mm_T.ti _ (x_d1 _) ?_
  refine mm_T.ivw rfl rfl rfl rfl rfl rfl (q_inv _) ?_
  rintro _ _ ⟨rfl, rfl⟩
  refine mm_T.s rfl rfl rfl (fun _ => rfl) ?_
  refine mm_T.s rfl rfl rfl (fun _ => rfl) ?_
  refine mm_T.s rfl rfl rfl (fun _ => rfl) ?_
  refine mm_T.s rfl rfl rfl (fun _ => rfl) ?_
  refine mm_T.ti _ (nI_1 t) ?_
  refine mm_T.s rfl rfl rfl (fun _ => rfl) ?_
  refine mm_T.up (n := R) (P := fun i L h => ∃ x6 y7 wo1, t < i ∧ x6 = nI i ∧ x_cw R C wo1 (fun a b => if t < a ∧ a < i then x_el p.toInt iv E t col a b else E a b) ∧ L = [some (.ref 14), some (.int (nI t)), some (.int (nI col)), some (.int 1), some (.long (x_icv p (wo (t * 48 + col)))), none, some (.int x6), y7] ∧ h = (kC pl0 ke0 sz0 se0 gr0 pl1 ke1 sz1 se1 gr1 im ce wo1 pv fa pm pw fr ba rw (nI R) (nI C) p mi ki M)) ?_ ?_ (t + 1) ht _ _ ⟨_, _, _, by omega, rfl, fun a b ha hb => (by rw [hcw a b ha hb]; exact (if_neg (by omega)).symm), rfl, rfl⟩
  · skip
    rintro i _ _ hi ⟨x6, y7, wo1, hti, rfl, hw, rfl, rfl⟩ K
    have z1 : (wo1 (i * 48 + col)).toInt = E i col := (hw i col hi hcol).trans (if_neg (by omega))
    have r1 := hr i col hi hcol
    have hrg : ∀ a b, a < R → b < C → 0 ≤ (fun a b => if t < a ∧ a < i then x_el p.toInt iv E t col a b else E a b) a b ∧ (fun a b => if t < a ∧ a < i then x_el p.toInt iv E t col a b else E a b) a b < p.toInt := fun a b ha hb => by
      show 0 ≤ (if t < a ∧ a < i then _ else _) ∧ (if t < a ∧ a < i then _ else _) < p.toInt
      split
      · rename_i q
        unfold x_el
        rw [if_pos q.1]
        exact ⟨Int.emod_nonneg _ (by omega), Int.emod_lt_of_pos _ hp⟩
      · exact hr a b ha hb
    refine mm_T.s rfl rfl rfl (fun _ => rfl) ?_
    refine mm_T.s rfl rfl rfl (fun _ => rfl) ?_
    refine mm_T.gf rfl rfl rfl rfl rfl ?_
    refine mm_T.s rfl rfl rfl (fun _ => if_neg (nI_ge hi (by omega))) ?_
    refine mm_T.s rfl rfl rfl (fun _ => rfl) ?_
    refine mm_T.gf rfl rfl rfl rfl rfl ?_
    refine mm_T.s rfl rfl rfl (fun _ => rfl) ?_
    refine mm_T.s rfl rfl rfl (fun _ => rfl) ?_
    refine mm_T.s rfl rfl rfl (fun _ => rfl) ?_
    refine mm_T.s rfl rfl rfl (fun _ => rfl) ?_
    refine mm_T.s rfl rfl rfl (fun _ => rfl) ?_
    refine mm_T.ti _ (x_48e _ _) ?_
    refine mm_T.iaN rfl rfl rfl (by omega) (by decide) rfl ?_
    refine mm_T.s rfl rfl rfl (fun _ => rfl) ?_
    refine mm_T.s rfl rfl rfl (fun _ => rfl) ?_
    refine mm_T.cz rfl rfl (fun hb49 => ?_) (fun hb49 => ?_)
    · skip
      have hz0 : E i col = 0 := by
        rw [← z1]
        exact congrArg Int32.toInt hb49
      have hn : x_cw R C wo1 (fun a b => if t < a ∧ a < (i + 1) then x_el p.toInt iv E t col a b else E a b) := fun a b ha hb => by
        rw [hw a b ha hb]
        show (if t < a ∧ a < i then _ else _) = (if t < a ∧ a < i + 1 then _ else _)
        by_cases e : t < a ∧ a < i
        · rw [if_pos e, if_pos ⟨e.1, by omega⟩]
        · rw [if_neg e]
          by_cases e2 : t < a ∧ a < i + 1
          · have e3 : a = i := by omega
            have r3 := hr i b hi hb
            rw [if_pos e2, e3]
            unfold x_el
            rw [if_pos hti, hz0, Int.zero_mul, Int.zero_emod, Int.zero_mul, Int.sub_zero, Int.emod_eq_of_lt r3.1 r3.2]
          · rw [if_neg e2]
      refine mm_T.s rfl rfl rfl (fun _ => rfl) ?_
      refine mm_T.s rfl rfl rfl (fun _ => rfl) ?_
      exact K _ _ ⟨_, _, _, by omega, nI_1 i, hn, rfl, rfl⟩
    · skip
      have htm := x_tm (u := wo1 (i * 48 + col)) (p := p) (z := x_icv p (wo (t * 48 + col))) (by rw [z1]; exact r1) (by rw [hivc]; exact hivr)
      have htr : 0 ≤ (p.toInt64 - ((wo1 (i * 48 + col)).toInt64 * x_icv p (wo (t * 48 + col)) - (wo1 (i * 48 + col)).toInt64 * x_icv p (wo (t * 48 + col)) / p.toInt64 * p.toInt64)).toInt ∧ (p.toInt64 - ((wo1 (i * 48 + col)).toInt64 * x_icv p (wo (t * 48 + col)) - (wo1 (i * 48 + col)).toInt64 * x_icv p (wo (t * 48 + col)) / p.toInt64 * p.toInt64)).toInt ≤ p.toInt := by
        rw [htm]
        have q0 := Int.emod_nonneg ((wo1 (i * 48 + col)).toInt * (x_icv p (wo (t * 48 + col))).toInt) (show p.toInt ≠ 0 by omega)
        have q1 := Int.emod_lt_of_pos ((wo1 (i * 48 + col)).toInt * (x_icv p (wo (t * 48 + col))).toInt) hp
        omega
      refine mm_T.s rfl rfl rfl (fun _ => rfl) ?_
      refine mm_T.s rfl rfl rfl (fun _ => rfl) ?_
      refine mm_T.s rfl rfl rfl (fun _ => rfl) ?_
      refine mm_T.s rfl rfl rfl (fun _ => rfl) ?_
      refine mm_T.gf rfl rfl rfl rfl rfl ?_
      refine mm_T.s rfl rfl rfl (fun _ => rfl) ?_
      refine mm_T.s rfl rfl rfl (fun _ => rfl) ?_
      refine mm_T.s rfl rfl rfl (fun _ => rfl) ?_
      refine mm_T.s rfl rfl rfl (fun _ => rfl) ?_
      refine mm_T.ti _ (x_d1 _) ?_
      refine mm_T.s rfl rfl rfl (fun _ => rfl) ?_
      refine mm_T.s rfl rfl rfl (fun _ => rfl) ?_
      refine mm_T.s rfl rfl rfl (fun _ => rfl) ?_
      refine mm_T.s rfl rfl rfl (fun _ => rfl) ?_
      refine mm_T.gf rfl rfl rfl rfl rfl ?_
      refine mm_T.s rfl rfl rfl (fun _ => rfl) ?_
      refine mm_T.s rfl rfl rfl (fun _ => if_neg (x_i2l0 (x_p0 hp))) ?_
      refine mm_T.s rfl rfl rfl (fun _ => rfl) ?_
      refine mm_T.ivw rfl rfl rfl rfl rfl rfl (q_addRow hR hC hp hw hrg hi ht (by omega) htr) ?_
      rintro _ _ ⟨rfl, wo2, hw2, rfl⟩
      have hn : x_cw R C wo2 (fun a b => if t < a ∧ a < (i + 1) then x_el p.toInt iv E t col a b else E a b) := fun a b ha hb => by
        rw [hw2 a b ha hb]
        show (if a = i then ((if t < i ∧ i < i then _ else E i b) + _ * (if t < t ∧ t < i then _ else E t b)) % p.toInt else (if t < a ∧ a < i then _ else _)) = (if t < a ∧ a < i + 1 then _ else _)
        by_cases e : a = i
        · rw [if_pos e, if_neg (by omega), if_neg (by omega), if_pos (by omega), htm, z1, hivc, e, x_el_add hp]
          unfold x_el
          rw [if_pos hti]
        · rw [if_neg e]
          by_cases e2 : t < a ∧ a < i
          · rw [if_pos e2, if_pos ⟨e2.1, by omega⟩]
          · rw [if_neg e2, if_neg (by omega)]
      refine mm_T.s rfl rfl rfl (fun _ => rfl) ?_
      refine mm_T.s rfl rfl rfl (fun _ => rfl) ?_
      exact K _ _ ⟨_, _, _, by omega, nI_1 i, hn, rfl, rfl⟩
  · skip
    rintro _ _ ⟨x6, y7, wo1, hti, rfl, hw, rfl, rfl⟩
    refine mm_T.s rfl rfl rfl (fun _ => rfl) ?_
    refine mm_T.s rfl rfl rfl (fun _ => rfl) ?_
    refine mm_T.gf rfl rfl rfl rfl rfl ?_
    refine mm_T.s rfl rfl rfl (fun _ => if_pos (nI_le (Nat.le_refl _) (by omega))) ?_
    exact mm_T.ret rfl rfl rfl (⟨rfl, _, fun a b ha hb => (by
            rw [hw a b ha hb]
            show (if t < a ∧ a < R then _ else _) = _
            by_cases e : t < a
            · rw [if_pos ⟨e, ha⟩]
            · rw [if_neg (fun q => e q.1)]
              unfold x_el
              rw [if_neg e]), rfl⟩)
theorem q_elim {pl0 ke0 sz0 se0 gr0 pl1 ke1 sz1 se1 gr1 im ce wo pv fa pm pw fr ba : Nat → Int32} {rw : Nat → Int64} {mo : Int32} {mi : Int64} {ki : Int32} {M : mm_H} {R C : Nat} (hR : R ≤ 48) (hC : C ≤ 48) {p : Int32} (hp : 0 < p.toInt) {iv : Int → Int} (hiv : x_IC p iv) (hiv2 : ∀ x, 0 < x → x < p.toInt → iv x * x % p.toInt = 1 % p.toInt) : mm_TC kM 19 [.ref 14, .int p, .int 1] (kC pl0 ke0 sz0 se0 gr0 pl1 ke1 sz1 se1 gr1 im ce wo pv fa pm pw fr ba rw (nI R) (nI C) mo mi ki M) (fun v h => v = some (.int (nI (x_st R p.toInt iv (fun a b => (ce (a * 48 + b)).toInt % p.toInt) C).2)) ∧ ∃ wo1 pv1 mi1, h = (kC pl0 ke0 sz0 se0 gr0 pl1 ke1 sz1 se1 gr1 im ce wo1 pv1 fa pm pw fr ba rw (nI R) (nI C) p mi1 ki M)) := by
  have hE : ∀ a b, a < R → b < C → 0 ≤ (fun a b => (ce (a * 48 + b)).toInt % p.toInt) a b ∧ (fun a b => (ce (a * 48 + b)).toInt % p.toInt) a b < p.toInt := fun a b _ _ => ⟨Int.emod_nonneg _ (by omega), Int.emod_lt_of_pos _ hp⟩
  refine mm_TC.of (M := kq_19) rfl rfl ?_
  refine mm_T.s rfl rfl rfl (fun _ => rfl) ?_
  refine mm_T.s rfl rfl rfl (fun _ => rfl) ?_
  refine mm_T.s rfl rfl rfl (fun _ => rfl) ?_
  refine mm_T.ivw rfl rfl rfl rfl rfl rfl (q_load hR hC hp) ?_
  rintro _ _ ⟨rfl, wo0, hw0, rfl⟩
  refine mm_T.s rfl rfl rfl (fun _ => rfl) ?_
  refine mm_T.s rfl rfl rfl (fun _ => rfl) ?_
  refine mm_T.pfl rfl rfl rfl rfl rfl rfl ?_
  refine mm_T.s rfl rfl rfl (fun _ => rfl) ?_
  refine mm_T.s rfl rfl rfl (fun _ => rfl) ?_
  refine mm_T.s rfl rfl rfl (fun _ => rfl) ?_
  refine mm_T.s rfl rfl rfl (fun _ => rfl) ?_
  refine mm_T.s rfl rfl rfl (fun _ => rfl) ?_
  refine mm_T.s rfl rfl rfl (fun _ => rfl) ?_
  refine mm_T.s rfl rfl rfl (fun _ => rfl) ?_
  refine mm_T.s rfl rfl rfl (fun _ => rfl) ?_
  refine mm_T.s rfl rfl rfl (fun _ => rfl) ?_
  refine mm_T.s rfl rfl rfl (fun _ => rfl) ?_
  refine mm_T.s rfl rfl rfl (fun _ => rfl) ?_
  refine mm_T.s rfl rfl rfl (fun _ => rfl) ?_
  refine mm_T.s rfl rfl rfl (fun _ => rfl) ?_
  refine mm_T.up (n := C) (P := fun i L h => ∃ x3 x7 y8 wo1 mi1, x3 = nI (x_st R p.toInt iv (fun a b => (ce (a * 48 + b)).toInt % p.toInt) i).2 ∧ x7 = nI i ∧ x_cw R C wo1 (x_st R p.toInt iv (fun a b => (ce (a * 48 + b)).toInt % p.toInt) i).1 ∧ L = [some (.ref 14), some (.int p), some (.int 1), some (.int x3), some (.int 1), some (.int 0), some (.int 0), some (.int x7), y8] ∧ h = (kC pl0 ke0 sz0 se0 gr0 pl1 ke1 sz1 se1 gr1 im ce wo1 pv fa pm pw fr ba rw (nI R) (nI C) p mi1 ki M)) ?_ ?_ 0 (Nat.zero_le _) _ _ ⟨_, _, _, _, _, rfl, rfl, hw0, rfl, rfl⟩
  · skip
    rintro i _ _ hi ⟨x3, x7, y8, wo1, mi1, rfl, rfl, hw, rfl, rfl⟩ K
    obtain ⟨s1, s2, s3⟩ := x_SI_all hp hE hiv2 i (by omega)
    have hpr := x_pv_R (x_st R p.toInt iv (fun a b => (ce (a * 48 + b)).toInt % p.toInt) i) s1 i
    have es : (x_st R p.toInt iv (fun a b => (ce (a * 48 + b)).toInt % p.toInt) (i + 1)) = x_s1 R p.toInt iv i (x_st R p.toInt iv (fun a b => (ce (a * 48 + b)).toInt % p.toInt) i) := rfl
    unfold x_s1 at es
    refine mm_T.s rfl rfl rfl (fun _ => rfl) ?_
    refine mm_T.s rfl rfl rfl (fun _ => rfl) ?_
    refine mm_T.gf rfl rfl rfl rfl rfl ?_
    refine mm_T.s rfl rfl rfl (fun _ => if_neg (nI_ge hi (by omega))) ?_
    refine mm_T.s rfl rfl rfl (fun _ => rfl) ?_
    refine mm_T.s rfl rfl rfl (fun _ => rfl) ?_
    refine mm_T.s rfl rfl rfl (fun _ => rfl) ?_
    refine mm_T.s rfl rfl rfl (fun _ => rfl) ?_
    refine mm_T.s rfl rfl rfl (fun _ => rfl) ?_
    refine mm_T.s rfl rfl rfl (fun _ => rfl) ?_
    refine mm_T.ti _ (Int32.one_mul p) ?_
    refine mm_T.ivw rfl rfl rfl rfl rfl rfl (q_pivot hR hC hp hw s2 s1 hi) ?_
    rintro _ _ ⟨rfl, rfl⟩
    refine mm_T.s rfl rfl rfl (fun _ => rfl) ?_
    refine mm_T.s rfl rfl rfl (fun _ => rfl) ?_
    refine mm_T.s rfl rfl rfl (fun _ => rfl) ?_
    refine mm_T.gf rfl rfl rfl rfl rfl ?_
    refine mm_T.ci rfl rfl (fun hb59 => ?_) (fun hb59 => ?_)
    · skip
      have hb59 : R ≤ x_pv (x_st R p.toInt iv (fun a b => (ce (a * 48 + b)).toInt % p.toInt) i).1 i (R - (x_st R p.toInt iv (fun a b => (ce (a * 48 + b)).toInt % p.toInt) i).2) (x_st R p.toInt iv (fun a b => (ce (a * 48 + b)).toInt % p.toInt) i).2 := (nI_leI (by omega) (by omega)).mp hb59
      rw [if_neg (by omega)] at es
      have e3 : nI (x_st R p.toInt iv (fun a b => (ce (a * 48 + b)).toInt % p.toInt) i).2 = nI (x_st R p.toInt iv (fun a b => (ce (a * 48 + b)).toInt % p.toInt) (i + 1)).2 := by rw [es]
      have hn : x_cw R C wo1 (x_st R p.toInt iv (fun a b => (ce (a * 48 + b)).toInt % p.toInt) (i + 1)).1 := by rw [es]; exact hw
      refine mm_T.s rfl rfl rfl (fun _ => rfl) ?_
      refine mm_T.s rfl rfl rfl (fun _ => rfl) ?_
      exact K _ _ ⟨_, _, _, _, _, e3, nI_1 i, hn, rfl, rfl⟩
    · skip
      have hb59 : x_pv (x_st R p.toInt iv (fun a b => (ce (a * 48 + b)).toInt % p.toInt) i).1 i (R - (x_st R p.toInt iv (fun a b => (ce (a * 48 + b)).toInt % p.toInt) i).2) (x_st R p.toInt iv (fun a b => (ce (a * 48 + b)).toInt % p.toInt) i).2 < R := Nat.lt_of_not_le (fun q => hb59 (nI_le q (by omega)))
      rw [if_pos hb59] at es
      have hnz := x_pv_nz (x_st R p.toInt iv (fun a b => (ce (a * 48 + b)).toInt % p.toInt) i).1 i (R - (x_st R p.toInt iv (fun a b => (ce (a * 48 + b)).toInt % p.toInt) i).2) (x_st R p.toInt iv (fun a b => (ce (a * 48 + b)).toInt % p.toInt) i).2 (by omega)
      refine mm_T.s rfl rfl rfl (fun _ => rfl) ?_
      refine mm_T.s rfl rfl rfl (fun _ => rfl) ?_
      refine mm_T.s rfl rfl rfl (fun _ => rfl) ?_
      refine mm_T.ivw rfl rfl rfl rfl rfl rfl (q_swap hR hC hw (by omega) hb59) ?_
      rintro _ _ ⟨rfl, wo2, hw2, rfl⟩
      refine mm_T.s rfl rfl rfl (fun _ => rfl) ?_
      refine mm_T.s rfl rfl rfl (fun _ => rfl) ?_
      refine mm_T.gf rfl rfl rfl rfl rfl ?_
      refine mm_T.s rfl rfl rfl (fun _ => rfl) ?_
      refine mm_T.gf rfl rfl rfl rfl rfl ?_
      refine mm_T.s rfl rfl rfl (fun _ => rfl) ?_
      refine mm_T.s rfl rfl rfl (fun _ => rfl) ?_
      refine mm_T.s rfl rfl rfl (fun _ => rfl) ?_
      refine mm_T.s rfl rfl rfl (fun _ => rfl) ?_
      refine mm_T.s rfl rfl rfl (fun _ => rfl) ?_
      refine mm_T.ti _ (x_48e _ _) ?_
      refine mm_T.iaN rfl rfl rfl (by omega) (by decide) rfl ?_
      refine mm_T.s rfl rfl rfl (fun _ => rfl) ?_
      refine mm_T.s rfl rfl rfl (fun _ => rfl) ?_
      refine mm_T.s rfl rfl rfl (fun _ => rfl) ?_
      refine mm_T.gf rfl rfl rfl rfl rfl ?_
      refine mm_T.s rfl rfl rfl (fun _ => rfl) ?_
      refine mm_T.s rfl rfl rfl (fun _ => if_neg (x_i2l0 (x_p0 hp))) ?_
      refine mm_T.pfl rfl rfl rfl rfl rfl rfl ?_
      refine mm_T.s rfl rfl rfl (fun _ => rfl) ?_
      refine mm_T.s rfl rfl rfl (fun _ => rfl) ?_
      refine mm_T.s rfl rfl rfl (fun _ => rfl) ?_
      refine mm_T.s rfl rfl rfl (fun _ => rfl) ?_
      refine mm_T.ivw rfl rfl rfl rfl rfl rfl (q_clear hR hC hp hiv hw2 (fun a b ha hb => s2 _ b (x_tw_lt (by omega) hb59 ha) hb) (by omega) hi (by show (x_st R p.toInt iv (fun a b => (ce (a * 48 + b)).toInt % p.toInt) i).1 (x_tw _ _ _) i ≠ 0; rw [x_tw_l]; exact hnz)) ?_
      rintro _ _ ⟨rfl, wo3, hw3, rfl⟩
      have e3 : nI (x_st R p.toInt iv (fun a b => (ce (a * 48 + b)).toInt % p.toInt) i).2 + 1 = nI (x_st R p.toInt iv (fun a b => (ce (a * 48 + b)).toInt % p.toInt) (i + 1)).2 := by rw [es, nI_1]
      have hn : x_cw R C wo3 (x_st R p.toInt iv (fun a b => (ce (a * 48 + b)).toInt % p.toInt) (i + 1)).1 := by rw [es]; exact hw3
      refine mm_T.s rfl rfl rfl (fun _ => rfl) ?_
      refine mm_T.s rfl rfl rfl (fun _ => rfl) ?_
      refine mm_T.s rfl rfl rfl (fun _ => rfl) ?_
      exact K _ _ ⟨_, _, _, _, _, e3, nI_1 i, hn, rfl, rfl⟩
  · skip
    rintro _ _ ⟨x3, x7, y8, wo1, mi1, rfl, rfl, hw, rfl, rfl⟩
    refine mm_T.s rfl rfl rfl (fun _ => rfl) ?_
    refine mm_T.s rfl rfl rfl (fun _ => rfl) ?_
    refine mm_T.gf rfl rfl rfl rfl rfl ?_
    refine mm_T.s rfl rfl rfl (fun _ => if_pos (nI_le (Nat.le_refl _) (by omega))) ?_
    refine mm_T.s rfl rfl rfl (fun _ => rfl) ?_
    refine mm_T.gf rfl rfl rfl rfl rfl ?_
    refine mm_T.s rfl rfl rfl (fun _ => rfl) ?_
    refine mm_T.s rfl rfl rfl (fun _ => rfl) ?_
    refine mm_T.s rfl rfl rfl (fun _ => rfl) ?_
    refine mm_T.s rfl rfl rfl (fun _ => rfl) ?_
    refine mm_T.is rfl rfl rfl (by decide) rfl ?_
    refine mm_T.s rfl rfl rfl (fun _ => rfl) ?_
    refine mm_T.s rfl rfl rfl (fun _ => rfl) ?_
    refine mm_T.s rfl rfl rfl (fun _ => rfl) ?_
    refine mm_T.s rfl rfl rfl (fun _ => rfl) ?_
    refine mm_T.s rfl rfl rfl (fun _ => rfl) ?_
    refine mm_T.s rfl rfl rfl (fun _ => rfl) ?_
    refine mm_T.s rfl rfl rfl (fun _ => rfl) ?_
    refine mm_T.s rfl rfl rfl (fun _ => rfl) ?_
    refine mm_T.s rfl rfl rfl (fun _ => rfl) ?_
    refine mm_T.s rfl rfl rfl (fun _ => rfl) ?_
    exact mm_T.ret rfl rfl rfl (⟨rfl, _, _, _, rfl⟩)
