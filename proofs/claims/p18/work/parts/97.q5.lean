/-! ELIMINATION: the reference's, modulo p -/
/-- powers by halving -/
def x_fp (p : Int64) : Nat → Int64 → Int64 → Int64 → Int64
  | 0, _, _, al => al
  | n + 1, e, w, al => if e ≤ 0 then al else x_fp p n (e / 2) (w * w - w * w / p * p) (if e - e / 2 * 2 = 1 then al * w - al * w / p * p else al)
theorem x_fp_0 {p : Int64} {n : Nat} {e w al : Int64} (h : e ≤ 0) : x_fp p n e w al = al := by
  cases n
  · rfl
  · exact if_pos h
def x_fcv (p x : Int64) : Int64 := x_fp p (p - 2).toInt.toNat (p - 2) x 1
theorem m_invE {h0 : mm_H} (x : Int64) {p : Int64} (hp : ¬ p = 0) : mm_TC kM 81 [.long x, .long p] h0 (fun v h => v = some (.long (x_fcv p x)) ∧ h = h0) := by
  refine mm_TC.of (M := kq_81) rfl rfl ?_
  refine mm_T.s rfl rfl rfl (fun _ => rfl) ?_
  refine mm_T.s rfl rfl rfl (fun _ => rfl) ?_
  refine mm_T.s rfl rfl rfl (fun _ => rfl) ?_
  refine mm_T.s rfl rfl rfl (fun _ => rfl) ?_
  refine mm_T.s rfl rfl rfl (fun _ => rfl) ?_
  refine mm_T.s rfl rfl rfl (fun _ => rfl) ?_
  refine mm_T.s rfl rfl rfl (fun _ => rfl) ?_
  refine mm_T.s rfl rfl rfl (fun _ => rfl) ?_
  refine mm_T.wf (P := fun m L h => ∃ w a e n1, m = e.toInt.toNat ∧ e.toInt.toNat ≤ n1 ∧ x_fp p n1 e w a = x_fcv p x ∧ L = [some (.long x), none, some (.long p), none, some (.long w), none, some (.long a), none, some (.long e), none] ∧ h = h0) ?_ _ _ _ ⟨_, _, _, _, rfl, Nat.le_refl _, rfl, rfl, rfl⟩
  rintro m _ _ ⟨w, a, e, n1, rfl, hn1, he, rfl, rfl⟩ K
  refine mm_T.s rfl rfl rfl (fun _ => rfl) ?_
  refine mm_T.s rfl rfl rfl (fun _ => rfl) ?_
  refine mm_T.s rfl rfl rfl (fun _ => rfl) ?_
  refine mm_T.cz rfl rfl (fun hb17 => ?_) (fun hb17 => ?_)
  · skip
    have hfin : x_fp p n1 e w a = a := x_fp_0 ((lg_cmp_le e 0).mp hb17)
    refine mm_T.s rfl rfl rfl (fun _ => rfl) ?_
    exact mm_T.ret rfl rfl rfl (⟨by rw [← hfin, he], rfl⟩)
  · skip
    obtain ⟨n, rfl⟩ : ∃ n, n1 = n + 1 := ⟨n1 - 1, by have := x_half hb17; omega⟩
    have ed : x_fp p (n + 1) e w a = if e ≤ 0 then a else x_fp p n (e / 2) (w * w - w * w / p * p) (if e - e / 2 * 2 = 1 then a * w - a * w / p * p else a) := rfl
    refine mm_T.s rfl rfl rfl (fun _ => rfl) ?_
    refine mm_T.s rfl rfl rfl (fun _ => rfl) ?_
    refine mm_T.s rfl rfl rfl (fun _ => rfl) ?_
    refine mm_T.s rfl rfl rfl (fun _ => rfl) ?_
    refine mm_T.s rfl rfl rfl (fun _ => rfl) ?_
    refine mm_T.cz rfl rfl (fun hb28 => ?_) (fun hb28 => ?_)
    · skip
      have ev : (if e - e / 2 * 2 = 1 then a * w - a * w / p * p else a) = a := if_neg (fun z => hb28 ((lg_cmp_eq _ _).mpr z))
      refine mm_T.s rfl rfl rfl (fun _ => rfl) ?_
      refine mm_T.s rfl rfl rfl (fun _ => rfl) ?_
      refine mm_T.s rfl rfl rfl (fun _ => rfl) ?_
      refine mm_T.s rfl rfl rfl (fun _ => rfl) ?_
      refine mm_T.s rfl rfl rfl (fun _ => rfl) ?_
      refine mm_T.s rfl rfl rfl (fun _ => rfl) ?_
      refine mm_T.s rfl rfl rfl (fun _ => if_neg hp) ?_
      refine mm_T.s rfl rfl rfl (fun _ => rfl) ?_
      refine mm_T.s rfl rfl rfl (fun _ => rfl) ?_
      refine mm_T.s rfl rfl rfl (fun _ => rfl) ?_
      refine mm_T.s rfl rfl rfl (fun _ => rfl) ?_
      refine mm_T.s rfl rfl rfl (fun _ => rfl) ?_
      refine mm_T.s rfl rfl rfl (fun _ => rfl) ?_
      refine K _ _ _ (x_half hb17) ⟨_, _, _, n, rfl, by have := x_half hb17; omega, ?_, rfl, rfl⟩
      rw [← he, ed, if_neg (fun z => hb17 ((lg_cmp_le e 0).mpr z)), ev]
      try rfl
    · skip
      have ev : (if e - e / 2 * 2 = 1 then a * w - a * w / p * p else a) = a * w - a * w / p * p := if_pos ((lg_cmp_eq _ _).mp (Classical.not_not.mp hb28))
      refine mm_T.s rfl rfl rfl (fun _ => rfl) ?_
      refine mm_T.s rfl rfl rfl (fun _ => rfl) ?_
      refine mm_T.s rfl rfl rfl (fun _ => rfl) ?_
      refine mm_T.s rfl rfl rfl (fun _ => rfl) ?_
      refine mm_T.s rfl rfl rfl (fun _ => if_neg hp) ?_
      refine mm_T.s rfl rfl rfl (fun _ => rfl) ?_
      refine mm_T.s rfl rfl rfl (fun _ => rfl) ?_
      refine mm_T.s rfl rfl rfl (fun _ => rfl) ?_
      refine mm_T.s rfl rfl rfl (fun _ => rfl) ?_
      refine mm_T.s rfl rfl rfl (fun _ => rfl) ?_
      refine mm_T.s rfl rfl rfl (fun _ => rfl) ?_
      refine mm_T.s rfl rfl rfl (fun _ => if_neg hp) ?_
      refine mm_T.s rfl rfl rfl (fun _ => rfl) ?_
      refine mm_T.s rfl rfl rfl (fun _ => rfl) ?_
      refine mm_T.s rfl rfl rfl (fun _ => rfl) ?_
      refine mm_T.s rfl rfl rfl (fun _ => rfl) ?_
      refine mm_T.s rfl rfl rfl (fun _ => rfl) ?_
      refine mm_T.s rfl rfl rfl (fun _ => rfl) ?_
      refine K _ _ _ (x_half hb17) ⟨_, _, _, n, rfl, by have := x_half hb17; omega, ?_, rfl, rfl⟩
      rw [← he, ed, if_neg (fun z => hb17 ((lg_cmp_le e 0).mpr z)), ev]
      try rfl
/-- the reference's work holds E -/
def x_rw (R C : Nat) (wo : Nat → Int64) (E : Nat → Nat → Int) : Prop := ∀ a b, a < R → b < C → (wo (48 * a + b)).toInt = E a b
def x_IM (p : Int64) (iv : Int → Int) : Prop := ∀ x : Int64, 0 < x.toInt → x.toInt < p.toInt → (x_fcv p x).toInt = iv x.toInt ∧ 0 ≤ iv x.toInt ∧ iv x.toInt < p.toInt
theorem x_lte {x p : Int64} (hp : 0 < p.toInt) (h : 0 ≤ x - x / p * p) : (x - x / p * p).toInt = x.toInt % p.toInt := by
  rw [Int64.le_iff_toInt_le, x_lrem, show (0 : Int64).toInt = 0 from rfl] at h
  rw [x_lrem]
  rcases x_te (x := x.toInt) hp with q | q
  · exact q.1
  · omega
theorem x_lte2 {x p : Int64} (hp : 0 < p.toInt) (h : ¬ 0 ≤ x - x / p * p) : (x - x / p * p + p).toInt = x.toInt % p.toInt := by
  rw [Int64.le_iff_toInt_le, x_lrem, show (0 : Int64).toInt = 0 from rfl] at h
  rcases x_te (x := x.toInt) hp with q | q
  · omega
  · rw [Int64.toInt_add, x_lrem, q.1]
    have q1 := Int.emod_lt_of_pos x.toInt hp
    have q0 := Int.emod_nonneg x.toInt (show p.toInt ≠ 0 by omega)
    have := p.toInt_lt
    exact Int.bmod_eq_of_le (by omega) (by omega)
theorem x_qv {u z p : Int64} (hp : p.toInt < 2 ^ 31) (hu : 0 ≤ u.toInt ∧ u.toInt < p.toInt) (hz : 0 ≤ z.toInt ∧ z.toInt < p.toInt) : (u * z - u * z / p * p).toInt = u.toInt * z.toInt % p.toInt := by
  have m0 : 0 ≤ u.toInt * z.toInt := Int.mul_nonneg hu.1 hz.1
  have m1 : u.toInt * z.toInt ≤ 2147483648 * 2147483648 := Int.mul_le_mul (by omega) (by omega) hz.1 (by decide)
  have e1 : (u * z).toInt = u.toInt * z.toInt := by
    rw [Int64.toInt_mul]
    exact Int.bmod_eq_of_le (by omega) (by omega)
  rw [x_lrem, e1, Int.tmod_eq_emod_of_nonneg m0]
theorem x_sw1 {u v q p : Int64} (hp : p.toInt < 2 ^ 31) (hu : 0 ≤ u.toInt ∧ u.toInt < p.toInt) (hv : 0 ≤ v.toInt ∧ v.toInt < p.toInt) (hq : 0 ≤ q.toInt ∧ q.toInt < p.toInt) : (u - (q * v - q * v / p * p)).toInt % p.toInt = (u.toInt - q.toInt * v.toInt) % p.toInt := by
  have e := x_qv hp hq hv
  have r0 := Int.emod_nonneg (q.toInt * v.toInt) (show p.toInt ≠ 0 by omega)
  have r1 := Int.emod_lt_of_pos (q.toInt * v.toInt) (show 0 < p.toInt by omega)
  have e2 : (u - (q * v - q * v / p * p)).toInt = u.toInt - q.toInt * v.toInt % p.toInt := by
    rw [Int64.toInt_sub, e]
    exact Int.bmod_eq_of_le (by omega) (by omega)
  rw [e2, Int.sub_emod, Int.emod_emod_of_dvd _ (Int.dvd_refl p.toInt), ← Int.sub_emod]
theorem m_sweepE {c : Nat → mm_C} {has ke f cy sp e1 e2 e3 : Nat → Int32} {ma wo dv : Nat → Int64} {di tr : Int32} {Rn Cn : Nat} (hR : Rn ≤ 48) (hC : Cn ≤ 48) {t j : Nat} (ht : t < Rn) (hj : j < Cn) {p : Int64} (hp : 0 < p.toInt) (hp31 : p.toInt < 2 ^ 31) {iv : Int → Int} (hiv : x_IM p iv) {E : Nat → Nat → Int} (hrw : x_rw Rn Cn wo E) (hr : ∀ a b, a < Rn → b < Cn → 0 ≤ E a b ∧ E a b < p.toInt) (hnz : E t j ≠ 0) (hz : ∀ b, b < j → E t b = 0) : mm_TC kM 84 [.ref 25, .int (nI t), .int (nI j), .long p] (kD c has ke f ma wo dv cy sp e1 e2 e3 (nI Rn) (nI Cn) di tr) (fun v h => v = none ∧ ∃ wo1, x_rw Rn Cn wo1 (x_el p.toInt iv E t j) ∧ h = (kD c has ke f ma wo1 dv cy sp e1 e2 e3 (nI Rn) (nI Cn) di tr)) := by
  have z9 := hrw t j ht hj
  have r9 := hr t j ht hj
  have hp0 : ¬ p = 0 := fun q => by
    rw [q] at hp
    exact absurd hp (by decide)
  obtain ⟨hivc, hivr⟩ := hiv (wo (48 * t + j)) (by rw [z9]; omega) (by rw [z9]; exact r9.2)
  rw [z9] at hivc hivr
  refine mm_TC.of (M := kq_84) rfl rfl ?_
  refine mm_T.s rfl rfl rfl (fun _ => rfl) ?_
  refine mm_T.gf rfl rfl rfl rfl rfl ?_
  refine mm_T.s rfl rfl rfl (fun _ => rfl) ?_
  refine mm_T.s rfl rfl rfl (fun _ => rfl) ?_
  refine mm_T.s rfl rfl rfl (fun _ => rfl) ?_
  refine mm_T.s rfl rfl rfl (fun _ => rfl) ?_
  refine mm_T.s rfl rfl rfl (fun _ => rfl) ?_
  refine mm_T.ti _ (x_84 _ _) ?_
  refine mm_T.laN rfl rfl rfl (by omega) (by decide) rfl ?_
  refine mm_T.s rfl rfl rfl (fun _ => rfl) ?_
  refine mm_T.icw rfl rfl rfl rfl rfl (m_invE _ hp0) ?_
  rintro _ _ ⟨rfl, rfl⟩
  refine mm_T.s rfl rfl rfl (fun _ => rfl) ?_
  refine mm_T.s rfl rfl rfl (fun _ => rfl) ?_
  refine mm_T.s rfl rfl rfl (fun _ => rfl) ?_
  refine mm_T.s rfl rfl rfl (fun _ => rfl) ?_
  refine mm_T.ti _ (nI_1 t) ?_
  refine mm_T.s rfl rfl rfl (fun _ => rfl) ?_
  refine mm_T.up (n := Rn) (P := fun i L h => ∃ x7 y8 y9 y10 y11 y12 wo1, t < i ∧ x7 = nI i ∧ x_rw Rn Cn wo1 (fun a b => if t < a ∧ a < i then x_el p.toInt iv E t j a b else E a b) ∧ L = [some (.ref 25), some (.int (nI t)), some (.int (nI j)), some (.long p), none, some (.long (x_fcv p (wo (48 * t + j)))), none, some (.int x7), y8, y9, y10, y11, y12] ∧ h = (kD c has ke f ma wo1 dv cy sp e1 e2 e3 (nI Rn) (nI Cn) di tr)) ?_ ?_ (t + 1) ht _ _ ⟨_, _, _, _, _, _, _, by omega, rfl, fun a b ha hb => (by rw [hrw a b ha hb]; exact (if_neg (by omega)).symm), rfl, rfl⟩
  · skip
    rintro i _ _ hi ⟨x7, y8, y9, y10, y11, y12, wo1, hti, rfl, hw1, rfl, rfl⟩ K
    have z0 : (wo1 (48 * i + j)).toInt = E i j := (hw1 i j hi hj).trans (if_neg (by omega))
    have hq := x_qv (u := wo1 (48 * i + j)) (z := x_fcv p (wo (48 * t + j))) hp31 (by rw [z0]; exact hr i j hi hj) (by rw [hivc]; exact hivr)
    rw [z0, hivc] at hq
    have hqr : 0 ≤ E i j * iv (E t j) % p.toInt ∧ E i j * iv (E t j) % p.toInt < p.toInt := ⟨Int.emod_nonneg _ (by omega), Int.emod_lt_of_pos _ hp⟩
    refine mm_T.s rfl rfl rfl (fun _ => rfl) ?_
    refine mm_T.s rfl rfl rfl (fun _ => rfl) ?_
    refine mm_T.gf rfl rfl rfl rfl rfl ?_
    refine mm_T.s rfl rfl rfl (fun _ => if_neg (nI_ge hi (by omega))) ?_
    refine mm_T.s rfl rfl rfl (fun _ => rfl) ?_
    refine mm_T.gf rfl rfl rfl rfl rfl ?_
    refine mm_T.s rfl rfl rfl (fun _ => rfl) ?_
    refine mm_T.s rfl rfl rfl (fun _ => rfl) ?_
    refine mm_T.s rfl rfl rfl (fun _ => rfl) ?_
    refine mm_T.s rfl rfl rfl (fun _ => rfl) ?_
    refine mm_T.s rfl rfl rfl (fun _ => rfl) ?_
    refine mm_T.ti _ (x_84 _ _) ?_
    refine mm_T.laN rfl rfl rfl (by omega) (by decide) rfl ?_
    refine mm_T.s rfl rfl rfl (fun _ => rfl) ?_
    refine mm_T.s rfl rfl rfl (fun _ => rfl) ?_
    refine mm_T.s rfl rfl rfl (fun _ => rfl) ?_
    refine mm_T.s rfl rfl rfl (fun _ => if_neg hp0) ?_
    refine mm_T.s rfl rfl rfl (fun _ => rfl) ?_
    refine mm_T.s rfl rfl rfl (fun _ => rfl) ?_
    refine mm_T.s rfl rfl rfl (fun _ => rfl) ?_
    refine mm_T.up (n := Cn) (P := fun i1 L h => ∃ x10 y11 y12 wo2, j ≤ i1 ∧ x10 = nI i1 ∧ (∀ a b, a < Rn → b < Cn → (wo2 (48 * a + b)).toInt = if t < a ∧ a < i then x_el p.toInt iv E t j a b else if a = i ∧ j ≤ b ∧ b < i1 then x_el p.toInt iv E t j a b else E a b) ∧ L = [some (.ref 25), some (.int (nI t)), some (.int (nI j)), some (.long p), none, some (.long (x_fcv p (wo (48 * t + j)))), none, some (.int (nI i)), some (.long (wo1 (48 * i + j) * x_fcv p (wo (48 * t + j)) - wo1 (48 * i + j) * x_fcv p (wo (48 * t + j)) / p * p)), none, some (.int x10), y11, y12] ∧ h = (kD c has ke f ma wo2 dv cy sp e1 e2 e3 (nI Rn) (nI Cn) di tr)) ?_ ?_ j (Nat.le_of_lt hj) _ _ ⟨_, _, _, _, Nat.le_refl _, rfl, fun a b ha hb => (hw1 a b ha hb).trans (by show (if t < a ∧ a < i then _ else _) = _; rw [if_neg (c := a = i ∧ _) (by omega)]), rfl, rfl⟩
    · skip
      rintro k _ _ hk ⟨x10, y11, y12, wo2, hjk, rfl, hw2, rfl, rfl⟩ K2
      have z1 := hw2 i k hi hk
      rw [if_neg (by omega), if_neg (by omega)] at z1
      have z2 := hw2 t k ht hk
      rw [if_neg (by omega), if_neg (by omega)] at z2
      have hx := x_sw1 (u := wo2 (48 * i + k)) (v := wo2 (48 * t + k)) (q := (wo1 (48 * i + j) * x_fcv p (wo (48 * t + j)) - wo1 (48 * i + j) * x_fcv p (wo (48 * t + j)) / p * p)) (p := p) hp31 (by rw [z1]; exact hr i k hi hk) (by rw [z2]; exact hr t k ht hk) (by rw [hq]; exact hqr)
      rw [z1, z2, hq] at hx
      have hxe : x_el p.toInt iv E t j i k = (E i k - E i j * iv (E t j) % p.toInt * E t k) % p.toInt := if_pos hti
      rw [← hxe] at hx
      refine mm_T.s rfl rfl rfl (fun _ => rfl) ?_
      refine mm_T.s rfl rfl rfl (fun _ => rfl) ?_
      refine mm_T.gf rfl rfl rfl rfl rfl ?_
      refine mm_T.s rfl rfl rfl (fun _ => if_neg (nI_ge hk (by omega))) ?_
      refine mm_T.s rfl rfl rfl (fun _ => rfl) ?_
      refine mm_T.gf rfl rfl rfl rfl rfl ?_
      refine mm_T.s rfl rfl rfl (fun _ => rfl) ?_
      refine mm_T.s rfl rfl rfl (fun _ => rfl) ?_
      refine mm_T.s rfl rfl rfl (fun _ => rfl) ?_
      refine mm_T.s rfl rfl rfl (fun _ => rfl) ?_
      refine mm_T.s rfl rfl rfl (fun _ => rfl) ?_
      refine mm_T.ti _ (x_84 _ _) ?_
      refine mm_T.laN rfl rfl rfl (by omega) (by decide) rfl ?_
      refine mm_T.s rfl rfl rfl (fun _ => rfl) ?_
      refine mm_T.s rfl rfl rfl (fun _ => rfl) ?_
      refine mm_T.gf rfl rfl rfl rfl rfl ?_
      refine mm_T.s rfl rfl rfl (fun _ => rfl) ?_
      refine mm_T.s rfl rfl rfl (fun _ => rfl) ?_
      refine mm_T.s rfl rfl rfl (fun _ => rfl) ?_
      refine mm_T.s rfl rfl rfl (fun _ => rfl) ?_
      refine mm_T.s rfl rfl rfl (fun _ => rfl) ?_
      refine mm_T.ti _ (x_84 _ _) ?_
      refine mm_T.laN rfl rfl rfl (by omega) (by decide) rfl ?_
      refine mm_T.s rfl rfl rfl (fun _ => rfl) ?_
      refine mm_T.s rfl rfl rfl (fun _ => rfl) ?_
      refine mm_T.s rfl rfl rfl (fun _ => if_neg hp0) ?_
      refine mm_T.s rfl rfl rfl (fun _ => rfl) ?_
      refine mm_T.s rfl rfl rfl (fun _ => rfl) ?_
      refine mm_T.s rfl rfl rfl (fun _ => if_neg hp0) ?_
      refine mm_T.s rfl rfl rfl (fun _ => rfl) ?_
      refine mm_T.s rfl rfl rfl (fun _ => rfl) ?_
      refine mm_T.gf rfl rfl rfl rfl rfl ?_
      refine mm_T.s rfl rfl rfl (fun _ => rfl) ?_
      refine mm_T.s rfl rfl rfl (fun _ => rfl) ?_
      refine mm_T.s rfl rfl rfl (fun _ => rfl) ?_
      refine mm_T.s rfl rfl rfl (fun _ => rfl) ?_
      refine mm_T.s rfl rfl rfl (fun _ => rfl) ?_
      refine mm_T.ti _ (x_84 _ _) ?_
      refine mm_T.s rfl rfl rfl (fun _ => rfl) ?_
      refine mm_T.s rfl rfl rfl (fun _ => rfl) ?_
      refine mm_T.s rfl rfl rfl (fun _ => rfl) ?_
      refine mm_T.cz rfl rfl (fun hb113 => ?_) (fun hb113 => ?_)
      · skip
        have hval := (x_lte hp ((lg_cmp_ge _ 0).mp hb113)).trans hx
        refine mm_T.s rfl rfl rfl (fun _ => rfl) ?_
        refine mm_T.lsN rfl rfl rfl (by omega) (by decide) rfl ?_
        refine mm_T.s rfl rfl rfl (fun _ => rfl) ?_
        refine mm_T.s rfl rfl rfl (fun _ => rfl) ?_
        exact K2 _ _ ⟨_, _, _, _, by omega, nI_1 k, fun a b ha hb => (by
          rw [x_ul2 _ (by omega) (by omega)]
          by_cases e : a = i ∧ b = k
          · rw [if_pos e, e.1, e.2, if_neg (by omega), if_pos ⟨rfl, hjk, by omega⟩]
            exact hval
          · rw [if_neg e, hw2 a b ha hb]
            by_cases e1 : t < a ∧ a < i
            · rw [if_pos e1, if_pos e1]
            · rw [if_neg e1, if_neg e1]
              by_cases e2 : a = i ∧ j ≤ b ∧ b < k
              · rw [if_pos e2, if_pos ⟨e2.1, e2.2.1, by omega⟩]
              · rw [if_neg e2, if_neg (by omega)]), rfl, rfl⟩
      · skip
        have hval := (x_lte2 hp (fun z => hb113 ((lg_cmp_ge _ 0).mpr z))).trans hx
        refine mm_T.s rfl rfl rfl (fun _ => rfl) ?_
        refine mm_T.s rfl rfl rfl (fun _ => rfl) ?_
        refine mm_T.s rfl rfl rfl (fun _ => rfl) ?_
        refine mm_T.s rfl rfl rfl (fun _ => rfl) ?_
        refine mm_T.lsN rfl rfl rfl (by omega) (by decide) rfl ?_
        refine mm_T.s rfl rfl rfl (fun _ => rfl) ?_
        refine mm_T.s rfl rfl rfl (fun _ => rfl) ?_
        exact K2 _ _ ⟨_, _, _, _, by omega, nI_1 k, fun a b ha hb => (by
          rw [x_ul2 _ (by omega) (by omega)]
          by_cases e : a = i ∧ b = k
          · rw [if_pos e, e.1, e.2, if_neg (by omega), if_pos ⟨rfl, hjk, by omega⟩]
            exact hval
          · rw [if_neg e, hw2 a b ha hb]
            by_cases e1 : t < a ∧ a < i
            · rw [if_pos e1, if_pos e1]
            · rw [if_neg e1, if_neg e1]
              by_cases e2 : a = i ∧ j ≤ b ∧ b < k
              · rw [if_pos e2, if_pos ⟨e2.1, e2.2.1, by omega⟩]
              · rw [if_neg e2, if_neg (by omega)]), rfl, rfl⟩
    · skip
      rintro _ _ ⟨x10, y11, y12, wo2, hjk, rfl, hw2, rfl, rfl⟩
      have hn : x_rw Rn Cn wo2 (fun a b => if t < a ∧ a < (i + 1) then x_el p.toInt iv E t j a b else E a b) := fun a b ha hb => by
        rw [hw2 a b ha hb]
        show _ = if t < a ∧ a < i + 1 then _ else _
        by_cases e1 : t < a ∧ a < i
        · rw [if_pos e1, if_pos ⟨e1.1, by omega⟩]
        · rw [if_neg e1]
          by_cases e2 : a = i
          · rw [if_pos (show t < a ∧ a < i + 1 by omega)]
            by_cases e3 : j ≤ b
            · rw [if_pos ⟨e2, e3, hb⟩]
            · rw [if_neg (fun z => e3 z.2.1)]
              have r3 := hr a b ha hb
              unfold x_el
              rw [if_pos (by omega), hz b (by omega), Int.mul_zero, Int.sub_zero, Int.emod_eq_of_lt r3.1 r3.2]
          · rw [if_neg (fun z => e2 z.1), if_neg (by omega)]
      refine mm_T.s rfl rfl rfl (fun _ => rfl) ?_
      refine mm_T.s rfl rfl rfl (fun _ => rfl) ?_
      refine mm_T.gf rfl rfl rfl rfl rfl ?_
      refine mm_T.s rfl rfl rfl (fun _ => if_pos (nI_le (Nat.le_refl _) (by omega))) ?_
      refine mm_T.s rfl rfl rfl (fun _ => rfl) ?_
      refine mm_T.s rfl rfl rfl (fun _ => rfl) ?_
      exact K _ _ ⟨_, _, _, _, _, _, _, by omega, nI_1 i, hn, rfl, rfl⟩
  · skip
    rintro _ _ ⟨x7, y8, y9, y10, y11, y12, wo1, hti, rfl, hw1, rfl, rfl⟩
    refine mm_T.s rfl rfl rfl (fun _ => rfl) ?_
    refine mm_T.s rfl rfl rfl (fun _ => rfl) ?_
    refine mm_T.gf rfl rfl rfl rfl rfl ?_
    refine mm_T.s rfl rfl rfl (fun _ => if_pos (nI_le (Nat.le_refl _) (by omega))) ?_
    exact mm_T.ret rfl rfl rfl (⟨rfl, _, fun a b ha hb => (by
            rw [hw1 a b ha hb]
            show (if t < a ∧ a < Rn then _ else _) = _
            by_cases e : t < a
            · rw [if_pos ⟨e, ha⟩]
            · rw [if_neg (fun q => e q.1)]
              unfold x_el
              rw [if_neg e]), rfl⟩)
theorem x_tw_c (i t a : Nat) : x_tw i t a = x_tw t i a := by
  unfold x_tw
  repeat' split
  all_goals omega
theorem m_rmE {c : Nat → mm_C} {has ke f cy sp e1 e2 e3 : Nat → Int32} {ma wo dv : Nat → Int64} {di tr : Int32} {Rn Cn : Nat} (hR : Rn ≤ 48) (hC : Cn ≤ 48) {p : Int64} (hp : 0 < p.toInt) (hp31 : p.toInt < 2 ^ 31) {iv : Int → Int} (hiv : x_IM p iv) (hiv2 : ∀ x, 0 < x → x < p.toInt → iv x * x % p.toInt = 1 % p.toInt) : mm_TC kM 83 [.ref 25, .long p] (kD c has ke f ma wo dv cy sp e1 e2 e3 (nI Rn) (nI Cn) di tr) (fun v h => v = some (.int (nI (x_st Rn p.toInt iv (fun a b => (ma (48 * a + b)).toInt % p.toInt) Cn).2)) ∧ ∃ wo1, h = (kD c has ke f ma wo1 dv cy sp e1 e2 e3 (nI Rn) (nI Cn) di tr)) := by
  have hp0 : ¬ p = 0 := fun q => by
    rw [q] at hp
    exact absurd hp (by decide)
  have hE : ∀ a b, a < Rn → b < Cn → 0 ≤ (fun a b => (ma (48 * a + b)).toInt % p.toInt) a b ∧ (fun a b => (ma (48 * a + b)).toInt % p.toInt) a b < p.toInt := fun a b _ _ => ⟨Int.emod_nonneg _ (by omega), Int.emod_lt_of_pos _ hp⟩
  refine mm_TC.of (M := kq_83) rfl rfl ?_
  refine mm_T.s rfl rfl rfl (fun _ => rfl) ?_
  refine mm_T.s rfl rfl rfl (fun _ => rfl) ?_
  refine mm_T.up (n := 2304) (P := fun i L h => ∃ x3 y4 y5 wo1, x3 = nI i ∧ (∀ q, q < i → (wo1 q).toInt = (ma q).toInt % p.toInt) ∧ L = [some (.ref 25), some (.long p), none, some (.int x3), y4, y5] ∧ h = (kD c has ke f ma wo1 dv cy sp e1 e2 e3 (nI Rn) (nI Cn) di tr)) ?_ ?_ 0 (Nat.zero_le _) _ _ ⟨_, _, _, _, rfl, fun q hq => absurd hq (Nat.not_lt_zero q), rfl, rfl⟩
  · skip
    rintro i _ _ hi ⟨x3, y4, y5, wo1, rfl, hw, rfl, rfl⟩ K
    refine mm_T.s rfl rfl rfl (fun _ => rfl) ?_
    refine mm_T.s rfl rfl rfl (fun _ => rfl) ?_
    refine mm_T.s rfl rfl rfl (fun _ => if_neg (nI_ge (b := 2304) hi (by decide))) ?_
    refine mm_T.s rfl rfl rfl (fun _ => rfl) ?_
    refine mm_T.gf rfl rfl rfl rfl rfl ?_
    refine mm_T.s rfl rfl rfl (fun _ => rfl) ?_
    refine mm_T.laN rfl rfl rfl (by omega) (by decide) rfl ?_
    refine mm_T.s rfl rfl rfl (fun _ => rfl) ?_
    refine mm_T.s rfl rfl rfl (fun _ => if_neg hp0) ?_
    refine mm_T.s rfl rfl rfl (fun _ => rfl) ?_
    refine mm_T.s rfl rfl rfl (fun _ => rfl) ?_
    refine mm_T.gf rfl rfl rfl rfl rfl ?_
    refine mm_T.s rfl rfl rfl (fun _ => rfl) ?_
    refine mm_T.s rfl rfl rfl (fun _ => rfl) ?_
    refine mm_T.s rfl rfl rfl (fun _ => rfl) ?_
    refine mm_T.s rfl rfl rfl (fun _ => rfl) ?_
    refine mm_T.cz rfl rfl (fun hb28 => ?_) (fun hb28 => ?_)
    · skip
      have hval := x_lte hp (x := ma i) ((lg_cmp_ge _ 0).mp hb28)
      refine mm_T.s rfl rfl rfl (fun _ => rfl) ?_
      refine mm_T.lsN rfl rfl rfl (by omega) (by decide) rfl ?_
      refine mm_T.s rfl rfl rfl (fun _ => rfl) ?_
      refine mm_T.s rfl rfl rfl (fun _ => rfl) ?_
      exact K _ _ ⟨_, _, _, _, nI_1 i, fun q hq => (by
        rw [x_ul]
        by_cases e : q = i
        · rw [if_pos e, e]
          exact hval
        · rw [if_neg e]
          exact hw q (by omega)), rfl, rfl⟩
    · skip
      have hval := x_lte2 hp (x := ma i) (fun z => hb28 ((lg_cmp_ge _ 0).mpr z))
      refine mm_T.s rfl rfl rfl (fun _ => rfl) ?_
      refine mm_T.s rfl rfl rfl (fun _ => rfl) ?_
      refine mm_T.s rfl rfl rfl (fun _ => rfl) ?_
      refine mm_T.s rfl rfl rfl (fun _ => rfl) ?_
      refine mm_T.lsN rfl rfl rfl (by omega) (by decide) rfl ?_
      refine mm_T.s rfl rfl rfl (fun _ => rfl) ?_
      refine mm_T.s rfl rfl rfl (fun _ => rfl) ?_
      exact K _ _ ⟨_, _, _, _, nI_1 i, fun q hq => (by
        rw [x_ul]
        by_cases e : q = i
        · rw [if_pos e, e]
          exact hval
        · rw [if_neg e]
          exact hw q (by omega)), rfl, rfl⟩
  · skip
    rintro _ _ ⟨x3, y4, y5, wo0, rfl, hw0, rfl, rfl⟩
    refine mm_T.s rfl rfl rfl (fun _ => rfl) ?_
    refine mm_T.s rfl rfl rfl (fun _ => rfl) ?_
    refine mm_T.s rfl rfl rfl (fun _ => rfl) ?_
    refine mm_T.s rfl rfl rfl (fun _ => rfl) ?_
    refine mm_T.s rfl rfl rfl (fun _ => rfl) ?_
    refine mm_T.s rfl rfl rfl (fun _ => rfl) ?_
    refine mm_T.s rfl rfl rfl (fun _ => rfl) ?_
    refine mm_T.up (n := Cn) (P := fun i L h => ∃ x3 x4 y5 wo1, x3 = nI (x_st Rn p.toInt iv (fun a b => (ma (48 * a + b)).toInt % p.toInt) i).2 ∧ x4 = nI i ∧ x_rw Rn Cn wo1 (x_st Rn p.toInt iv (fun a b => (ma (48 * a + b)).toInt % p.toInt) i).1 ∧ L = [some (.ref 25), some (.long p), none, some (.int x3), some (.int x4), y5] ∧ h = (kD c has ke f ma wo1 dv cy sp e1 e2 e3 (nI Rn) (nI Cn) di tr)) ?_ ?_ 0 (Nat.zero_le _) _ _ ⟨_, _, _, _, rfl, rfl, fun a b ha hb => hw0 _ (by omega), rfl, rfl⟩
    · skip
      rintro i _ _ hi ⟨x3, x4, y5, wo1, rfl, rfl, hrw, rfl, rfl⟩ K
      obtain ⟨s1, s2, s3⟩ := x_SI_all hp hE hiv2 i (by omega)
      have es : (x_st Rn p.toInt iv (fun a b => (ma (48 * a + b)).toInt % p.toInt) (i + 1)) = x_s1 Rn p.toInt iv i (x_st Rn p.toInt iv (fun a b => (ma (48 * a + b)).toInt % p.toInt) i) := rfl
      refine mm_T.s rfl rfl rfl (fun _ => rfl) ?_
      refine mm_T.s rfl rfl rfl (fun _ => rfl) ?_
      refine mm_T.gf rfl rfl rfl rfl rfl ?_
      refine mm_T.s rfl rfl rfl (fun _ => if_neg (nI_ge hi (by omega))) ?_
      refine mm_T.s rfl rfl rfl (fun _ => rfl) ?_
      refine mm_T.s rfl rfl rfl (fun _ => rfl) ?_
      refine mm_T.gf rfl rfl rfl rfl rfl ?_
      refine mm_T.ci rfl rfl (fun hb66 => ?_) (fun hb66 => ?_)
      · skip
        have hb66 : Rn ≤ (x_st Rn p.toInt iv (fun a b => (ma (48 * a + b)).toInt % p.toInt) i).2 := (nI_leI (by omega) (by omega)).mp hb66
        have hfull := x_st_full (R := Rn) (p := p.toInt) (iv := iv) (E := (fun a b => (ma (48 * a + b)).toInt % p.toInt)) (j := i) (by omega) (Cn - i)
        rw [show i + (Cn - i) = Cn by omega] at hfull
        have hfe : (x_st Rn p.toInt iv (fun a b => (ma (48 * a + b)).toInt % p.toInt) i).2 = (x_st Rn p.toInt iv (fun a b => (ma (48 * a + b)).toInt % p.toInt) Cn).2 := by omega
        refine mm_T.s rfl rfl rfl (fun _ => rfl) ?_
        exact mm_T.ret rfl rfl rfl (⟨by rw [← hfe], _, rfl⟩)
      · skip
        refine mm_T.s rfl rfl rfl (fun _ => rfl) ?_
        refine mm_T.s rfl rfl rfl (fun _ => rfl) ?_
        refine mm_T.up (n := Rn) (P := fun i1 L h => ∃ x5, (x_st Rn p.toInt iv (fun a b => (ma (48 * a + b)).toInt % p.toInt) i).2 ≤ i1 ∧ x5 = nI i1 ∧ x_pv (x_st Rn p.toInt iv (fun a b => (ma (48 * a + b)).toInt % p.toInt) i).1 i (Rn - i1) i1 = x_pv (x_st Rn p.toInt iv (fun a b => (ma (48 * a + b)).toInt % p.toInt) i).1 i (Rn - (x_st Rn p.toInt iv (fun a b => (ma (48 * a + b)).toInt % p.toInt) i).2) (x_st Rn p.toInt iv (fun a b => (ma (48 * a + b)).toInt % p.toInt) i).2 ∧ L = [some (.ref 25), some (.long p), none, some (.int (nI (x_st Rn p.toInt iv (fun a b => (ma (48 * a + b)).toInt % p.toInt) i).2)), some (.int (nI i)), some (.int x5)] ∧ h = (kD c has ke f ma wo1 dv cy sp e1 e2 e3 (nI Rn) (nI Cn) di tr)) ?_ ?_ (x_st Rn p.toInt iv (fun a b => (ma (48 * a + b)).toInt % p.toInt) i).2 s1 _ _ ⟨_, Nat.le_refl _, rfl, rfl, rfl, rfl⟩
        · skip
          rintro r _ _ hr ⟨x5, hsr, rfl, hpv, rfl, rfl⟩ K2
          have hw := hrw r i hr hi
          have ed : x_pv (x_st Rn p.toInt iv (fun a b => (ma (48 * a + b)).toInt % p.toInt) i).1 i (Rn - r) r = if (x_st Rn p.toInt iv (fun a b => (ma (48 * a + b)).toInt % p.toInt) i).1 r i = 0 then x_pv (x_st Rn p.toInt iv (fun a b => (ma (48 * a + b)).toInt % p.toInt) i).1 i (Rn - (r + 1)) (r + 1) else r := by
            rw [show Rn - r = Rn - (r + 1) + 1 by omega]
            rfl
          refine mm_T.s rfl rfl rfl (fun _ => rfl) ?_
          refine mm_T.s rfl rfl rfl (fun _ => rfl) ?_
          refine mm_T.gf rfl rfl rfl rfl rfl ?_
          refine mm_T.s rfl rfl rfl (fun _ => if_neg (nI_ge hr (by omega))) ?_
          refine mm_T.s rfl rfl rfl (fun _ => rfl) ?_
          refine mm_T.gf rfl rfl rfl rfl rfl ?_
          refine mm_T.s rfl rfl rfl (fun _ => rfl) ?_
          refine mm_T.s rfl rfl rfl (fun _ => rfl) ?_
          refine mm_T.s rfl rfl rfl (fun _ => rfl) ?_
          refine mm_T.s rfl rfl rfl (fun _ => rfl) ?_
          refine mm_T.s rfl rfl rfl (fun _ => rfl) ?_
          refine mm_T.ti _ (x_84 _ _) ?_
          refine mm_T.laN rfl rfl rfl (by omega) (by decide) rfl ?_
          refine mm_T.s rfl rfl rfl (fun _ => rfl) ?_
          refine mm_T.s rfl rfl rfl (fun _ => rfl) ?_
          refine mm_T.cz rfl rfl (fun hb96 => ?_) (fun hb96 => ?_)
          · skip
            have hz0 : ¬ (x_st Rn p.toInt iv (fun a b => (ma (48 * a + b)).toInt % p.toInt) i).1 r i = 0 := fun q => hb96 ((lg_cmp_eq _ _).mpr (Int64.toInt_inj.mp (by rw [hw, q]; rfl)))
            rw [ed, if_neg hz0] at hpv
            unfold x_s1 at es
            rw [← hpv, if_pos hr] at es
            refine mm_T.s rfl rfl rfl (fun _ => rfl) ?_
            refine mm_T.s rfl rfl rfl (fun _ => rfl) ?_
            refine mm_T.gf rfl rfl rfl rfl rfl ?_
            refine mm_T.s rfl rfl rfl (fun _ => if_neg (nI_ge hr (by omega))) ?_
            refine mm_T.s rfl rfl rfl (fun _ => rfl) ?_
            refine mm_T.s rfl rfl rfl (fun _ => rfl) ?_
            refine mm_T.s rfl rfl rfl (fun _ => rfl) ?_
            refine mm_T.ivw rfl rfl rfl rfl rfl rfl (m_ex (by omega) (by omega)) ?_
            rintro _ _ ⟨rfl, wo2, hw2, rfl⟩
            have hrw2 : x_rw Rn Cn wo2 (fun a b => (x_st Rn p.toInt iv (fun a b => (ma (48 * a + b)).toInt % p.toInt) i).1 (x_tw (x_st Rn p.toInt iv (fun a b => (ma (48 * a + b)).toInt % p.toInt) i).2 r a) b) := fun a b ha hb => by
              rw [hw2 a b (by omega) (by omega), x_swp_tw (by omega), hrw _ b (x_tw_lt hr (by omega) ha) hb, x_tw_c]
            refine mm_T.s rfl rfl rfl (fun _ => rfl) ?_
            refine mm_T.s rfl rfl rfl (fun _ => rfl) ?_
            refine mm_T.s rfl rfl rfl (fun _ => rfl) ?_
            refine mm_T.s rfl rfl rfl (fun _ => rfl) ?_
            refine mm_T.ivw rfl rfl rfl rfl rfl rfl (m_sweepE hR hC (by omega) hi hp hp31 hiv hrw2 (fun a b ha hb => s2 _ b (x_tw_lt (by omega) hr ha) hb) (by show (x_st Rn p.toInt iv (fun a b => (ma (48 * a + b)).toInt % p.toInt) i).1 (x_tw _ _ _) i ≠ 0; rw [x_tw_l]; exact hz0) (fun b hb => by show (x_st Rn p.toInt iv (fun a b => (ma (48 * a + b)).toInt % p.toInt) i).1 (x_tw _ _ _) b = 0; rw [x_tw_l]; exact s3 r b hsr hr hb (by omega))) ?_
            rintro _ _ ⟨rfl, wo3, hrw3, rfl⟩
            have e3 : nI (x_st Rn p.toInt iv (fun a b => (ma (48 * a + b)).toInt % p.toInt) i).2 + 1 = nI (x_st Rn p.toInt iv (fun a b => (ma (48 * a + b)).toInt % p.toInt) (i + 1)).2 := by rw [es, nI_1]
            have hn : x_rw Rn Cn wo3 (x_st Rn p.toInt iv (fun a b => (ma (48 * a + b)).toInt % p.toInt) (i + 1)).1 := by rw [es]; exact hrw3
            refine mm_T.s rfl rfl rfl (fun _ => rfl) ?_
            refine mm_T.s rfl rfl rfl (fun _ => rfl) ?_
            refine mm_T.s rfl rfl rfl (fun _ => rfl) ?_
            exact K _ _ ⟨_, _, _, _, e3, nI_1 i, hn, rfl, rfl⟩
          · skip
            have hz0 : (x_st Rn p.toInt iv (fun a b => (ma (48 * a + b)).toInt % p.toInt) i).1 r i = 0 := by
              rw [← hw, (lg_cmp_eq _ _).mp (Classical.not_not.mp hb96)]
              rfl
            refine mm_T.s rfl rfl rfl (fun _ => rfl) ?_
            refine mm_T.s rfl rfl rfl (fun _ => rfl) ?_
            exact K2 _ _ ⟨_, by omega, nI_1 r, by rw [← hpv, ed, if_pos hz0], rfl, rfl⟩
        · skip
          rintro _ _ ⟨x5, hsr, rfl, hpv, rfl, rfl⟩
          have e0 : x_pv (x_st Rn p.toInt iv (fun a b => (ma (48 * a + b)).toInt % p.toInt) i).1 i (Rn - Rn) Rn = Rn := by
            rw [Nat.sub_self]
            rfl
          rw [e0] at hpv
          unfold x_s1 at es
          rw [← hpv, if_neg (Nat.lt_irrefl Rn)] at es
          have e3 : nI (x_st Rn p.toInt iv (fun a b => (ma (48 * a + b)).toInt % p.toInt) i).2 = nI (x_st Rn p.toInt iv (fun a b => (ma (48 * a + b)).toInt % p.toInt) (i + 1)).2 := by rw [es]
          have hn : x_rw Rn Cn wo1 (x_st Rn p.toInt iv (fun a b => (ma (48 * a + b)).toInt % p.toInt) (i + 1)).1 := by rw [es]; exact hrw
          refine mm_T.s rfl rfl rfl (fun _ => rfl) ?_
          refine mm_T.s rfl rfl rfl (fun _ => rfl) ?_
          refine mm_T.gf rfl rfl rfl rfl rfl ?_
          refine mm_T.s rfl rfl rfl (fun _ => if_pos (nI_le (Nat.le_refl _) (by omega))) ?_
          refine mm_T.s rfl rfl rfl (fun _ => rfl) ?_
          refine mm_T.s rfl rfl rfl (fun _ => rfl) ?_
          refine mm_T.gf rfl rfl rfl rfl rfl ?_
          refine mm_T.s rfl rfl rfl (fun _ => if_pos (nI_le (Nat.le_refl _) (by omega))) ?_
          refine mm_T.s rfl rfl rfl (fun _ => rfl) ?_
          refine mm_T.s rfl rfl rfl (fun _ => rfl) ?_
          exact K _ _ ⟨_, _, _, _, e3, nI_1 i, hn, rfl, rfl⟩
    · skip
      rintro _ _ ⟨x3, x4, y5, wo1, rfl, rfl, hrw, rfl, rfl⟩
      refine mm_T.s rfl rfl rfl (fun _ => rfl) ?_
      refine mm_T.s rfl rfl rfl (fun _ => rfl) ?_
      refine mm_T.gf rfl rfl rfl rfl rfl ?_
      refine mm_T.s rfl rfl rfl (fun _ => if_pos (nI_le (Nat.le_refl _) (by omega))) ?_
      refine mm_T.s rfl rfl rfl (fun _ => rfl) ?_
      exact mm_T.ret rfl rfl rfl (⟨rfl, _, rfl⟩)
