/-! THE GRID: minors, factors, orders end well -/
theorem x_lrem (a b : Int64) : (a - a / b * b).toInt = a.toInt.tmod b.toInt := by
  have e : a.toInt.tmod b.toInt = a.toInt - a.toInt.tdiv b.toInt * b.toInt := by rw [Int.tmod_def, Int.mul_comm]
  have r1 : (a.toInt.tmod b.toInt).natAbs ≤ a.toInt.natAbs := by
    rw [Int.natAbs_tmod]
    exact Nat.mod_le _ _
  have l1 := a.toInt_lt
  have l2 := a.le_toInt
  have q1 : (a.toInt.tmod b.toInt) = Int.bmod (a.toInt.tmod b.toInt) (2 ^ 64) := by
    by_cases s : a.toInt.natAbs = 2 ^ 63 ∧ (a.toInt.tmod b.toInt).natAbs = 2 ^ 63
    · have : 0 ≤ a.toInt ∨ a.toInt < 0 := by omega
      have hn : a.toInt.tmod b.toInt ≤ 0 := by
        have := Int.tmod_nonneg b.toInt (a := -a.toInt) (by omega)
        rw [Int.neg_tmod] at this
        omega
      rw [Int.bmod_eq_of_le (by omega) (by omega)]
    · rw [Int.bmod_eq_of_le (by omega) (by omega)]
  rw [Int64.toInt_sub, Int64.toInt_mul, Int64.toInt_div, q1, e]
  simp
theorem x_mipb {mi : Int64} (h : x_mip 2147483647 mi) : -2147483647 < mi.toInt ∧ mi.toInt < 2147483647 := by
  rcases h with rfl | ⟨a, rfl⟩
  · decide
  · rw [x_lrem, show ((2147483647 : Int32).toInt64).toInt = 2147483647 from by decide]
    have := Int.natAbs_tmod a.toInt 2147483647
    have h2 : a.toInt.natAbs % (2147483647 : Int).natAbs < 2147483647 := Nat.mod_lt _ (by decide)
    omega
theorem x_left {mi : Int64} (h : x_mip 2147483647 mi) (y : Int64) (hy : y = (2147483647 : Int64) - mi) : ((if y < mi then y else mi).toInt32).toInt < 2 ^ 30 := by
  obtain ⟨h1, h2⟩ := x_mipb h
  have e1 : y.toInt = 2147483647 - mi.toInt := by
    rw [hy, Int64.toInt_sub, show (2147483647 : Int64).toInt = 2147483647 from by decide]
    exact Int.bmod_eq_of_le (by omega) (by omega)
  have e2 : ∀ z : Int64, -2147483647 < z.toInt → z.toInt < 2147483648 → z.toInt32.toInt = z.toInt := fun z a b => by
    rw [Int64.toInt_toInt32]
    exact Int.bmod_eq_of_le (by omega) (by omega)
  by_cases c : y < mi
  · rw [if_pos c]
    have := Int64.lt_iff_toInt_lt.mp c
    rw [e2 y (by omega) (by omega)]
    omega
  · rw [if_neg c]
    have : ¬ y.toInt < mi.toInt := fun q => c (Int64.lt_iff_toInt_lt.mpr q)
    rw [e2 mi (by omega) (by omega)]
    omega
/-- prime and power, as they are noted -/
def x_gd (x y : Int32) : Prop := ∃ P e : Nat, x = nI P ∧ y = nI e ∧ 2 ≤ P ∧ 1 ≤ e ∧ P ^ e < 2 ^ 31
def x_kd (pm pw : Nat → Int32) (K : Nat) : Prop := ∀ i, i < K → x_gd (pm i) (pw i)
theorem x_pwN (P : Nat) : ∀ e : Nat, x_pw (nI P) e = nI (P ^ e)
  | 0 => rfl
  | e + 1 => by rw [x_pw, x_pwN P e, pk_mul, Nat.pow_succ]
theorem x_pw0 {P e : Nat} (hP : 2 ≤ P) (h : P ^ e < 2 ^ 31) : ∀ l, l ≤ e → x_pw (nI P) l ≠ 0 := fun l hl => by
  rw [x_pwN]
  exact nI_ne0 (Nat.pow_pos (by omega)) (Nat.lt_of_le_of_lt (Nat.pow_le_pow_right (by omega) hl) h)
theorem x_pw31 {P e : Nat} (hP : 2 ≤ P) (h : P ^ e < 2 ^ 31) : e ≤ 31 := by
  have h1 : 2 ^ e ≤ P ^ e := Nat.pow_le_pow_left hP e
  have h2 : 2 ^ e < 2 ^ 31 := by omega
  have := (Nat.pow_lt_pow_iff_right (a := 2) (by decide)).mp h2
  omega
theorem x_ki {K : Nat} : nI K + 1 = nI (K + 1) := nI_1 K
theorem w_note {pl0 ke0 sz0 se0 gr0 pl1 ke1 sz1 se1 gr1 im ce wo pv fa pm pw fr ba : Nat → Int32} {rw : Nat → Int64} {ro co mo : Int32} {mi : Int64} {M : mm_H} {K : Nat} (hK : K ≤ 10) (hk : x_kd pm pw K) {x y : Int32} (hg : 0 < y → x_gd x y) : mm_TC kM 27 [.ref 14, .int x, .int y] (kC pl0 ke0 sz0 se0 gr0 pl1 ke1 sz1 se1 gr1 im ce wo pv fa pm pw fr ba rw ro co mo mi (nI K) M) (fun v h => v = none ∧ ∃ pm' pw' K', K' ≤ 10 ∧ x_kd pm' pw' K' ∧ h = (kC pl0 ke0 sz0 se0 gr0 pl1 ke1 sz1 se1 gr1 im ce wo pv fa pm' pw' fr ba rw ro co mo mi (nI K') M)) := by
  refine mm_TC.of (M := kq_27) rfl rfl ?_
  by_cases hy : y ≤ 0
  · skip
    refine mm_T.s rfl rfl rfl (fun _ => rfl) ?_
    refine mm_T.s rfl rfl rfl (fun _ => if_pos hy) ?_
    exact mm_T.ret rfl rfl rfl (⟨rfl, _, _, _, hK, hk, rfl⟩)
  · by_cases h10 : K < 10
    · skip
      refine mm_T.s rfl rfl rfl (fun _ => rfl) ?_
      refine mm_T.s rfl rfl rfl (fun _ => if_neg hy) ?_
      refine mm_T.s rfl rfl rfl (fun _ => rfl) ?_
      refine mm_T.gf rfl rfl rfl rfl rfl ?_
      refine mm_T.s rfl rfl rfl (fun _ => rfl) ?_
      refine mm_T.s rfl rfl rfl (fun _ => if_neg (nI_ge (b := 10) h10 (by decide))) ?_
      refine mm_T.s rfl rfl rfl (fun _ => rfl) ?_
      refine mm_T.gf rfl rfl rfl rfl rfl ?_
      refine mm_T.s rfl rfl rfl (fun _ => rfl) ?_
      refine mm_T.gf rfl rfl rfl rfl rfl ?_
      refine mm_T.s rfl rfl rfl (fun _ => rfl) ?_
      refine mm_T.is rfl rfl rfl (mm_bd h10 (by decide)) rfl ?_
      refine mm_T.s rfl rfl rfl (fun _ => rfl) ?_
      refine mm_T.gf rfl rfl rfl rfl rfl ?_
      refine mm_T.s rfl rfl rfl (fun _ => rfl) ?_
      refine mm_T.gf rfl rfl rfl rfl rfl ?_
      refine mm_T.s rfl rfl rfl (fun _ => rfl) ?_
      refine mm_T.is rfl rfl rfl (mm_bd h10 (by decide)) rfl ?_
      have e := mm_cl (j := K) (by omega)
      refine mm_T.s rfl rfl rfl (fun _ => rfl) ?_
      refine mm_T.s rfl rfl rfl (fun _ => rfl) ?_
      refine mm_T.gf rfl rfl rfl rfl rfl ?_
      refine mm_T.s rfl rfl rfl (fun _ => rfl) ?_
      refine mm_T.s rfl rfl rfl (fun _ => rfl) ?_
      refine mm_T.pfi rfl rfl rfl rfl rfl rfl ?_
      refine mm_T.ret rfl rfl rfl ⟨rfl, _, _, K + 1, h10, ?_, by rw [← nI_1]; rfl⟩
      intro i hi
      rw [e]
      by_cases c : i = K
      · rw [c, pk_us, pk_us]
        exact hg (Int32.not_le.mp hy)
      · rw [pk_un c, pk_un c]
        exact hk i (by omega)
    · have e10 : K = 10 := by omega
      subst e10
      refine mm_T.s rfl rfl rfl (fun _ => rfl) ?_
      refine mm_T.s rfl rfl rfl (fun _ => if_neg hy) ?_
      refine mm_T.s rfl rfl rfl (fun _ => rfl) ?_
      refine mm_T.gf rfl rfl rfl rfl rfl ?_
      refine mm_T.s rfl rfl rfl (fun _ => rfl) ?_
      refine mm_T.s rfl rfl rfl (fun _ => rfl) ?_
      exact mm_T.ret rfl rfl rfl (⟨rfl, _, _, _, hK, hk, rfl⟩)

theorem x_pP : ∀ l, l ≤ 1 → x_pw 2147483647 l ≠ 0 := by
  intro l hl
  have : l = 0 ∨ l = 1 := by omega
  rcases this with rfl | rfl <;> decide
theorem w_split76 {pl0 ke0 sz0 se0 gr0 pl1 ke1 sz1 se1 gr1 im ce wo pv fa pm pw fr ba : Nat → Int32} {rw : Nat → Int64} {mi : Int64} {M : mm_H} {R C : Nat} (hR : R ≤ 48) (hC : C ≤ 48) {mo : Int32} {K t : Nat} (hK : K ≤ 10) (hk : x_kd pm pw K) (ht : t ≤ R) {x : Int32} (hx : x.toInt < 2 ^ 30) (y3 y4 : Option Value) : mm_T kM none 26 76 [some (.ref 14), some (.int (nI t)), some (.int x), y3, y4] [] (kC pl0 ke0 sz0 se0 gr0 pl1 ke1 sz1 se1 gr1 im ce wo pv fa pm pw fr ba rw (nI R) (nI C) mo mi (nI K) M) (fun v h => ∃ pm' pw' K', K' ≤ 10 ∧ x_kd pm' pw' K' ∧ v = some (.int (nI t)) ∧ h = (kC pl0 ke0 sz0 se0 gr0 pl1 ke1 sz1 se1 gr1 im ce wo pv fa pm' pw' fr ba rw (nI R) (nI C) mo mi (nI K') M)) := by
  by_cases h1 : x ≤ 1
  · skip
    refine mm_T.s rfl rfl rfl (fun _ => rfl) ?_
    refine mm_T.s rfl rfl rfl (fun _ => rfl) ?_
    refine mm_T.s rfl rfl rfl (fun _ => rfl) ?_
    refine mm_T.s rfl rfl rfl (fun _ => rfl) ?_
    refine mm_T.s rfl rfl rfl (fun _ => if_pos h1) ?_
    refine mm_T.s rfl rfl rfl (fun _ => rfl) ?_
    refine mm_T.ivw rfl rfl rfl rfl rfl rfl (w_note hK hk (fun q => absurd q (by decide))) ?_
    rintro _ _ ⟨rfl, pm1, pw1, K1, hK1, hk1, rfl⟩
    refine mm_T.s rfl rfl rfl (fun _ => rfl) ?_
    exact mm_T.ret rfl rfl rfl (⟨_, _, _, hK1, hk1, rfl, rfl⟩)
  · have hg : x_gd x (nI 1) := by
      have h2 : ¬ x < 0 := fun q => h1 (Int32.le_trans (Int32.le_of_lt q) (by decide))
      obtain ⟨j, hj, rfl⟩ := nI_of h2
      refine ⟨j, 1, rfl, rfl, ?_, Nat.le_refl 1, by rw [Nat.pow_one]; exact hj⟩
      exact Nat.lt_of_not_le (fun q => h1 (nI_le (a := j) (b := 1) (by omega) (by decide)))
    refine mm_T.s rfl rfl rfl (fun _ => rfl) ?_
    refine mm_T.s rfl rfl rfl (fun _ => rfl) ?_
    refine mm_T.s rfl rfl rfl (fun _ => rfl) ?_
    refine mm_T.s rfl rfl rfl (fun _ => rfl) ?_
    refine mm_T.s rfl rfl rfl (fun _ => if_neg h1) ?_
    refine mm_T.s rfl rfl rfl (fun _ => rfl) ?_
    refine mm_T.s rfl rfl rfl (fun _ => rfl) ?_
    refine mm_T.ivw rfl rfl rfl rfl rfl rfl (w_note hK hk (fun _ => hg)) ?_
    rintro _ _ ⟨rfl, pm1, pw1, K1, hK1, hk1, rfl⟩
    refine mm_T.s rfl rfl rfl (fun _ => rfl) ?_
    exact mm_T.ret rfl rfl rfl (⟨_, _, _, hK1, hk1, rfl, rfl⟩)

theorem mm_T.mono {G : List mm_M} {scr : mm_X} {k pc : Nat} {L : mm_L} {st : List Value} {h : mm_H} {Q Q' : Option Value → mm_H → Prop} (hT : mm_T G scr k pc L st h Q') (hq : ∀ v h', Q' v h' → Q v h') : mm_T G scr k pc L st h Q := by
  obtain ⟨v, h', e, q⟩ := hT
  exact ⟨v, h', e, hq _ _ q⟩
theorem w_split {pl0 ke0 sz0 se0 gr0 pl1 ke1 sz1 se1 gr1 im ce wo pv fa pm pw fr ba : Nat → Int32} {rw : Nat → Int64} {mo : Int32} {mi : Int64} {ki : Int32} {M : mm_H} {R C : Nat} (hR : R ≤ 48) (hC : C ≤ 48) : mm_TC kM 26 [.ref 14] (kC pl0 ke0 sz0 se0 gr0 pl1 ke1 sz1 se1 gr1 im ce wo pv fa pm pw fr ba rw (nI R) (nI C) mo mi ki M) (fun v h => ∃ t wo' pv' mi' pm' pw' K', t ≤ R ∧ K' ≤ 10 ∧ x_kd pm' pw' K' ∧ v = some (.int (nI t)) ∧ h = (kC pl0 ke0 sz0 se0 gr0 pl1 ke1 sz1 se1 gr1 im ce wo' pv' fa pm' pw' fr ba rw (nI R) (nI C) (x_pw 2147483647 1) mi' (nI K') M)) := by
  refine mm_TC.of (M := kq_26) rfl rfl ?_
  refine mm_T.s rfl rfl rfl (fun _ => rfl) ?_
  refine mm_T.s rfl rfl rfl (fun _ => rfl) ?_
  refine mm_T.s rfl rfl rfl (fun _ => rfl) ?_
  refine mm_T.ivw rfl rfl rfl rfl rfl rfl (w_elim hR hC (n := 1) (by decide) x_pP) ?_
  rintro _ _ ⟨t, wo1, pv1, mi1, ht, hmi, hpv, rfl, rfl⟩
  refine mm_T.s rfl rfl rfl (fun _ => rfl) ?_
  refine mm_T.s rfl rfl rfl (fun _ => rfl) ?_
  refine mm_T.gf rfl rfl rfl rfl rfl ?_
  refine mm_T.s rfl rfl rfl (fun _ => rfl) ?_
  refine mm_T.s rfl rfl rfl (fun _ => rfl) ?_
  refine mm_T.gf rfl rfl rfl rfl rfl ?_
  refine mm_T.s rfl rfl rfl (fun _ => rfl) ?_
  refine mm_T.s rfl rfl rfl (fun _ => rfl) ?_
  refine mm_T.s rfl rfl rfl (fun _ => rfl) ?_
  refine mm_T.s rfl rfl rfl (fun _ => rfl) ?_
  refine mm_T.s rfl rfl rfl (fun _ => rfl) ?_
  refine mm_T.s rfl rfl rfl (fun _ => rfl) ?_
  refine mm_T.pfi rfl rfl rfl rfl rfl rfl ?_
  refine mm_T.s rfl rfl rfl (fun _ => rfl) ?_
  refine mm_T.s rfl rfl rfl (fun _ => rfl) ?_
  have hx := x_left hmi _ rfl
  generalize hX : (if ((2147483647 : Int64) - mi1) < mi1 then ((2147483647 : Int64) - mi1) else mi1).toInt32 = X at hx
  by_cases h0 : X < 0
  · have hKK : 0 ≤ 10 := by decide
    have hkk : x_kd pm pw 0 := fun i hi => absurd hi (Nat.not_lt_zero i)
    have h36 : X < nI 2 * nI 2 := Int32.lt_trans h0 (by decide)
    refine mm_T.lc (L' := [some (.ref 14), some (.int (nI t)), some (.int X), some (.int (nI 2)), none]) (by rw [← hX]; rfl) ?_
    refine mm_T.s rfl rfl rfl (fun _ => rfl) ?_
    refine mm_T.s rfl rfl rfl (fun _ => rfl) ?_
    refine mm_T.s rfl rfl rfl (fun _ => rfl) ?_
    refine mm_T.s rfl rfl rfl (fun _ => rfl) ?_
    refine mm_T.s rfl rfl rfl (fun _ => if_pos h36) ?_
    exact (w_split76 hR hC hKK hkk ht hx _ _).mono (fun v h p => by obtain ⟨pm1, pw1, K1, a, b, c, d⟩ := p; exact ⟨t, _, _, _, _, _, _, ht, a, b, c, d⟩)
  · obtain ⟨l0, hl0, rfl⟩ := nI_of h0
    rw [nI_toInt hl0] at hx
    refine mm_T.lc (L' := [some (.ref 14), some (.int (nI t)), some (.int (nI l0)), some (.int (nI 2)), none]) (by rw [← hX]; rfl) ?_
    refine mm_T.up (n := 32768) (P := fun p L h => ∃ l x3 y4 pm' pw' K, l < 2 ^ 30 ∧ 2 ≤ p ∧ K ≤ 10 ∧ x_kd pm' pw' K ∧ x3 = nI p ∧ L = [some (.ref 14), some (.int (nI t)), some (.int (nI l)), some (.int x3), y4] ∧ h = (kC pl0 ke0 sz0 se0 gr0 pl1 ke1 sz1 se1 gr1 im ce wo1 pv1 fa pm' pw' fr ba rw (nI R) (nI C) (x_pw 2147483647 1) mi1 (nI K) M)) ?_ ?_ 2 (by decide) _ _ ⟨l0, _, _, _, _, 0, by omega, Nat.le_refl 2, by decide, fun i hi => absurd hi (Nat.not_lt_zero i), rfl, rfl, rfl⟩
    · skip
      rintro p _ _ hp ⟨l, x3, y4, pm2, pw2, K, hl, hp2, hKK, hkk, rfl, rfl, rfl⟩ KK
      have hpp : p * p < 2 ^ 30 := by
        have := Nat.mul_le_mul (show p ≤ 32767 by omega) (show p ≤ 32767 by omega)
        omega
      by_cases hq : l < p * p
      · have h36 : nI l < nI p * nI p := by
          rw [pk_mul]
          exact nI_lt hq (by omega)
        refine mm_T.s rfl rfl rfl (fun _ => rfl) ?_
        refine mm_T.s rfl rfl rfl (fun _ => rfl) ?_
        refine mm_T.s rfl rfl rfl (fun _ => rfl) ?_
        refine mm_T.s rfl rfl rfl (fun _ => rfl) ?_
        refine mm_T.s rfl rfl rfl (fun _ => if_pos h36) ?_
        exact (w_split76 hR hC hKK hkk ht (by rw [nI_toInt (by omega)]; omega) _ _).mono (fun v h p => by obtain ⟨pm1, pw1, K1, a, b, c, d⟩ := p; exact ⟨t, _, _, _, _, _, _, ht, a, b, c, d⟩)
      · have h36 : ¬ nI l < nI p * nI p := by
          rw [pk_mul]
          exact nI_nlt (by omega) (by omega)
        refine mm_T.s rfl rfl rfl (fun _ => rfl) ?_
        refine mm_T.s rfl rfl rfl (fun _ => rfl) ?_
        refine mm_T.s rfl rfl rfl (fun _ => rfl) ?_
        refine mm_T.s rfl rfl rfl (fun _ => rfl) ?_
        refine mm_T.s rfl rfl rfl (fun _ => if_neg h36) ?_
        refine mm_T.s rfl rfl rfl (fun _ => rfl) ?_
        refine mm_T.s rfl rfl rfl (fun _ => rfl) ?_
        refine mm_T.wf (P := fun m L h => ∃ x2 x4 e, 1 ≤ m ∧ p ^ e * m < 2 ^ 30 ∧ x2 = nI m ∧ x4 = nI e ∧ L = [some (.ref 14), some (.int (nI t)), some (.int x2), some (.int (nI p)), some (.int x4)] ∧ h = (kC pl0 ke0 sz0 se0 gr0 pl1 ke1 sz1 se1 gr1 im ce wo1 pv1 fa pm2 pw2 fr ba rw (nI R) (nI C) (x_pw 2147483647 1) mi1 (nI K) M)) ?_ l _ _ ⟨_, _, 0, by have := Nat.mul_le_mul hp2 hp2; omega, by rw [Nat.pow_zero]; omega, rfl, rfl, rfl, rfl⟩
        rintro m _ _ ⟨x2, x4, e, hm1, hpe, rfl, rfl, rfl, rfl⟩ K3
        have hm30 : m < 2 ^ 30 := Nat.lt_of_le_of_lt (Nat.le_mul_of_pos_left m (Nat.pow_pos (by omega))) hpe
        have hpe1 : p ^ e < 2 ^ 30 := Nat.lt_of_le_of_lt (Nat.le_mul_of_pos_right _ hm1) hpe
        have he31 : e ≤ 31 := x_pw31 hp2 (by omega)
        have J : mm_T kM none 26 63 [some (.ref 14), some (.int (nI t)), some (.int (nI m)), some (.int (nI p)), some (.int (nI e))] [] (kC pl0 ke0 sz0 se0 gr0 pl1 ke1 sz1 se1 gr1 im ce wo1 pv1 fa pm2 pw2 fr ba rw (nI R) (nI C) (x_pw 2147483647 1) mi1 (nI K) M) (fun v h => ∃ t wo' pv' mi' pm' pw' K', t ≤ R ∧ K' ≤ 10 ∧ x_kd pm' pw' K' ∧ v = some (.int (nI t)) ∧ h = (kC pl0 ke0 sz0 se0 gr0 pl1 ke1 sz1 se1 gr1 im ce wo' pv' fa pm' pw' fr ba rw (nI R) (nI C) (x_pw 2147483647 1) mi' (nI K') M)) := by
          have hg : 0 < nI e → x_gd (nI p) (nI e) := fun h0 => ⟨p, e, rfl, rfl, hp2, (nI_ltI (a := 0) (b := e) (by decide) (by omega)).mp h0, by omega⟩
          refine mm_T.s rfl rfl rfl (fun _ => rfl) ?_
          refine mm_T.s rfl rfl rfl (fun _ => rfl) ?_
          refine mm_T.s rfl rfl rfl (fun _ => rfl) ?_
          refine mm_T.ivw rfl rfl rfl rfl rfl rfl (w_note hKK hkk hg) ?_
          rintro _ _ ⟨rfl, pm3, pw3, K1, hK1, hk1, rfl⟩
          refine mm_T.s rfl rfl rfl (fun _ => rfl) ?_
          refine mm_T.s rfl rfl rfl (fun _ => rfl) ?_
          exact KK _ _ ⟨m, _, _, _, _, _, by omega, by omega, hK1, hk1, nI_1 p, rfl, rfl⟩
        by_cases h1 : m ≤ 1
        · skip
          refine mm_T.s rfl rfl rfl (fun _ => rfl) ?_
          refine mm_T.s rfl rfl rfl (fun _ => rfl) ?_
          refine mm_T.s rfl rfl rfl (fun _ => if_pos (nI_le (b := 1) h1 (by decide))) ?_
          exact J
        · have hr : nI m - nI m / nI p * nI p = nI (m % p) := pk_rem (by omega) (by omega) (by omega)
          have hp0 : ¬ nI p = 0 := nI_ne0 (by omega) (by omega)
          by_cases h2 : m % p = 0
          · skip
            refine mm_T.s rfl rfl rfl (fun _ => rfl) ?_
            refine mm_T.s rfl rfl rfl (fun _ => rfl) ?_
            refine mm_T.s rfl rfl rfl (fun _ => if_neg (nI_ge (a := 1) (by omega) (by omega))) ?_
            refine mm_T.s rfl rfl rfl (fun _ => rfl) ?_
            refine mm_T.s rfl rfl rfl (fun _ => rfl) ?_
            refine mm_T.s rfl rfl rfl (fun _ => if_neg hp0) ?_
            refine mm_T.s rfl rfl rfl (fun _ => if_pos (show nI m - nI m / nI p * nI p = 0 by rw [hr, h2]; rfl)) ?_
            refine mm_T.s rfl rfl rfl (fun _ => rfl) ?_
            refine mm_T.s rfl rfl rfl (fun _ => rfl) ?_
            refine mm_T.s rfl rfl rfl (fun _ => if_neg hp0) ?_
            refine mm_T.s rfl rfl rfl (fun _ => rfl) ?_
            refine mm_T.s rfl rfl rfl (fun _ => rfl) ?_
            refine mm_T.s rfl rfl rfl (fun _ => rfl) ?_
            refine K3 (m / p) _ _ (Nat.div_lt_self (by omega) (by omega)) ⟨_, _, e + 1, ?_, ?_, pk_div (by omega) (by omega) (by omega), nI_1 e, rfl, rfl⟩
            · exact Nat.div_pos (Nat.le_of_dvd (by omega) (Nat.dvd_of_mod_eq_zero h2)) (by omega)
            · rw [Nat.pow_succ, Nat.mul_assoc, Nat.mul_div_cancel' (Nat.dvd_of_mod_eq_zero h2)]
              exact hpe
          · have h50 : ¬ nI m - nI m / nI p * nI p = 0 := by
              rw [hr]
              exact nI_ne0 (by omega) (Nat.lt_of_lt_of_le (Nat.mod_lt _ (by omega)) (by omega))
            refine mm_T.s rfl rfl rfl (fun _ => rfl) ?_
            refine mm_T.s rfl rfl rfl (fun _ => rfl) ?_
            refine mm_T.s rfl rfl rfl (fun _ => if_neg (nI_ge (a := 1) (by omega) (by omega))) ?_
            refine mm_T.s rfl rfl rfl (fun _ => rfl) ?_
            refine mm_T.s rfl rfl rfl (fun _ => rfl) ?_
            refine mm_T.s rfl rfl rfl (fun _ => if_neg hp0) ?_
            refine mm_T.s rfl rfl rfl (fun _ => if_neg h50) ?_
            exact J
    · skip
      rintro _ _ ⟨l, x3, y4, pm2, pw2, K, hl, hp2, hKK, hkk, rfl, rfl, rfl⟩
      have h36 : nI l < nI 32768 * nI 32768 := by
        rw [pk_mul]
        exact nI_lt (by omega) (by omega)
      refine mm_T.s rfl rfl rfl (fun _ => rfl) ?_
      refine mm_T.s rfl rfl rfl (fun _ => rfl) ?_
      refine mm_T.s rfl rfl rfl (fun _ => rfl) ?_
      refine mm_T.s rfl rfl rfl (fun _ => rfl) ?_
      refine mm_T.s rfl rfl rfl (fun _ => if_pos h36) ?_
      exact (w_split76 hR hC hKK hkk ht (by rw [nI_toInt (by omega)]; omega) _ _).mono (fun v h p => by obtain ⟨pm1, pw1, K1, a, b, c, d⟩ := p; exact ⟨t, _, _, _, _, _, _, ht, a, b, c, d⟩)

