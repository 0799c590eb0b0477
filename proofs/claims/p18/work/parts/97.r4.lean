/-! INVERSES MODULO LARGE PRIMES: Euclid and Fermat -/
def x_PRM (p : Nat) : Prop := 1 < p ∧ ∀ d, 1 < d → d < p → ¬ d ∣ p
theorem x_PRM.cop {p x : Nat} (h : x_PRM p) (h0 : 0 < x) (hx : x < p) : Nat.gcd x p = 1 := by
  refine Classical.byContradiction (fun q => ?_)
  have g0 : 0 < Nat.gcd x p := Nat.gcd_pos_of_pos_left p h0
  have g1 : Nat.gcd x p ≤ x := Nat.le_of_dvd h0 (Nat.gcd_dvd_left x p)
  exact h.2 (Nat.gcd x p) (by omega) (by omega) (Nat.gcd_dvd_right x p)
theorem x_PRM.mul {p x y : Nat} (h : x_PRM p) (h0 : 0 < x) (hx : x < p) (hd : p ∣ x * y) : p ∣ y := Nat.Coprime.dvd_of_dvd_mul_left (show Nat.Coprime p x by rw [Nat.coprime_comm]; exact h.cop h0 hx) hd
theorem x_prT (p : Nat) (hp : p < 2147483648) (hp1 : 1 < p) (h : ((List.range 217).all fun a => (List.range 217).all fun b => decide (¬ p % (a * 217 + b + 2) = 0) || decide (p ≤ a * 217 + b + 2)) = true) : x_PRM p := by
  have hs : ∀ d, 1 < d → d < p → d ≤ 46341 → ¬ d ∣ p := fun d h1 h2 h3 hd => by
    have z := List.all_eq_true.mp (List.all_eq_true.mp h ((d - 2) / 217) (List.mem_range.mpr (by omega))) ((d - 2) % 217) (List.mem_range.mpr (by omega))
    rw [show (d - 2) / 217 * 217 + (d - 2) % 217 + 2 = d by omega] at z
    simp only [Bool.or_eq_true, decide_eq_true_eq] at z
    rcases z with z | z
    · exact z (Nat.mod_eq_zero_of_dvd hd)
    · omega
  refine ⟨hp1, fun d h1 h2 hd => ?_⟩
  by_cases c : d ≤ 46341
  · exact hs d h1 h2 c hd
  · obtain ⟨e, he⟩ := hd
    have e1 : 1 < e := by
      rcases Nat.lt_or_ge 1 e with q | q
      · exact q
      · have : e = 0 ∨ e = 1 := by omega
        rcases this with rfl | rfl <;> omega
    have e2 : e ≤ 46341 := by
      refine Classical.byContradiction (fun q => ?_)
      have := Nat.mul_le_mul (show 46342 ≤ d by omega) (show 46342 ≤ e by omega)
      omega
    have e3 : e < p := by
      rw [he]
      have := Nat.mul_le_mul_right e (show 2 ≤ d by omega)
      omega
    exact hs e e1 e3 e2 ⟨d, by rw [he, Nat.mul_comm]⟩
/-- Fermat -/
theorem x_fer {p x : Nat} (h : x_PRM p) (h0 : 0 < x) (hx : x < p) : x ^ (p - 1) % p = 1 := by
  have hp := h.1
  have hnz : ∀ a, a < p - 1 → 0 < x * (a + 1) % p := fun a ha => by
    refine Nat.pos_of_ne_zero (fun q => ?_)
    have := Nat.le_of_dvd (by omega) (h.mul h0 hx (Nat.dvd_of_mod_eq_zero q))
    omega
  have hinj : dt_inj (p - 1) (fun a => x * (a + 1) % p - 1) := fun a b ha hb e => by
    have e : x * (a + 1) % p - 1 = x * (b + 1) % p - 1 := e
    have n1 := hnz a ha
    have n2 := hnz b hb
    have e2 : x * (a + 1) % p = x * (b + 1) % p := by omega
    have key : ∀ u v, u < p - 1 → v < p - 1 → u ≤ v → x * (u + 1) % p = x * (v + 1) % p → u = v := fun u v hu hv huv ee => by
      have d1 : p ∣ x * (v - u) := by
        have : x * (v - u) = x * (v + 1) - x * (u + 1) := by
          rw [← Nat.mul_sub]
          congr 1
          omega
        rw [this]
        exact Nat.dvd_of_mod_eq_zero (Nat.sub_mod_eq_zero_of_mod_eq ee.symm)
      have d2 := h.mul h0 hx d1
      rcases Nat.eq_zero_or_pos (v - u) with q | q
      · omega
      · have := Nat.le_of_dvd q d2
        omega
    rcases Nat.le_total a b with q | q
    · exact key a b ha hb q e2
    · exact (key b a hb ha q e2.symm).symm
  have hperm := dt_P_perm (p - 1) (fun a => ((a + 1 : Nat) : Int)) (fun a => x * (a + 1) % p - 1) (fun a ha => by
    have := Nat.mod_lt (x * (a + 1)) (show 0 < p by omega)
    show x * (a + 1) % p - 1 < p - 1
    have := hnz a ha
    omega) hinj
  have e1 : dt_P (fun a => ((x * (a + 1) % p - 1 + 1 : Nat) : Int)) (p - 1) = dt_P (fun a => ((x * (a + 1) % p : Nat) : Int)) (p - 1) := dt_P_congr (p - 1) (fun a ha => by
    have := hnz a ha
    rw [Nat.sub_add_cancel (by omega)])
  have hperm : dt_P (fun a => ((x * (a + 1) % p - 1 + 1 : Nat) : Int)) (p - 1) = dt_P (fun a => ((a + 1 : Nat) : Int)) (p - 1) := hperm
  rw [e1] at hperm
  have key : ∀ n, n ≤ p - 1 → ∃ F G : Nat, dt_P (fun a => ((a + 1 : Nat) : Int)) n = (F : Int) ∧ dt_P (fun a => ((x * (a + 1) % p : Nat) : Int)) n = (G : Int) ∧ G % p = x ^ n * F % p ∧ ∀ y, p ∣ F * y → p ∣ y := fun n => by
    induction n with
    | zero => exact fun _ => ⟨1, 1, rfl, rfl, by rw [Nat.pow_zero], fun y hy => by rwa [Nat.one_mul] at hy⟩
    | succ n ih =>
      intro hn
      obtain ⟨F, G, f1, f2, f3, f4⟩ := ih (by omega)
      refine ⟨F * (n + 1), G * (x * (n + 1) % p), ?_, ?_, ?_, fun y hy => ?_⟩
      · show dt_P _ n * ((n + 1 : Nat) : Int) = _
        rw [f1, Int.natCast_mul]
      · show dt_P _ n * ((x * (n + 1) % p : Nat) : Int) = _
        rw [f2, Int.natCast_mul]
      · rw [Nat.mul_mod, f3, Nat.mod_mod, ← Nat.mul_mod, Nat.pow_succ]
        congr 1
        rw [Nat.mul_assoc, Nat.mul_assoc, Nat.mul_left_comm F x (n + 1)]
      · rw [Nat.mul_assoc] at hy
        exact h.mul (by omega) (by omega) (f4 _ hy)
  obtain ⟨F, G, f1, f2, f3, f4⟩ := key (p - 1) (Nat.le_refl _)
  have eFG : G = F := by
    rw [f1, f2] at hperm
    exact Int.ofNat_inj.mp hperm
  rw [eFG] at f3
  have hx1 : 1 ≤ x ^ (p - 1) := Nat.pow_pos h0
  have d1 : p ∣ F * (x ^ (p - 1) - 1) := by
    rw [Nat.mul_sub, Nat.mul_one, Nat.mul_comm F]
    exact Nat.dvd_of_mod_eq_zero (Nat.sub_mod_eq_zero_of_mod_eq f3.symm)
  obtain ⟨c, hc⟩ := f4 _ d1
  have e9 : x ^ (p - 1) = 1 + p * c := by omega
  rw [e9, Nat.add_mul_mod_self_left, Nat.mod_eq_of_lt hp]
/-- powers by halving: what comes out -/
theorem x_fp_ok {p : Nat} (hp : 1 < p) (hp31 : p < 2 ^ 31) {P : Int64} (hP : P.toInt = (p : Int)) : ∀ (n : Nat) (e w al : Int64) (E W A : Nat), e.toInt = (E : Int) → w.toInt = (W : Int) → al.toInt = (A : Int) → W < p → A < p → E ≤ n → ∃ Z : Nat, (x_fp P n e w al).toInt = (Z : Int) ∧ Z < p ∧ Z = A * W ^ E % p
  | 0, e, w, al, E, W, A, he, hw, ha, hW, hA, hn => by
    have : E = 0 := by omega
    subst this
    exact ⟨A, ha, hA, by rw [Nat.pow_zero, Nat.mul_one, Nat.mod_eq_of_lt hA]⟩
  | n + 1, e, w, al, E, W, A, he, hw, ha, hW, hA, hn => by
    show ∃ Z : Nat, (if e ≤ 0 then al else x_fp P n (e / 2) (w * w - w * w / P * P) (if e - e / 2 * 2 = 1 then al * w - al * w / P * P else al)).toInt = (Z : Int) ∧ _
    by_cases c : e ≤ 0
    · rw [if_pos c]
      have c2 := Int64.le_iff_toInt_le.mp c
      rw [he, show (0 : Int64).toInt = 0 from rfl] at c2
      have : E = 0 := by omega
      subst this
      exact ⟨A, ha, hA, by rw [Nat.pow_zero, Nat.mul_one, Nat.mod_eq_of_lt hA]⟩
    · rw [if_neg c]
      have c2 : ¬ e.toInt ≤ 0 := fun q => c (Int64.le_iff_toInt_le.mpr q)
      have l1 := e.toInt_lt
      have eh : (e / 2).toInt = ((E / 2 : Nat) : Int) := by
        rw [Int64.toInt_div, show (2 : Int64).toInt = 2 from by decide, he, Int.tdiv_eq_ediv_of_nonneg (by omega)]
        rw [show ((E : Int) / 2) = ((E / 2 : Nat) : Int) from rfl]
        exact Int.bmod_eq_of_le (by omega) (by omega)
      have er : (e - e / 2 * 2).toInt = ((E % 2 : Nat) : Int) := by
        rw [x_lrem, show (2 : Int64).toInt = 2 from by decide, he, Int.tmod_eq_emod_of_nonneg (by omega)]
        rfl
      have ew : (w * w - w * w / P * P).toInt = ((W * W % p : Nat) : Int) := by
        rw [x_qv (by rw [hP]; omega) (by rw [hw, hP]; omega) (by rw [hw, hP]; omega), hw, hP, ← Int.natCast_mul]
        rfl
      have ea : (al * w - al * w / P * P).toInt = ((A * W % p : Nat) : Int) := by
        rw [x_qv (by rw [hP]; omega) (by rw [ha, hP]; omega) (by rw [hw, hP]; omega), ha, hw, hP, ← Int.natCast_mul]
        rfl
      have hW2 : W * W % p < p := Nat.mod_lt _ (by omega)
      have hA2 : A * W % p < p := Nat.mod_lt _ (by omega)
      have epow : ∀ B : Nat, B * (W * W % p) ^ (E / 2) % p = B * W ^ (2 * (E / 2)) % p := fun B => by
        rw [Nat.pow_mul, Nat.mul_mod, Nat.pow_mod, Nat.mod_mod, ← Nat.pow_mod, ← Nat.mul_mod, Nat.pow_two]
      by_cases o : e - e / 2 * 2 = 1
      · have o2 : E % 2 = 1 := by
          have := congrArg Int64.toInt o
          rw [er, show (1 : Int64).toInt = 1 from by decide] at this
          omega
        rw [if_pos o]
        obtain ⟨Z, z1, z2, z3⟩ := x_fp_ok hp hp31 hP n _ _ _ (E / 2) (W * W % p) (A * W % p) eh ew ea hW2 hA2 (by omega)
        refine ⟨Z, z1, z2, ?_⟩
        rw [z3, epow, Nat.mod_mul_mod, Nat.mul_assoc, ← Nat.pow_succ', show (2 * (E / 2)).succ = E by omega]
      · have o2 : E % 2 = 0 := by
          have : ¬ E % 2 = 1 := fun q => o (Int64.toInt_inj.mp (by rw [er, q]; decide))
          omega
        rw [if_neg o]
        obtain ⟨Z, z1, z2, z3⟩ := x_fp_ok hp hp31 hP n _ _ _ (E / 2) (W * W % p) A eh ew ha hW2 hA (by omega)
        refine ⟨Z, z1, z2, ?_⟩
        rw [z3, epow, show 2 * (E / 2) = E by omega]
theorem x_fcv_ok {p : Nat} (h : x_PRM p) (hp31 : p < 2 ^ 31) {P : Int64} (hP : P.toInt = (p : Int)) {x : Int64} {X : Nat} (hx : x.toInt = (X : Int)) (h0 : 0 < X) (hX : X < p) : ∃ Z : Nat, (x_fcv P x).toInt = (Z : Int) ∧ Z < p ∧ Z * X % p = 1 := by
  have hp := h.1
  have e2 : (P - 2).toInt = ((p - 2 : Nat) : Int) := by
    rw [Int64.toInt_sub, hP, show (2 : Int64).toInt = 2 from by decide]
    rw [show ((p - 2 : Nat) : Int) = (p : Int) - 2 by omega]
    exact Int.bmod_eq_of_le (by omega) (by omega)
  obtain ⟨Z, z1, z2, z3⟩ := x_fp_ok hp hp31 hP (P - 2).toInt.toNat (P - 2) x 1 (p - 2) X 1 e2 hx (by decide) hX hp (by rw [e2]; omega)
  refine ⟨Z, z1, z2, ?_⟩
  rw [z3, Nat.one_mul, Nat.mod_mul_mod, ← Nat.pow_succ, show (p - 2).succ = p - 1 by omega]
  exact x_fer h h0 hX
/-- Euclid's steps: what comes out -/
theorem x_ie_ok {p X : Nat} (hp31 : p < 2 ^ 31) : ∀ (n : Nat) (a b fa fb : Int64) (A B : Nat) (FA FB : Int), a.toInt = (A : Int) → b.toInt = (B : Int) → fa.toInt = FA → fb.toInt = FB → Nat.gcd A B = 1 → 0 < A → A ≤ p → B ≤ A → A * B < 2 ^ n → (p : Int) ∣ FA * X - A → (p : Int) ∣ FB * X - B → FA.natAbs * B + FB.natAbs * A = p → FA.natAbs ≤ p → (0 ≤ FA ∧ FB ≤ 0 ∨ FA ≤ 0 ∧ 0 ≤ FB) → ∃ Z : Int, (x_ie n a b fa fb).toInt = Z ∧ Z.natAbs ≤ p ∧ (p : Int) ∣ Z * X - 1
  | 0, a, b, fa, fb, A, B, FA, FB, ea, eb, efa, efb, hg, hA0, hA, hB, hn, d1, d2, hs, hl, hsg => by
    have hB0 : B = 0 := by
      rcases Nat.eq_zero_or_pos B with q | q
      · exact q
      · have := Nat.mul_pos hA0 q
        omega
    subst hB0
    rw [Nat.gcd_zero_right] at hg
    subst hg
    exact ⟨FA, efa, hl, d1⟩
  | n + 1, a, b, fa, fb, A, B, FA, FB, ea, eb, efa, efb, hg, hA0, hA, hB, hn, d1, d2, hs, hl, hsg => by
    show ∃ Z : Int, (if b = 0 then fa else x_ie n b (a - a / b * b) fb (fa - a / b * fb)).toInt = Z ∧ _
    by_cases c : b = 0
    · rw [if_pos c]
      have hB0 : B = 0 := by
        rw [c, show (0 : Int64).toInt = 0 from rfl] at eb
        omega
      subst hB0
      rw [Nat.gcd_zero_right] at hg
      subst hg
      exact ⟨FA, efa, hl, d1⟩
    · rw [if_neg c]
      have hB0 : 0 < B := Nat.pos_of_ne_zero (fun q => c (Int64.toInt_inj.mp (by rw [eb, q]; rfl)))
      have hq1 : A / B * B ≤ A := Nat.div_mul_le_self A B
      have hdm : A / B * B + A % B = A := by rw [Nat.mul_comm]; exact Nat.div_add_mod A B
      have hr : A % B < B := Nat.mod_lt A hB0
      have hq0 : 1 ≤ A / B := (Nat.one_le_div_iff hB0).mpr hB
      have er : (a - a / b * b).toInt = ((A % B : Nat) : Int) := by
        rw [x_lrem, ea, eb, Int.tmod_eq_emod_of_nonneg (by omega)]
        rfl
      have eq : (a / b).toInt = ((A / B : Nat) : Int) := by
        rw [Int64.toInt_div, ea, eb, Int.tdiv_eq_ediv_of_nonneg (by omega), show ((A : Int) / (B : Int)) = ((A / B : Nat) : Int) from rfl]
        have : A / B ≤ A := Nat.div_le_self A B
        exact Int.bmod_eq_of_le (by omega) (by omega)
      have hfb : FB.natAbs ≤ p := by
        have := Nat.le_mul_of_pos_right FB.natAbs hA0
        omega
      have hmul : (A / B) * FB.natAbs ≤ p := by
        have h1 : (A / B) * FB.natAbs ≤ A * FB.natAbs := Nat.mul_le_mul_right _ (Nat.div_le_self A B)
        rw [Nat.mul_comm A] at h1
        omega
      have hmi : (((A / B : Nat) : Int) * FB).natAbs = A / B * FB.natAbs := by rw [Int.natAbs_mul]; rfl
      have em : (a / b * fb).toInt = ((A / B : Nat) : Int) * FB := by
        rw [Int64.toInt_mul, eq, efb]
        exact Int.bmod_eq_of_le (by omega) (by omega)
      have ef : (fa - a / b * fb).toInt = FA - ((A / B : Nat) : Int) * FB := by
        rw [Int64.toInt_sub, em, efa]
        exact Int.bmod_eq_of_le (by omega) (by omega)
      have hsgn : (0 ≤ FA ∧ FB ≤ 0 ∧ ((A / B : Nat) : Int) * FB ≤ 0) ∨ (FA ≤ 0 ∧ 0 ≤ FB ∧ 0 ≤ ((A / B : Nat) : Int) * FB) := by
        rcases hsg with q | q
        · exact Or.inl ⟨q.1, q.2, Int.mul_nonpos_of_nonneg_of_nonpos (by omega) q.2⟩
        · exact Or.inr ⟨q.1, q.2, Int.mul_nonneg (by omega) q.2⟩
      have habs : (FA - ((A / B : Nat) : Int) * FB).natAbs = FA.natAbs + A / B * FB.natAbs := by
        rw [← hmi]
        omega
      refine x_ie_ok hp31 n b (a - a / b * b) fb (fa - a / b * fb) B (A % B) FB (FA - ((A / B : Nat) : Int) * FB) eb er efb ef ?_ hB0 (by omega) (Nat.le_of_lt hr) ?_ d2 ?_ ?_ hfb ?_
      · rw [Nat.gcd_comm, ← Nat.gcd_rec, Nat.gcd_comm]
        exact hg
      · have h2 : 2 * (A % B) ≤ A := by
          have := Nat.mul_le_mul_right B hq0
          omega
        have h3 : B * (2 * (A % B)) ≤ B * A := Nat.mul_le_mul_left B h2
        rw [Nat.mul_left_comm, Nat.mul_comm B A] at h3
        rw [Nat.pow_succ] at hn
        omega
      · obtain ⟨u, hu⟩ := d1
        obtain ⟨v, hv⟩ := d2
        refine ⟨u - ((A / B : Nat) : Int) * v, ?_⟩
        have hc : (A : Int) = ((A / B : Nat) : Int) * (B : Int) + ((A % B : Nat) : Int) := by
          rw [← Int.natCast_mul, ← Int.natCast_add, hdm]
        have e1 : ((A / B : Nat) : Int) * FB * (X : Int) = ((A / B : Nat) : Int) * ((p : Int) * v) + ((A / B : Nat) : Int) * (B : Int) := by
          rw [← hv, Int.mul_assoc, Int.mul_sub]
          omega
        rw [Int.sub_mul, Int.mul_sub, e1, Int.mul_left_comm (p : Int)]
        omega
      · rw [habs, Nat.add_mul, Nat.mul_assoc, Nat.mul_comm FB.natAbs B, ← Nat.mul_assoc]
        have e1 : A / B * B * FB.natAbs + FB.natAbs * (A % B) = FB.natAbs * A := by
          rw [Nat.mul_comm FB.natAbs (A % B), ← Nat.add_mul, hdm, Nat.mul_comm]
        omega
      · rcases hsgn with q | q
        · exact Or.inr ⟨q.2.1, by omega⟩
        · exact Or.inl ⟨q.2.1, by omega⟩
theorem x_icv_ok {p : Nat} (h : x_PRM p) (hp31 : p < 2 ^ 31) {P : Int32} (hP : P.toInt = (p : Int)) {x : Int32} {X : Nat} (hx : x.toInt = (X : Int)) (h0 : 0 < X) (hX : X < p) : ∃ Z : Nat, (x_icv P x).toInt = (Z : Int) ∧ Z < p ∧ Z * X % p = 1 := by
  have hp := h.1
  have hst : x_ie 100 x.toInt64 P.toInt64 1 0 = x_ie 99 P.toInt64 x.toInt64 0 1 := by
    show (if P.toInt64 = 0 then (1 : Int64) else x_ie 99 P.toInt64 (x.toInt64 - x.toInt64 / P.toInt64 * P.toInt64) 0 (1 - x.toInt64 / P.toInt64 * 0)) = _
    have c : ¬ P.toInt64 = 0 := x_i2l0 (fun q => by rw [q] at hP; have : (0 : Int) = (p : Int) := hP; omega)
    have e1 : x.toInt64 - x.toInt64 / P.toInt64 * P.toInt64 = x.toInt64 := Int64.toInt_inj.mp (by
      rw [x_lrem, x_i64, x_i64, hx, hP, Int.tmod_eq_emod_of_nonneg (by omega)]
      exact Int.emod_eq_of_lt (by omega) (by omega))
    rw [if_neg c, e1, Int64.mul_zero, Int64.sub_zero]
  have hb : p * X < 2 ^ 99 := by
    have h1 : p * X ≤ 2 ^ 31 * 2 ^ 31 := Nat.mul_le_mul (by omega) (by omega)
    exact Nat.lt_of_le_of_lt h1 (by decide)
  obtain ⟨Z, z1, z2, z3⟩ := x_ie_ok (p := p) (X := X) hp31 99 P.toInt64 x.toInt64 0 1 p X 0 1 (by rw [x_i64, hP]) (by rw [x_i64, hx]) (by decide) (by decide) (by rw [Nat.gcd_comm]; exact h.cop h0 hX) (by omega) (Nat.le_refl _) (by omega) hb (by rw [Int.zero_mul]; exact ⟨-1, by omega⟩) (by rw [Int.one_mul, Int.sub_self]; exact Int.dvd_zero _) (by simp) (by simp) (Or.inr ⟨by decide, by decide⟩)
  have hnd : ∀ c : Int, ¬ (p : Int) * c = 1 := fun c q => by
    have h1 : (p : Int) ∣ 1 := ⟨c, q.symm⟩
    have := Int.le_of_dvd (by decide) h1
    omega
  obtain ⟨m, hm⟩ := z3
  have n1 : Z ≠ (p : Int) := fun q => by
    rw [q] at hm
    exact hnd ((X : Int) - m) (by rw [Int.mul_sub]; omega)
  have n2 : Z ≠ -(p : Int) := fun q => by
    rw [q, Int.neg_mul] at hm
    exact hnd (-(X : Int) - m) (by rw [Int.mul_sub, Int.mul_neg]; omega)
  have hW : ∃ W : Int, (x_icv P x).toInt = W ∧ 0 ≤ W ∧ W < (p : Int) ∧ ∃ c : Int, W * X = 1 + (p : Int) * c := by
    unfold x_icv
    rw [hst]
    by_cases c : 0 ≤ x_ie 99 P.toInt64 x.toInt64 0 1
    · have c2 := Int64.le_iff_toInt_le.mp c
      rw [z1, show (0 : Int64).toInt = 0 from rfl] at c2
      rw [if_pos c]
      exact ⟨Z, z1, c2, by omega, m, by omega⟩
    · have c2 : ¬ 0 ≤ Z := fun q => c (Int64.le_iff_toInt_le.mpr (by rw [z1]; exact q))
      rw [if_neg c]
      refine ⟨Z + p, ?_, by omega, by omega, m + X, ?_⟩
      · rw [Int64.toInt_add, z1, x_i64, hP]
        exact Int.bmod_eq_of_le (by omega) (by omega)
      · rw [Int.add_mul, Int.mul_add]
        omega
  obtain ⟨W, w1, w2, w3, c, hc⟩ := hW
  refine ⟨W.toNat, by rw [w1]; omega, by omega, ?_⟩
  have e1 : ((W.toNat * X % p : Nat) : Int) = 1 := by
    rw [Int.natCast_emod, Int.natCast_mul, Int.toNat_of_nonneg w2, hc, Int.add_mul_emod_self_left]
    exact Int.emod_eq_of_lt (by decide) (by omega)
  omega
theorem x_gpB {p : Nat} (h : x_PRM p) (hp31 : p < 2 ^ 31) : x_GP (nI p) := by
  have hp := h.1
  have ep : (nI p).toInt = (p : Int) := nI_toInt hp31
  have hv : ∀ X : Nat, 0 < X → X < p → ∃ Z : Nat, x_ivP (nI p) (X : Int) = (Z : Int) ∧ Z < p ∧ Z * X % p = 1 := fun X h0 hX => by
    unfold x_ivP
    rw [x_ofI (by omega)]
    exact x_icv_ok h hp31 ep (nI_toInt (by omega)) h0 hX
  refine ⟨by rw [ep]; omega, fun x g1 g2 => ?_, fun x g1 g2 => ?_, fun x g1 g2 => ?_⟩
  · rw [ep] at g2 ⊢
    obtain ⟨n, hn⟩ : ∃ n : Nat, x.toInt = (n : Int) := ⟨x.toInt.toNat, by omega⟩
    have ex : x = nI n := Int32.toInt_inj.mp (by rw [nI_toInt (by omega), hn])
    obtain ⟨Z, z1, z2, z3⟩ := hv n (by omega) (by omega)
    rw [hn, z1]
    refine ⟨?_, by omega, by omega⟩
    rw [← z1]
    unfold x_ivP
    rw [x_ofI (by omega), ex]
  · rw [x_i64, ep] at g2
    rw [x_i64, ep]
    obtain ⟨n, hn⟩ : ∃ n : Nat, x.toInt = (n : Int) := ⟨x.toInt.toNat, by omega⟩
    obtain ⟨Z, z1, z2, z3⟩ := hv n (by omega) (by omega)
    obtain ⟨Y, y1, y2, y3⟩ := x_fcv_ok h hp31 (P := (nI p).toInt64) (by rw [x_i64, ep]) hn (by omega) (by omega)
    have ezy : Y = Z := by
      have e1 : Y * (Z * n) % p = Y := by rw [Nat.mul_mod, z3, Nat.mul_one, Nat.mod_mod, Nat.mod_eq_of_lt y2]
      have e2 : Y * (Z * n) % p = Z := by rw [Nat.mul_left_comm, Nat.mul_mod, y3, Nat.mul_one, Nat.mod_mod, Nat.mod_eq_of_lt z2]
      omega
    rw [hn, z1, y1, ezy]
    omega
  · rw [ep] at g2 ⊢
    obtain ⟨n, rfl⟩ : ∃ n : Nat, x = (n : Int) := ⟨x.toNat, by omega⟩
    obtain ⟨Z, z1, z2, z3⟩ := hv n (by omega) (by omega)
    rw [z1, ← Int.natCast_mul, ← Int.natCast_emod, z3]
    exact (Int.emod_eq_of_lt (by decide) (by omega)).symm
theorem x_prP : x_PRM 2147483647 := x_prT 2147483647 (by decide) (by decide) (by decide +kernel)
theorem x_prQ : x_PRM 2147483629 := x_prT 2147483629 (by decide) (by decide) (by decide +kernel)
theorem x_gpP : x_GP (2147483647 : Int32) := x_gpB x_prP (by decide)
theorem x_gpQ : x_GP (2147483629 : Int32) := x_gpB x_prQ (by decide)
