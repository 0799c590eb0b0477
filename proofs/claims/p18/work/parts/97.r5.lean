/-! BETTI NUMBERS: both sides -/
theorem q_betti {pl0 ke0 sz0 se0 gr0 pl1 ke1 sz1 se1 gr1 im ce wo pv fa pm pw fr ba : Nat → Int32} {rw : Nat → Int64} {ro co mo : Int32} {mi : Int64} {ki : Int32} {M : mm_H} {c k w : Int32} (hE : mm_TC kM 57 [.ref 0, .int c, .int k, .int 2147483647] (kC pl0 ke0 sz0 se0 gr0 pl1 ke1 sz1 se1 gr1 im ce wo pv fa pm pw fr ba rw ro co mo mi ki M) (fun v h => v = some (.int w) ∧ x_GR pl0 ke0 sz0 se0 gr0 pl1 ke1 sz1 se1 gr1 im M h)) : mm_TC kM 40 [.ref 0, .int c, .int k] (kC pl0 ke0 sz0 se0 gr0 pl1 ke1 sz1 se1 gr1 im ce wo pv fa pm pw fr ba rw ro co mo mi ki M) (fun v h => v = some (.int w) ∧ x_GR pl0 ke0 sz0 se0 gr0 pl1 ke1 sz1 se1 gr1 im M h) := by
  refine mm_TC.of (M := kq_40) rfl rfl ?_
  refine mm_T.s rfl rfl rfl (fun _ => rfl) ?_
  refine mm_T.s rfl rfl rfl (fun _ => rfl) ?_
  refine mm_T.s rfl rfl rfl (fun _ => rfl) ?_
  refine mm_T.s rfl rfl rfl (fun _ => rfl) ?_
  refine mm_T.ivw rfl rfl rfl rfl rfl rfl hE ?_
  rintro _ _ ⟨rfl, hG⟩
  exact mm_T.ret rfl rfl rfl (⟨rfl, hG⟩)
theorem m_brE {c : Nat → mm_C} {has ke f cy sp e1 e2 e3 : Nat → Int32} {ma wo dv : Nat → Int64} {ro co di tr : Int32} {pl kc sz se : Nat → Int32} (hI : x_MI has) {n : Nat} (hn : n < 2) (hJ : x_J1 pl kc has ke n) (hC : x_CI pl sz se) (k : Int32) : mm_TC kM 86 [.ref 25, .int (nI n), .int k] (kD c has ke f ma wo dv cy sp e1 e2 e3 ro co di tr) (fun v h => v = some (.int (nI (x_rk pl se 2147483647 k))) ∧ ∃ ma1 wo1 ro1 co1, h = (kD c has ke f ma1 wo1 dv cy sp e1 e2 e3 ro1 co1 di tr)) := by
  have a1 := hI n hn k
  have a2 := hI n hn (k - 1)
  have pP : 0 < (2147483647 : Int64).toInt ∧ (2147483647 : Int64).toInt < 2 ^ 31 := by decide
  have pQ : 0 < (2147483629 : Int64).toInt ∧ (2147483629 : Int64).toInt < 2 ^ 31 := by decide
  have hle := x_rk_le hC x_gpP x_gpQ (by decide) (by decide) k
  have hrl : x_rk pl se 2147483647 k < 2 ^ 31 := by
    have z := (x_st_c (R := x_m pl (k - 1)) (C := x_m pl k) (p := (2147483647 : Int32).toInt) (iv := x_ivP 2147483647) (E := (fun r j => (x_sf (se ((k.toNatClampNeg - 1) * 24 + r)) (se (k.toNatClampNeg * 24 + j))).toInt % (2147483647 : Int32).toInt)) (fun a b _ _ => rfl) _ (Nat.le_refl _)).1
    have z2 := x_m_le hC (k - 1)
    have z : x_rk pl se 2147483647 k ≤ x_m pl (k - 1) := z
    omega
  have key : ∀ ma1 : Nat → Int64, x_BM has n k ma1 → ∀ wo0, mm_TC kM 85 [.ref 25] (kD c has ke f ma1 wo0 dv cy sp e1 e2 e3 (nI (x_mn has n (k - 1) 255)) (nI (x_mn has n k 255)) di tr) (fun v h => v = some (.int (nI (x_rk pl se 2147483647 k))) ∧ ∃ wo1, h = (kD c has ke f ma1 wo1 dv cy sp e1 e2 e3 (nI (x_mn has n (k - 1) 255)) (nI (x_mn has n k 255)) di tr)) := fun ma1 hB wo0 => by
    have eP := x_BM_E hJ hC hB (p := 2147483647)
    have eQ := x_BM_E hJ hC hB (p := 2147483629)
    refine mm_TC.of (M := kq_85) rfl rfl ?_
    refine mm_T.s rfl rfl rfl (fun _ => rfl) ?_
    refine mm_T.s rfl rfl rfl (fun _ => rfl) ?_
    refine mm_T.ivw rfl rfl rfl rfl rfl rfl (m_rmE (p := 2147483647) (iv := x_ivP 2147483647) (by omega) (by omega) pP.1 pP.2 x_gpP.2.2.1 x_gpP.2.2.2) ?_
    rintro _ _ ⟨rfl, wo1, rfl⟩
    rw [show (2147483647 : Int64).toInt = (2147483647 : Int32).toInt from by decide, eP]
    refine mm_T.s rfl rfl rfl (fun _ => rfl) ?_
    refine mm_T.s rfl rfl rfl (fun _ => rfl) ?_
    refine mm_T.s rfl rfl rfl (fun _ => rfl) ?_
    refine mm_T.ivw rfl rfl rfl rfl rfl rfl (m_rmE (p := 2147483629) (iv := x_ivP 2147483629) (by omega) (by omega) pQ.1 pQ.2 x_gpQ.2.2.1 x_gpQ.2.2.2) ?_
    rintro _ _ ⟨rfl, wo2, rfl⟩
    rw [show (2147483629 : Int64).toInt = (2147483629 : Int32).toInt from by decide, eQ]
    refine mm_T.s rfl rfl rfl (fun _ => rfl) ?_
    refine mm_T.s rfl rfl rfl (fun _ => rfl) ?_
    refine mm_T.s rfl rfl rfl (fun _ => rfl) ?_
    refine mm_T.ci rfl rfl (fun hb18 => ?_) (fun hb18 => ?_)
    · skip
      have hb18 : x_rk pl se 2147483647 k ≤ x_rk pl se 2147483629 k := (nI_leI hrl (by omega)).mp hb18
      have e9 : x_rk pl se 2147483629 k = x_rk pl se 2147483647 k := by omega
      refine mm_T.s rfl rfl rfl (fun _ => rfl) ?_
      exact mm_T.ret rfl rfl rfl (⟨by rw [← e9], _, rfl⟩)
    · skip
      have e9 : x_rk pl se 2147483647 k = x_rk pl se 2147483647 k := rfl
      refine mm_T.s rfl rfl rfl (fun _ => rfl) ?_
      refine mm_T.s rfl rfl rfl (fun _ => rfl) ?_
      exact mm_T.ret rfl rfl rfl (⟨by rw [← e9], _, rfl⟩)
  refine mm_TC.of (M := kq_86) rfl rfl ?_
  refine mm_T.s rfl rfl rfl (fun _ => rfl) ?_
  refine mm_T.s rfl rfl rfl (fun _ => rfl) ?_
  refine mm_T.s rfl rfl rfl (fun _ => rfl) ?_
  refine mm_T.ivw rfl rfl rfl rfl rfl rfl (m_bo hI hn k) ?_
  rintro _ _ ⟨rfl, ma1, hB, rfl⟩
  refine mm_T.s rfl rfl rfl (fun _ => rfl) ?_
  refine mm_T.ivw rfl rfl rfl rfl rfl rfl (key ma1 hB _) ?_
  rintro _ _ ⟨rfl, wo1, rfl⟩
  exact mm_T.ret rfl rfl rfl (⟨rfl, _, _, _, _, rfl⟩)
theorem m_bettiE {c : Nat → mm_C} {has ke f cy sp e1 e2 e3 : Nat → Int32} {ma wo dv : Nat → Int64} {ro co di tr : Int32} {pl kc sz se : Nat → Int32} (hI : x_MI has) {n : Nat} (hn : n < 2) (hJ : x_J1 pl kc has ke n) (hC : x_CI pl sz se) {k : Int32} (k0 : ¬ k < 0) (k3 : ¬ 3 < k) : mm_TC kM 87 [.ref 25, .int (nI n), .int k] (kD c has ke f ma wo dv cy sp e1 e2 e3 ro co di tr) (fun v h => v = some (.int (x_bv pl se 2147483647 k)) ∧ x_GM c has ke f h) := by
  have hb : nI n = 0 ∨ nI n = 1 := by
    have : n = 0 ∨ n = 1 := by omega
    rcases this with rfl | rfl
    · exact Or.inl rfl
    · exact Or.inr rfl
  refine mm_TC.of (M := kq_87) rfl rfl ?_
  refine mm_T.s rfl rfl rfl (fun _ => rfl) ?_
  refine mm_T.ic rfl rfl rfl rfl rfl (x_isC1 hb) ?_
  refine mm_T.s rfl rfl rfl (fun _ => rfl) ?_
  refine mm_T.s rfl rfl rfl (fun _ => rfl) ?_
  refine mm_T.ic rfl rfl rfl rfl rfl (x_isD1 k0 k3) ?_
  refine mm_T.s rfl rfl rfl (fun _ => rfl) ?_
  refine mm_T.s rfl rfl rfl (fun _ => rfl) ?_
  refine mm_T.s rfl rfl rfl (fun _ => rfl) ?_
  refine mm_T.s rfl rfl rfl (fun _ => rfl) ?_
  refine mm_T.iv rfl rfl rfl rfl rfl rfl (g_many rfl rfl hn k) ?_
  refine mm_T.ti _ (show nI (x_mn has n k 255) = nI (x_m pl k) by rw [hJ.m hC]) ?_
  refine mm_T.s rfl rfl rfl (fun _ => rfl) ?_
  refine mm_T.s rfl rfl rfl (fun _ => rfl) ?_
  refine mm_T.s rfl rfl rfl (fun _ => rfl) ?_
  refine mm_T.ivw rfl rfl rfl rfl rfl rfl (m_brE hI hn hJ hC k) ?_
  rintro _ _ ⟨rfl, ma1, wo1, ro1, co1, rfl⟩
  refine mm_T.s rfl rfl rfl (fun _ => rfl) ?_
  refine mm_T.s rfl rfl rfl (fun _ => rfl) ?_
  refine mm_T.s rfl rfl rfl (fun _ => rfl) ?_
  refine mm_T.s rfl rfl rfl (fun _ => rfl) ?_
  refine mm_T.s rfl rfl rfl (fun _ => rfl) ?_
  refine mm_T.s rfl rfl rfl (fun _ => rfl) ?_
  refine mm_T.ivw rfl rfl rfl rfl rfl rfl (m_brE hI hn hJ hC (k + 1)) ?_
  rintro _ _ ⟨rfl, ma2, wo2, ro2, co2, rfl⟩
  refine mm_T.s rfl rfl rfl (fun _ => rfl) ?_
  refine mm_T.s rfl rfl rfl (fun _ => rfl) ?_
  exact mm_T.ret rfl rfl rfl (⟨rfl, _, _, _, _, _, _, _, _, _, _, _, _, rfl⟩)
theorem m_bettiB {h : mm_H} {c k : Int32} (hz : ¬ (c = 0 ∨ c = 1) ∨ (k < 0 ∨ 3 < k)) : mm_EC kM 87 [.ref 25, .int c, .int k] h (some (.int (-1)), h) := by
  refine ⟨kq_87, rfl, rfl, ?_⟩
  by_cases hb : c = 0 ∨ c = 1
  · have hk : k < 0 ∨ 3 < k := hz.resolve_left (fun q => q hb)
    refine mm_E.s rfl rfl rfl (fun _ => rfl) ?_
    refine mm_E.ic rfl rfl rfl rfl rfl (x_isC1 hb) ?_
    refine mm_E.s rfl rfl rfl (fun _ => rfl) ?_
    refine mm_E.s rfl rfl rfl (fun _ => rfl) ?_
    refine mm_E.ic rfl rfl rfl rfl rfl (x_isD0 hk) ?_
    refine mm_E.s rfl rfl rfl (fun _ => rfl) ?_
    refine mm_E.s rfl rfl rfl (fun _ => rfl) ?_
    exact mm_E.ret rfl rfl rfl
  · skip
    refine mm_E.s rfl rfl rfl (fun _ => rfl) ?_
    refine mm_E.ic rfl rfl rfl rfl rfl (x_isC0 hb) ?_
    refine mm_E.s rfl rfl rfl (fun _ => rfl) ?_
    refine mm_E.s rfl rfl rfl (fun _ => rfl) ?_
    exact mm_E.ret rfl rfl rfl
