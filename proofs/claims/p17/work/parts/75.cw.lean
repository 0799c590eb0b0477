/-! THE COUNTER: calls that reckon end well -/
theorem w_sdrop {pl0 ke0 sz0 se0 gr0 pl1 ke1 sz1 se1 gr1 im ce wo pv fa pm pw fr ba : Nat → Int32} {rw : Nat → Int64} {ro co mo : Int32} {mi : Int64} {ki : Int32} {M : mm_H} : mm_TC kM 31 [.ref 21] (kC pl0 ke0 sz0 se0 gr0 pl1 ke1 sz1 se1 gr1 im ce wo pv fa pm pw fr ba rw ro co mo mi ki M) (fun v h => v = none ∧ ∃ rw', h = (kC pl0 ke0 sz0 se0 gr0 pl1 ke1 sz1 se1 gr1 im ce wo pv fa pm pw fr ba rw' ro co mo mi ki M)) := by
  refine mm_TC.of (M := kq_31) rfl rfl ?_
  refine mm_T.s rfl rfl rfl (fun _ => rfl) ?_
  refine mm_T.gf rfl rfl rfl rfl rfl ?_
  refine mm_T.s rfl rfl rfl (fun _ => rfl) ?_
  refine mm_T.ic rfl rfl rfl rfl rfl (x_fillL rfl (by decide)) ?_
  exact mm_T.ret rfl rfl rfl (⟨rfl, _, rfl⟩)

abbrev x_cs (pl0 pl1 im : Nat → Int32) : Prop := ∀ q, 1 ≤ q → q < 256 → ¬ pl0 q = -1 → ¬ pl1 (x_ig im (nI q) 8).toNatClampNeg = -1
theorem x_ig_lt {f : Nat → Int32} (hf : x_fo f) (s : Int32) : ∃ m : Nat, m < 256 ∧ x_ig f s 8 = nI m := by
  obtain ⟨m, h1, h2⟩ := x_io_lt hf s 8 (Nat.le_refl 8)
  exact ⟨m, h1, by rw [x_ig_io]; exact h2⟩
theorem x_fo_7 {f : Nat → Int32} (hf : x_fo f) {v : Nat} (hv : v < 8) : ∃ u : Nat, u < 8 ∧ f v = nI u := hf v hv
theorem v_sz0 {pl0 ke0 sz0 se0 gr0 pl1 ke1 sz1 se1 gr1 im ce wo pv fa pm pw fr ba : Nat → Int32} {rw : Nat → Int64} {ro co mo : Int32} {mi : Int64} {ki : Int32} {M : mm_H} (hI : x_CI pl0 sz0 se0) (k : Int32) : mm_EC kM 4 [.ref 1, .int k] (kC pl0 ke0 sz0 se0 gr0 pl1 ke1 sz1 se1 gr1 im ce wo pv fa pm pw fr ba rw ro co mo mi ki M) (some (.int (nI (x_m pl0 k))), (kC pl0 ke0 sz0 se0 gr0 pl1 ke1 sz1 se1 gr1 im ce wo pv fa pm pw fr ba rw ro co mo mi ki M)) := by
  have z := v_size0 (pl0 := pl0) (ke0 := ke0) (sz0 := sz0) (se0 := se0) (gr0 := gr0) (pl1 := pl1) (ke1 := ke1) (sz1 := sz1) (se1 := se1) (gr1 := gr1) (im := im) (ce := ce) (wo := wo) (pv := pv) (fa := fa) (pm := pm) (pw := pw) (fr := fr) (ba := ba) (rw := rw) (ro := ro) (co := co) (mo := mo) (mi := mi) (ki := ki) (M := M) k
  have e : (if ¬ k < 0 ∧ ¬ 4 ≤ k then sz0 k.toNatClampNeg else 0) = nI (x_m pl0 k) := by
    unfold x_m
    by_cases h : ¬ k < 0 ∧ ¬ 4 ≤ k
    · rw [if_pos h, if_pos h]
      obtain ⟨j, hj, rfl⟩ := nI_of2 (x := k) (M := 3) (n := 3) rfl h.1 (Int32.not_lt.mp (fun q => h.2 (x_34 q)))
      rw [mm_cl (by omega)]
      exact hI.sz (by omega)
    · rw [if_neg h, if_neg h]
      rfl
  rw [e] at z
  exact z
theorem x_sok0 {pl0 sz0 se0 : Nat → Int32} (hI : x_CI pl0 sz0 se0) {a : Nat} (ha : a < 4) : x_sok sz0 se0 a (x_ct pl0 a 255) := ⟨hI.sz ha, hI.le ha, fun t ht => by
  obtain ⟨q, h1, h2, h3, -⟩ := hI.set ha ht
  exact ⟨q, h2, h3⟩⟩
theorem w_wb0 {pl0 ke0 sz0 se0 gr0 pl1 ke1 sz1 se1 gr1 im ce wo pv fa pm pw fr ba : Nat → Int32} {rw : Nat → Int64} {ro co mo : Int32} {mi : Int64} {ki : Int32} {M : mm_H} (hI : x_CI pl0 sz0 se0) (k : Int32) {a b : Nat} (ha : a ≤ 24) (hb : b ≤ 24) : mm_TC kM 60 [.ref 0, .ref 1, .int k, .int (nI a), .int (nI b)] (kC pl0 ke0 sz0 se0 gr0 pl1 ke1 sz1 se1 gr1 im ce wo pv fa pm pw fr ba rw ro co mo mi ki M) (fun v h => v = none ∧ ∃ ce', h = (kC pl0 ke0 sz0 se0 gr0 pl1 ke1 sz1 se1 gr1 im ce' wo pv fa pm pw fr ba rw ro co mo mi ki M)) := by
  have hm24 := x_m_le hI k
  refine mm_TC.of (M := kq_60) rfl rfl ?_
  refine mm_T.s rfl rfl rfl (fun _ => rfl) ?_
  refine mm_T.cz rfl rfl (fun hb1 => ?_) (fun hb1 => ?_)
  · skip
    refine mm_T.s rfl rfl rfl (fun _ => rfl) ?_
    refine mm_T.s rfl rfl rfl (fun _ => rfl) ?_
    refine mm_T.up (n := (x_m pl0 k)) (P := fun i L h => ∃ x5 y6 y7 y8 ce', x5 = nI i ∧ L = [some (.ref 0), some (.ref 1), some (.int k), some (.int (nI a)), some (.int (nI b)), some (.int x5), y6, y7, y8] ∧ h = (kC pl0 ke0 sz0 se0 gr0 pl1 ke1 sz1 se1 gr1 im ce' wo pv fa pm pw fr ba rw ro co mo mi ki M)) ?_ ?_ 0 (Nat.zero_le _) _ _ ⟨_, _, _, _, _, rfl, rfl, rfl⟩
    · skip
      rintro i _ _ hi ⟨x5, y6, y7, y8, ce1, rfl, rfl, rfl⟩ K
      have hi0 := hi
      obtain ⟨kk, hk4, rfl, em⟩ := x_m_pos hi0
      rw [em] at hi0
      obtain ⟨q, hq1, hq2, hq, hqd, hqp, hqc⟩ := hI.set hk4 hi0
      have hkk0 : ¬ nI kk = 0 := hb1
      have hdm : ¬ x_dm (nI q) = 0 := by
        rw [hqd]
        exact hkk0
      have E2 : mm_EC kM 5 [.ref 1, .int (nI kk), .int (nI i)] (kC pl0 ke0 sz0 se0 gr0 pl1 ke1 sz1 se1 gr1 im ce1 wo pv fa pm pw fr ba rw ro co mo mi ki M) (some (.int (nI q)), (kC pl0 ke0 sz0 se0 gr0 pl1 ke1 sz1 se1 gr1 im ce1 wo pv fa pm pw fr ba rw ro co mo mi ki M)) := by
        rw [← hq]
        exact v_setAt0 (by omega)
      refine mm_T.s rfl rfl rfl (fun _ => rfl) ?_
      refine mm_T.s rfl rfl rfl (fun _ => rfl) ?_
      refine mm_T.s rfl rfl rfl (fun _ => rfl) ?_
      refine mm_T.iv rfl rfl rfl rfl rfl rfl (v_sz0 hI _) ?_
      refine mm_T.s rfl rfl rfl (fun _ => if_neg (nI_ge hi (by omega))) ?_
      refine mm_T.s rfl rfl rfl (fun _ => rfl) ?_
      refine mm_T.s rfl rfl rfl (fun _ => rfl) ?_
      refine mm_T.s rfl rfl rfl (fun _ => rfl) ?_
      refine mm_T.iv rfl rfl rfl rfl rfl rfl E2 ?_
      refine mm_T.s rfl rfl rfl (fun _ => rfl) ?_
      refine mm_T.s rfl rfl rfl (fun _ => rfl) ?_
      refine mm_T.s rfl rfl rfl (fun _ => rfl) ?_
      refine mm_T.up (n := 8) (P := fun v L h => ∃ x7 y8 ce', x7 = nI v ∧ L = [some (.ref 0), some (.ref 1), some (.int (nI kk)), some (.int (nI a)), some (.int (nI b)), some (.int (nI i)), some (.int (nI q)), some (.int x7), y8] ∧ h = (kC pl0 ke0 sz0 se0 gr0 pl1 ke1 sz1 se1 gr1 im ce' wo pv fa pm pw fr ba rw ro co mo mi ki M)) ?_ ?_ 0 (Nat.zero_le _) _ _ ⟨_, _, _, rfl, rfl, rfl⟩
      · skip
        rintro v _ _ hv ⟨x7, y8, ce2, rfl, rfl, rfl⟩ K2
        refine mm_T.s rfl rfl rfl (fun _ => rfl) ?_
        refine mm_T.s rfl rfl rfl (fun _ => rfl) ?_
        refine mm_T.s rfl rfl rfl (fun _ => if_neg (nI_ge (b := 8) hv (by decide))) ?_
        refine mm_T.s rfl rfl rfl (fun _ => rfl) ?_
        refine mm_T.s rfl rfl rfl (fun _ => rfl) ?_
        refine mm_T.s rfl rfl rfl (fun _ => rfl) ?_
        refine mm_T.s rfl rfl rfl (fun _ => rfl) ?_
        refine mm_T.s rfl rfl rfl (fun _ => rfl) ?_
        refine mm_T.s rfl rfl rfl (fun _ => rfl) ?_
        refine mm_T.s rfl rfl rfl (fun _ => rfl) ?_
        refine mm_T.s rfl rfl rfl (fun _ => rfl) ?_
        refine mm_T.s rfl rfl rfl (fun _ => rfl) ?_
        refine mm_T.s rfl rfl rfl (fun _ => rfl) ?_
        refine mm_T.ci rfl rfl (fun hb52 => ?_) (fun hb52 => ?_)
        · skip
          refine mm_T.s rfl rfl rfl (fun _ => rfl) ?_
          refine mm_T.s rfl rfl rfl (fun _ => rfl) ?_
          exact K2 _ _ ⟨_, _, _, nI_1 v, rfl, rfl⟩
        · skip
          obtain ⟨f, hf1, hf, hA, ef⟩ := x_fv_ok hq2 hv hb52 hdm
          obtain ⟨jj, hjj, epl⟩ := hI.pl hf1 hf (hI.2.2.1 q f hq1 hq2 hqp hf1 hf hA)
          have E3 : mm_EC kM 7 [.ref 1, .int (nI f)] (kC pl0 ke0 sz0 se0 gr0 pl1 ke1 sz1 se1 gr1 im ce2 wo pv fa pm pw fr ba rw ro co mo mi ki M) (some (.int (nI jj)), (kC pl0 ke0 sz0 se0 gr0 pl1 ke1 sz1 se1 gr1 im ce2 wo pv fa pm pw fr ba rw ro co mo mi ki M)) := by
            rw [← epl]
            exact v_place0 hf
          refine mm_T.lc (L' := [some (.ref 0), some (.ref 1), some (.int (nI kk)), some (.int (nI a)), some (.int (nI b)), some (.int (nI i)), some (.int (nI q)), some (.int (nI v)), some (.int (nI f))]) (by rw [← ef]; rfl) ?_
          refine mm_T.s rfl rfl rfl (fun _ => rfl) ?_
          refine mm_T.gf rfl rfl rfl rfl rfl ?_
          refine mm_T.s rfl rfl rfl (fun _ => rfl) ?_
          refine mm_T.s rfl rfl rfl (fun _ => rfl) ?_
          refine mm_T.s rfl rfl rfl (fun _ => rfl) ?_
          refine mm_T.iv rfl rfl rfl rfl rfl rfl E3 ?_
          refine mm_T.s rfl rfl rfl (fun _ => rfl) ?_
          refine mm_T.ti (nI (a + jj)) (nI_add a jj) ?_
          refine mm_T.s rfl rfl rfl (fun _ => rfl) ?_
          refine mm_T.s rfl rfl rfl (fun _ => rfl) ?_
          refine mm_T.s rfl rfl rfl (fun _ => rfl) ?_
          refine mm_T.ti (nI (b + i)) (nI_add b i) ?_
          refine mm_T.s rfl rfl rfl (fun _ => rfl) ?_
          refine mm_T.s rfl rfl rfl (fun _ => rfl) ?_
          refine mm_T.ic rfl rfl rfl rfl rfl (v_sf _ _) ?_
          refine mm_T.iv rfl rfl rfl rfl rfl rfl (w_write (by omega) (by omega) _) ?_
          refine mm_T.s rfl rfl rfl (fun _ => rfl) ?_
          refine mm_T.s rfl rfl rfl (fun _ => rfl) ?_
          exact K2 _ _ ⟨_, _, _, nI_1 v, rfl, rfl⟩
      · skip
        rintro _ _ ⟨x7, y8, ce2, rfl, rfl, rfl⟩
        refine mm_T.s rfl rfl rfl (fun _ => rfl) ?_
        refine mm_T.s rfl rfl rfl (fun _ => rfl) ?_
        refine mm_T.s rfl rfl rfl (fun _ => rfl) ?_
        refine mm_T.s rfl rfl rfl (fun _ => rfl) ?_
        refine mm_T.s rfl rfl rfl (fun _ => rfl) ?_
        exact K _ _ ⟨_, _, _, _, _, nI_1 i, rfl, rfl⟩
    · skip
      rintro _ _ ⟨x5, y6, y7, y8, ce1, rfl, rfl, rfl⟩
      refine mm_T.s rfl rfl rfl (fun _ => rfl) ?_
      refine mm_T.s rfl rfl rfl (fun _ => rfl) ?_
      refine mm_T.s rfl rfl rfl (fun _ => rfl) ?_
      refine mm_T.iv rfl rfl rfl rfl rfl rfl (v_sz0 hI _) ?_
      refine mm_T.s rfl rfl rfl (fun _ => if_pos (nI_le (Nat.le_refl _) (by omega))) ?_
      exact mm_T.ret rfl rfl rfl (⟨rfl, _, rfl⟩)
  · skip
    exact mm_T.ret rfl rfl rfl (⟨rfl, _, rfl⟩)

theorem w_lb0 {pl0 ke0 sz0 se0 gr0 pl1 ke1 sz1 se1 gr1 im ce wo pv fa pm pw fr ba : Nat → Int32} {rw : Nat → Int64} {ro co mo : Int32} {mi : Int64} {ki : Int32} {M : mm_H} (hI : x_CI pl0 sz0 se0) (k : Int32) : mm_TC kM 59 [.ref 0, .ref 1, .int k] (kC pl0 ke0 sz0 se0 gr0 pl1 ke1 sz1 se1 gr1 im ce wo pv fa pm pw fr ba rw ro co mo mi ki M) (fun v h => v = none ∧ ∃ ce', h = (kC pl0 ke0 sz0 se0 gr0 pl1 ke1 sz1 se1 gr1 im ce' wo pv fa pm pw fr ba rw (nI (x_m pl0 (k - 1))) (nI (x_m pl0 k)) mo mi ki M)) := by
  have h1 := x_m_le hI k
  have h2 := x_m_le hI (k - 1)
  refine mm_TC.of (M := kq_59) rfl rfl ?_
  refine mm_T.s rfl rfl rfl (fun _ => rfl) ?_
  refine mm_T.gf rfl rfl rfl rfl rfl ?_
  refine mm_T.s rfl rfl rfl (fun _ => rfl) ?_
  refine mm_T.s rfl rfl rfl (fun _ => rfl) ?_
  refine mm_T.s rfl rfl rfl (fun _ => rfl) ?_
  refine mm_T.s rfl rfl rfl (fun _ => rfl) ?_
  refine mm_T.iv rfl rfl rfl rfl rfl rfl (v_sz0 hI (k - 1)) ?_
  refine mm_T.s rfl rfl rfl (fun _ => rfl) ?_
  refine mm_T.s rfl rfl rfl (fun _ => rfl) ?_
  refine mm_T.iv rfl rfl rfl rfl rfl rfl (v_sz0 hI _) ?_
  refine mm_T.ivw rfl rfl rfl rfl rfl rfl (w_shape (by omega) (by omega)) ?_
  rintro _ _ ⟨rfl, ce1, rfl⟩
  refine mm_T.s rfl rfl rfl (fun _ => rfl) ?_
  refine mm_T.s rfl rfl rfl (fun _ => rfl) ?_
  refine mm_T.s rfl rfl rfl (fun _ => rfl) ?_
  refine mm_T.s rfl rfl rfl (fun _ => rfl) ?_
  refine mm_T.s rfl rfl rfl (fun _ => rfl) ?_
  refine mm_T.ivw rfl rfl rfl rfl rfl rfl (w_wb0 hI k (a := 0) (b := 0) (by omega) (by omega)) ?_
  rintro _ _ ⟨rfl, ce2, rfl⟩
  exact mm_T.ret rfl rfl rfl (⟨rfl, _, rfl⟩)

theorem w_br0 {pl0 ke0 sz0 se0 gr0 pl1 ke1 sz1 se1 gr1 im ce wo pv fa pm pw fr ba : Nat → Int32} {rw : Nat → Int64} {ro co mo : Int32} {mi : Int64} {ki : Int32} {M : mm_H} (hI : x_CI pl0 sz0 se0) (k : Int32) {p : Int32} (hp : ∀ l, l ≤ 1 → x_pw p l ≠ 0) : mm_TC kM 58 [.ref 0, .ref 1, .int k, .int p] (kC pl0 ke0 sz0 se0 gr0 pl1 ke1 sz1 se1 gr1 im ce wo pv fa pm pw fr ba rw ro co mo mi ki M) (fun v h => (∃ t, v = some (.int (nI t))) ∧ ∃ ce' wo' pv' ro' co' mo' mi', h = (kC pl0 ke0 sz0 se0 gr0 pl1 ke1 sz1 se1 gr1 im ce' wo' pv' fa pm pw fr ba rw ro' co' mo' mi' ki M)) := by
  have h1 := x_m_le hI k
  have h2 := x_m_le hI (k - 1)
  refine mm_TC.of (M := kq_58) rfl rfl ?_
  refine mm_T.s rfl rfl rfl (fun _ => rfl) ?_
  refine mm_T.s rfl rfl rfl (fun _ => rfl) ?_
  refine mm_T.s rfl rfl rfl (fun _ => rfl) ?_
  refine mm_T.ivw rfl rfl rfl rfl rfl rfl (w_lb0 hI k) ?_
  rintro _ _ ⟨rfl, ce1, rfl⟩
  refine mm_T.s rfl rfl rfl (fun _ => rfl) ?_
  refine mm_T.gf rfl rfl rfl rfl rfl ?_
  refine mm_T.s rfl rfl rfl (fun _ => rfl) ?_
  refine mm_T.s rfl rfl rfl (fun _ => rfl) ?_
  refine mm_T.ivw rfl rfl rfl rfl rfl rfl (w_elim (by omega) (by omega) (n := 1) (by decide) hp) ?_
  rintro _ _ ⟨t, wo1, pv1, mi1, ht, hmi, hpv, rfl, rfl⟩
  exact mm_T.ret rfl rfl rfl (⟨⟨_, rfl⟩, _, _, _, _, _, _, _, rfl⟩)

theorem w_kc0 {pl0 ke0 sz0 se0 gr0 pl1 ke1 sz1 se1 gr1 im ce wo pv fa pm pw fr ba : Nat → Int32} {rw : Nat → Int64} {ro co mo : Int32} {mi : Int64} {ki : Int32} {M : mm_H} (hI : x_CI pl0 sz0 se0) {a : Nat} (ha : a < 4) : mm_TC kM 13 [.ref 1, .int (nI a)] (kC pl0 ke0 sz0 se0 gr0 pl1 ke1 sz1 se1 gr1 im ce wo pv fa pm pw fr ba rw ro co mo mi ki M) (fun v h => (v = some (.int 0) ∨ v = some (.int 1)) ∧ h = (kC pl0 ke0 sz0 se0 gr0 pl1 ke1 sz1 se1 gr1 im ce wo pv fa pm pw fr ba rw ro co mo mi ki M)) := by
  have h2 := x_m_le hI (nI a - 1)
  refine mm_TC.of (M := kq_13) rfl rfl ?_
  refine mm_T.s rfl rfl rfl (fun _ => rfl) ?_
  refine mm_T.s rfl rfl rfl (fun _ => rfl) ?_
  refine mm_T.up (n := (x_m pl0 (nI a - 1))) (P := fun i L h => ∃ x, x = nI i ∧ L = [some (.ref 1), some (.int (nI a)), some (.int x)] ∧ h = (kC pl0 ke0 sz0 se0 gr0 pl1 ke1 sz1 se1 gr1 im ce wo pv fa pm pw fr ba rw ro co mo mi ki M)) ?_ ?_ 0 (Nat.zero_le _) _ _ ⟨_, rfl, rfl, rfl⟩
  · skip
    rintro i _ _ hi ⟨x, rfl, rfl, rfl⟩ K
    have hi0 := hi
    obtain ⟨kk, hk4, ek, em⟩ := x_m_pos hi0
    rw [em] at hi0
    obtain ⟨q, hq1, hq2, hq, hqd, hqp, hqc⟩ := hI.set hk4 hi0
    have hka : nI kk + 1 = nI a := by
      rw [← ek]
      exact Int32.sub_add_cancel _ _
    have hle := hI.le hk4
    have E2 : mm_EC kM 5 [.ref 1, .int (nI a - 1), .int (nI i)] (kC pl0 ke0 sz0 se0 gr0 pl1 ke1 sz1 se1 gr1 im ce wo pv fa pm pw fr ba rw ro co mo mi ki M) (some (.int (nI q)), (kC pl0 ke0 sz0 se0 gr0 pl1 ke1 sz1 se1 gr1 im ce wo pv fa pm pw fr ba rw ro co mo mi ki M)) := by
      rw [← hq, ek]
      exact v_setAt0 (by omega)
    have E3 : mm_EC kM 12 [.ref 1, .int (nI q)] (kC pl0 ke0 sz0 se0 gr0 pl1 ke1 sz1 se1 gr1 im ce wo pv fa pm pw fr ba rw ro co mo mi ki M) (some (.int (x_ba se0 ke0 a (nI q) (x_ct pl0 a 255))), (kC pl0 ke0 sz0 se0 gr0 pl1 ke1 sz1 se1 gr1 im ce wo pv fa pm pw fr ba rw ro co mo mi ki M)) := v_ba0 (by rw [hqd]; exact hka) ha (x_sok0 hI ha)
    refine mm_T.s rfl rfl rfl (fun _ => rfl) ?_
    refine mm_T.s rfl rfl rfl (fun _ => rfl) ?_
    refine mm_T.s rfl rfl rfl (fun _ => rfl) ?_
    refine mm_T.s rfl rfl rfl (fun _ => rfl) ?_
    refine mm_T.s rfl rfl rfl (fun _ => rfl) ?_
    refine mm_T.iv rfl rfl rfl rfl rfl rfl (v_sz0 hI (nI a - 1)) ?_
    refine mm_T.s rfl rfl rfl (fun _ => if_neg (nI_ge hi (by omega))) ?_
    refine mm_T.s rfl rfl rfl (fun _ => rfl) ?_
    refine mm_T.s rfl rfl rfl (fun _ => rfl) ?_
    refine mm_T.s rfl rfl rfl (fun _ => rfl) ?_
    refine mm_T.s rfl rfl rfl (fun _ => rfl) ?_
    refine mm_T.s rfl rfl rfl (fun _ => rfl) ?_
    refine mm_T.s rfl rfl rfl (fun _ => rfl) ?_
    refine mm_T.iv rfl rfl rfl rfl rfl rfl E2 ?_
    refine mm_T.iv rfl rfl rfl rfl rfl rfl E3 ?_
    refine mm_T.cz rfl rfl (fun hb25 => ?_) (fun hb25 => ?_)
    · skip
      refine mm_T.s rfl rfl rfl (fun _ => rfl) ?_
      refine mm_T.s rfl rfl rfl (fun _ => rfl) ?_
      exact K _ _ ⟨_, nI_1 i, rfl, rfl⟩
    · skip
      refine mm_T.s rfl rfl rfl (fun _ => rfl) ?_
      exact mm_T.ret rfl rfl rfl (⟨Or.inl rfl, rfl⟩)
  · skip
    rintro _ _ ⟨x, rfl, rfl, rfl⟩
    refine mm_T.s rfl rfl rfl (fun _ => rfl) ?_
    refine mm_T.s rfl rfl rfl (fun _ => rfl) ?_
    refine mm_T.s rfl rfl rfl (fun _ => rfl) ?_
    refine mm_T.s rfl rfl rfl (fun _ => rfl) ?_
    refine mm_T.s rfl rfl rfl (fun _ => rfl) ?_
    refine mm_T.iv rfl rfl rfl rfl rfl rfl (v_sz0 hI (nI a - 1)) ?_
    refine mm_T.s rfl rfl rfl (fun _ => if_pos (nI_le (Nat.le_refl _) (by omega))) ?_
    refine mm_T.s rfl rfl rfl (fun _ => rfl) ?_
    exact mm_T.ret rfl rfl rfl (⟨Or.inr rfl, rfl⟩)

theorem w_cob0 {pl0 ke0 sz0 se0 gr0 pl1 ke1 sz1 se1 gr1 im ce wo pv fa pm pw fr ba : Nat → Int32} {rw : Nat → Int64} {ro co mo : Int32} {mi : Int64} {ki : Int32} {M : mm_H} (hI : x_CI pl0 sz0 se0) {e : Nat} (he : e < 24) : mm_TC kM 14 [.ref 1, .int (nI e)] (kC pl0 ke0 sz0 se0 gr0 pl1 ke1 sz1 se1 gr1 im ce wo pv fa pm pw fr ba rw ro co mo mi ki M) (fun v h => (∃ x, v = some (.int x)) ∧ h = (kC pl0 ke0 sz0 se0 gr0 pl1 ke1 sz1 se1 gr1 im ce wo pv fa pm pw fr ba rw ro co mo mi ki M)) := by
  have S2 : mm_EC kM 4 [.ref 1, .int (nI 2)] (kC pl0 ke0 sz0 se0 gr0 pl1 ke1 sz1 se1 gr1 im ce wo pv fa pm pw fr ba rw ro co mo mi ki M) (some (.int (nI (x_ct pl0 2 255))), (kC pl0 ke0 sz0 se0 gr0 pl1 ke1 sz1 se1 gr1 im ce wo pv fa pm pw fr ba rw ro co mo mi ki M)) := by
    rw [← x_m_a (a := 2) (by decide)]
    exact v_sz0 hI (nI 2)
  have hle := hI.le (k := 2) (by decide)
  refine mm_TC.of (M := kq_14) rfl rfl ?_
  refine mm_T.s rfl rfl rfl (fun _ => rfl) ?_
  refine mm_T.s rfl rfl rfl (fun _ => rfl) ?_
  refine mm_T.s rfl rfl rfl (fun _ => rfl) ?_
  refine mm_T.iv rfl rfl rfl rfl rfl rfl (v_setAt0 (a := 1) (j := e) (by omega)) ?_
  refine mm_T.s rfl rfl rfl (fun _ => rfl) ?_
  refine mm_T.s rfl rfl rfl (fun _ => rfl) ?_
  refine mm_T.s rfl rfl rfl (fun _ => rfl) ?_
  refine mm_T.s rfl rfl rfl (fun _ => rfl) ?_
  refine mm_T.s rfl rfl rfl (fun _ => rfl) ?_
  refine mm_T.up (n := (x_ct pl0 2 255)) (P := fun i L h => ∃ x3 x4 : Int32, x4 = nI i ∧ L = [some (.ref 1), some (.int (nI e)), some (.int (se0 (1 * 24 + e))), some (.int x3), some (.int x4)] ∧ h = (kC pl0 ke0 sz0 se0 gr0 pl1 ke1 sz1 se1 gr1 im ce wo pv fa pm pw fr ba rw ro co mo mi ki M)) ?_ ?_ 0 (Nat.zero_le _) _ _ ⟨_, _, rfl, rfl, rfl⟩
  · skip
    rintro i _ _ hi ⟨x3, x4, rfl, rfl, rfl⟩ K
    obtain ⟨q, hq1, hq2, hq, hqd, hqp, hqc⟩ := hI.set (k := 2) (by decide) hi
    have E2 : mm_EC kM 5 [.ref 1, .int (nI 2), .int (nI i)] (kC pl0 ke0 sz0 se0 gr0 pl1 ke1 sz1 se1 gr1 im ce wo pv fa pm pw fr ba rw ro co mo mi ki M) (some (.int (nI q)), (kC pl0 ke0 sz0 se0 gr0 pl1 ke1 sz1 se1 gr1 im ce wo pv fa pm pw fr ba rw ro co mo mi ki M)) := by
      rw [← hq]
      exact v_setAt0 (a := 2) (by omega)
    refine mm_T.s rfl rfl rfl (fun _ => rfl) ?_
    refine mm_T.s rfl rfl rfl (fun _ => rfl) ?_
    refine mm_T.s rfl rfl rfl (fun _ => rfl) ?_
    refine mm_T.iv rfl rfl rfl rfl rfl rfl S2 ?_
    refine mm_T.s rfl rfl rfl (fun _ => if_neg (nI_ge hi (by omega))) ?_
    refine mm_T.s rfl rfl rfl (fun _ => rfl) ?_
    refine mm_T.s rfl rfl rfl (fun _ => rfl) ?_
    refine mm_T.s rfl rfl rfl (fun _ => rfl) ?_
    refine mm_T.iv rfl rfl rfl rfl rfl rfl E2 ?_
    refine mm_T.s rfl rfl rfl (fun _ => rfl) ?_
    refine mm_T.s rfl rfl rfl (fun _ => rfl) ?_
    refine mm_T.s rfl rfl rfl (fun _ => rfl) ?_
    refine mm_T.ci rfl rfl (fun hb32 => ?_) (fun hb32 => ?_)
    · skip
      refine mm_T.s rfl rfl rfl (fun _ => rfl) ?_
      refine mm_T.s rfl rfl rfl (fun _ => rfl) ?_
      exact K _ _ ⟨_, _, nI_1 i, rfl, rfl⟩
    · skip
      refine mm_T.s rfl rfl rfl (fun _ => rfl) ?_
      refine mm_T.s rfl rfl rfl (fun _ => rfl) ?_
      refine mm_T.s rfl rfl rfl (fun _ => rfl) ?_
      refine mm_T.s rfl rfl rfl (fun _ => rfl) ?_
      refine mm_T.s rfl rfl rfl (fun _ => rfl) ?_
      refine mm_T.s rfl rfl rfl (fun _ => rfl) ?_
      refine mm_T.s rfl rfl rfl (fun _ => rfl) ?_
      refine mm_T.s rfl rfl rfl (fun _ => rfl) ?_
      exact K _ _ ⟨_, _, nI_1 i, rfl, rfl⟩
  · skip
    rintro _ _ ⟨x3, x4, rfl, rfl, rfl⟩
    refine mm_T.s rfl rfl rfl (fun _ => rfl) ?_
    refine mm_T.s rfl rfl rfl (fun _ => rfl) ?_
    refine mm_T.s rfl rfl rfl (fun _ => rfl) ?_
    refine mm_T.iv rfl rfl rfl rfl rfl rfl S2 ?_
    refine mm_T.s rfl rfl rfl (fun _ => if_pos (nI_le (Nat.le_refl _) (by omega))) ?_
    refine mm_T.s rfl rfl rfl (fun _ => rfl) ?_
    exact mm_T.ret rfl rfl rfl (⟨⟨_, rfl⟩, rfl⟩)

theorem w_tri0 {pl0 ke0 sz0 se0 gr0 pl1 ke1 sz1 se1 gr1 im ce wo pv fa pm pw fr ba : Nat → Int32} {rw : Nat → Int64} {ro co mo : Int32} {mi : Int64} {ki : Int32} {M : mm_H} (hI : x_CI pl0 sz0 se0) (z f : Int32) : mm_TC kM 15 [.ref 1, .int z, .int f] (kC pl0 ke0 sz0 se0 gr0 pl1 ke1 sz1 se1 gr1 im ce wo pv fa pm pw fr ba rw ro co mo mi ki M) (fun v h => (∃ x, v = some (.int x)) ∧ h = (kC pl0 ke0 sz0 se0 gr0 pl1 ke1 sz1 se1 gr1 im ce wo pv fa pm pw fr ba rw ro co mo mi ki M)) := by
  have S2 : mm_EC kM 4 [.ref 1, .int (nI 2)] (kC pl0 ke0 sz0 se0 gr0 pl1 ke1 sz1 se1 gr1 im ce wo pv fa pm pw fr ba rw ro co mo mi ki M) (some (.int (nI (x_ct pl0 2 255))), (kC pl0 ke0 sz0 se0 gr0 pl1 ke1 sz1 se1 gr1 im ce wo pv fa pm pw fr ba rw ro co mo mi ki M)) := by
    rw [← x_m_a (a := 2) (by decide)]
    exact v_sz0 hI (nI 2)
  have hle := hI.le (k := 2) (by decide)
  refine mm_TC.of (M := kq_15) rfl rfl ?_
  refine mm_T.s rfl rfl rfl (fun _ => rfl) ?_
  refine mm_T.s rfl rfl rfl (fun _ => rfl) ?_
  refine mm_T.s rfl rfl rfl (fun _ => rfl) ?_
  refine mm_T.s rfl rfl rfl (fun _ => rfl) ?_
  refine mm_T.up (n := (x_ct pl0 2 255)) (P := fun i L h => ∃ (x3 x4 : Int32) (y5 y6 y7 y8 : Option Value), x4 = nI i ∧ L = [some (.ref 1), some (.int z), some (.int f), some (.int x3), some (.int x4), y5, y6, y7, y8] ∧ h = (kC pl0 ke0 sz0 se0 gr0 pl1 ke1 sz1 se1 gr1 im ce wo pv fa pm pw fr ba rw ro co mo mi ki M)) ?_ ?_ 0 (Nat.zero_le _) _ _ ⟨_, _, _, _, _, _, rfl, rfl, rfl⟩
  · skip
    rintro i _ _ hi ⟨x3, x4, y5, y6, y7, y8, rfl, rfl, rfl⟩ K
    obtain ⟨q, hq1, hq2, hq, hqd, hqp, hqc⟩ := hI.set (k := 2) (by decide) hi
    have E2 : mm_EC kM 5 [.ref 1, .int (nI 2), .int (nI i)] (kC pl0 ke0 sz0 se0 gr0 pl1 ke1 sz1 se1 gr1 im ce wo pv fa pm pw fr ba rw ro co mo mi ki M) (some (.int (nI q)), (kC pl0 ke0 sz0 se0 gr0 pl1 ke1 sz1 se1 gr1 im ce wo pv fa pm pw fr ba rw ro co mo mi ki M)) := by
      rw [← hq]
      exact v_setAt0 (a := 2) (by omega)
    have hbd : ∀ y : Int32, 0 ≤ (nI q &&& y).toInt ∧ (nI q &&& y).toInt < (256 : Nat) := fun y => by
      obtain ⟨j, hj, e⟩ := x_and hq2 y
      rw [e]
      exact mm_bd hj (by decide)
    refine mm_T.s rfl rfl rfl (fun _ => rfl) ?_
    refine mm_T.s rfl rfl rfl (fun _ => rfl) ?_
    refine mm_T.s rfl rfl rfl (fun _ => rfl) ?_
    refine mm_T.iv rfl rfl rfl rfl rfl rfl S2 ?_
    refine mm_T.s rfl rfl rfl (fun _ => if_neg (nI_ge hi (by omega))) ?_
    refine mm_T.s rfl rfl rfl (fun _ => rfl) ?_
    refine mm_T.s rfl rfl rfl (fun _ => rfl) ?_
    refine mm_T.s rfl rfl rfl (fun _ => rfl) ?_
    refine mm_T.iv rfl rfl rfl rfl rfl rfl E2 ?_
    refine mm_T.s rfl rfl rfl (fun _ => rfl) ?_
    refine mm_T.s rfl rfl rfl (fun _ => rfl) ?_
    refine mm_T.s rfl rfl rfl (fun _ => rfl) ?_
    refine mm_T.s rfl rfl rfl (fun _ => rfl) ?_
    refine mm_T.s rfl rfl rfl (fun _ => rfl) ?_
    refine mm_T.s rfl rfl rfl (fun _ => rfl) ?_
    refine mm_T.s rfl rfl rfl (fun _ => rfl) ?_
    refine mm_T.s rfl rfl rfl (fun _ => rfl) ?_
    refine mm_T.s rfl rfl rfl (fun _ => rfl) ?_
    refine mm_T.s rfl rfl rfl (fun _ => rfl) ?_
    refine mm_T.s rfl rfl rfl (fun _ => rfl) ?_
    refine mm_T.s rfl rfl rfl (fun _ => rfl) ?_
    refine mm_T.s rfl rfl rfl (fun _ => rfl) ?_
    refine mm_T.cz rfl rfl (fun hb42 => ?_) (fun hb42 => ?_)
    · skip
      refine mm_T.s rfl rfl rfl (fun _ => rfl) ?_
      refine mm_T.s rfl rfl rfl (fun _ => rfl) ?_
      refine mm_T.s rfl rfl rfl (fun _ => rfl) ?_
      refine mm_T.s rfl rfl rfl (fun _ => rfl) ?_
      refine mm_T.gf rfl rfl rfl rfl rfl ?_
      refine mm_T.s rfl rfl rfl (fun _ => rfl) ?_
      refine mm_T.ia rfl rfl rfl (hbd _) rfl ?_
      refine mm_T.s rfl rfl rfl (fun _ => rfl) ?_
      refine mm_T.s rfl rfl rfl (fun _ => rfl) ?_
      refine mm_T.s rfl rfl rfl (fun _ => rfl) ?_
      refine mm_T.cz rfl rfl (fun hb72 => ?_) (fun hb72 => ?_)
      · skip
        refine mm_T.s rfl rfl rfl (fun _ => rfl) ?_
        refine mm_T.s rfl rfl rfl (fun _ => rfl) ?_
        exact K _ _ ⟨_, _, _, _, _, _, nI_1 i, rfl, rfl⟩
      · skip
        refine mm_T.s rfl rfl rfl (fun _ => rfl) ?_
        refine mm_T.s rfl rfl rfl (fun _ => rfl) ?_
        refine mm_T.s rfl rfl rfl (fun _ => rfl) ?_
        refine mm_T.s rfl rfl rfl (fun _ => rfl) ?_
        refine mm_T.s rfl rfl rfl (fun _ => rfl) ?_
        refine mm_T.s rfl rfl rfl (fun _ => rfl) ?_
        refine mm_T.s rfl rfl rfl (fun _ => rfl) ?_
        refine mm_T.s rfl rfl rfl (fun _ => rfl) ?_
        exact K _ _ ⟨_, _, _, _, _, _, nI_1 i, rfl, rfl⟩
    · skip
      refine mm_T.s rfl rfl rfl (fun _ => rfl) ?_
      refine mm_T.s rfl rfl rfl (fun _ => rfl) ?_
      refine mm_T.s rfl rfl rfl (fun _ => rfl) ?_
      refine mm_T.s rfl rfl rfl (fun _ => rfl) ?_
      refine mm_T.s rfl rfl rfl (fun _ => rfl) ?_
      refine mm_T.s rfl rfl rfl (fun _ => rfl) ?_
      refine mm_T.s rfl rfl rfl (fun _ => rfl) ?_
      refine mm_T.s rfl rfl rfl (fun _ => rfl) ?_
      refine mm_T.s rfl rfl rfl (fun _ => rfl) ?_
      refine mm_T.s rfl rfl rfl (fun _ => rfl) ?_
      refine mm_T.s rfl rfl rfl (fun _ => rfl) ?_
      refine mm_T.gf rfl rfl rfl rfl rfl ?_
      refine mm_T.s rfl rfl rfl (fun _ => rfl) ?_
      refine mm_T.ia rfl rfl rfl (hbd _) rfl ?_
      refine mm_T.s rfl rfl rfl (fun _ => rfl) ?_
      refine mm_T.s rfl rfl rfl (fun _ => rfl) ?_
      refine mm_T.s rfl rfl rfl (fun _ => rfl) ?_
      refine mm_T.cz rfl rfl (fun hb72 => ?_) (fun hb72 => ?_)
      · skip
        refine mm_T.s rfl rfl rfl (fun _ => rfl) ?_
        refine mm_T.s rfl rfl rfl (fun _ => rfl) ?_
        exact K _ _ ⟨_, _, _, _, _, _, nI_1 i, rfl, rfl⟩
      · skip
        refine mm_T.s rfl rfl rfl (fun _ => rfl) ?_
        refine mm_T.s rfl rfl rfl (fun _ => rfl) ?_
        refine mm_T.s rfl rfl rfl (fun _ => rfl) ?_
        refine mm_T.s rfl rfl rfl (fun _ => rfl) ?_
        refine mm_T.s rfl rfl rfl (fun _ => rfl) ?_
        refine mm_T.s rfl rfl rfl (fun _ => rfl) ?_
        refine mm_T.s rfl rfl rfl (fun _ => rfl) ?_
        refine mm_T.s rfl rfl rfl (fun _ => rfl) ?_
        exact K _ _ ⟨_, _, _, _, _, _, nI_1 i, rfl, rfl⟩
  · skip
    rintro _ _ ⟨x3, x4, y5, y6, y7, y8, rfl, rfl, rfl⟩
    refine mm_T.s rfl rfl rfl (fun _ => rfl) ?_
    refine mm_T.s rfl rfl rfl (fun _ => rfl) ?_
    refine mm_T.s rfl rfl rfl (fun _ => rfl) ?_
    refine mm_T.iv rfl rfl rfl rfl rfl rfl S2 ?_
    refine mm_T.s rfl rfl rfl (fun _ => if_pos (nI_le (Nat.le_refl _) (by omega))) ?_
    refine mm_T.s rfl rfl rfl (fun _ => rfl) ?_
    exact mm_T.ret rfl rfl rfl (⟨⟨_, rfl⟩, rfl⟩)

theorem w_fc0 {pl0 ke0 sz0 se0 gr0 pl1 ke1 sz1 se1 gr1 im ce wo pv fa pm pw fr ba : Nat → Int32} {rw : Nat → Int64} {ro co mo : Int32} {mi : Int64} {ki : Int32} {M : mm_H} (hI : x_CI pl0 sz0 se0) : mm_TC kM 64 [.ref 0, .ref 1] (kC pl0 ke0 sz0 se0 gr0 pl1 ke1 sz1 se1 gr1 im ce wo pv fa pm pw fr ba rw ro co mo mi ki M) (fun v h => ∃ n fr' ba' rw', n ≤ 24 ∧ v = some (.int (nI n)) ∧ h = (kC pl0 ke0 sz0 se0 gr0 pl1 ke1 sz1 se1 gr1 im ce wo pv fa pm pw fr' ba' rw' ro co mo mi ki M)) := by
  have hle := hI.le (k := 1) (by decide)
  refine mm_TC.of (M := kq_64) rfl rfl ?_
  refine mm_T.s rfl rfl rfl (fun _ => rfl) ?_
  refine mm_T.gf rfl rfl rfl rfl rfl ?_
  refine mm_T.ivw rfl rfl rfl rfl rfl rfl w_sdrop ?_
  rintro _ _ ⟨rfl, rw1, rfl⟩
  refine mm_T.s rfl rfl rfl (fun _ => rfl) ?_
  refine mm_T.s rfl rfl rfl (fun _ => rfl) ?_
  refine mm_T.s rfl rfl rfl (fun _ => rfl) ?_
  refine mm_T.s rfl rfl rfl (fun _ => rfl) ?_
  refine mm_T.up (n := (x_ct pl0 1 255)) (P := fun i L h => ∃ n x2 x3 y4 y5 y6 fr' ba' rw', n ≤ i ∧ x2 = nI n ∧ x3 = nI i ∧ L = [some (.ref 0), some (.ref 1), some (.int x2), some (.int x3), y4, y5, y6] ∧ h = (kC pl0 ke0 sz0 se0 gr0 pl1 ke1 sz1 se1 gr1 im ce wo pv fa pm pw fr' ba' rw' ro co mo mi ki M)) ?_ ?_ 0 (Nat.zero_le _) _ _ ⟨0, _, _, _, _, _, _, _, _, Nat.le_refl _, rfl, rfl, rfl, rfl⟩
  · skip
    rintro i _ _ hi ⟨n, x2, x3, y4, y5, y6, fr1, ba1, rw2, hn, rfl, rfl, rfl, rfl⟩ K
    have S1 : mm_EC kM 4 [.ref 1, .int (nI 1)] (kC pl0 ke0 sz0 se0 gr0 pl1 ke1 sz1 se1 gr1 im ce wo pv fa pm pw fr1 ba1 rw2 ro co mo mi ki M) (some (.int (nI (x_ct pl0 1 255))), (kC pl0 ke0 sz0 se0 gr0 pl1 ke1 sz1 se1 gr1 im ce wo pv fa pm pw fr1 ba1 rw2 ro co mo mi ki M)) := by
      rw [← x_m_a (a := 1) (by decide)]
      exact v_sz0 hI (nI 1)
    refine mm_T.s rfl rfl rfl (fun _ => rfl) ?_
    refine mm_T.s rfl rfl rfl (fun _ => rfl) ?_
    refine mm_T.s rfl rfl rfl (fun _ => rfl) ?_
    refine mm_T.iv rfl rfl rfl rfl rfl rfl S1 ?_
    refine mm_T.s rfl rfl rfl (fun _ => if_neg (nI_ge hi (by omega))) ?_
    refine mm_T.s rfl rfl rfl (fun _ => rfl) ?_
    refine mm_T.s rfl rfl rfl (fun _ => rfl) ?_
    refine mm_T.ivw rfl rfl rfl rfl rfl rfl (w_cob0 hI (by omega)) ?_
    rintro _ _ ⟨⟨cb, rfl⟩, rfl⟩
    refine mm_T.s rfl rfl rfl (fun _ => rfl) ?_
    refine mm_T.s rfl rfl rfl (fun _ => rfl) ?_
    refine mm_T.s rfl rfl rfl (fun _ => rfl) ?_
    refine mm_T.s rfl rfl rfl (fun _ => rfl) ?_
    refine mm_T.s rfl rfl rfl (fun _ => rfl) ?_
    refine mm_T.s rfl rfl rfl (fun _ => rfl) ?_
    refine mm_T.s rfl rfl rfl (fun _ => rfl) ?_
    refine mm_T.s rfl rfl rfl (fun _ => rfl) ?_
    refine mm_T.s rfl rfl rfl (fun _ => rfl) ?_
    refine mm_T.gf rfl rfl rfl rfl rfl ?_
    refine mm_T.s rfl rfl rfl (fun _ => rfl) ?_
    refine mm_T.ivw rfl rfl rfl rfl rfl rfl (w_take _) ?_
    rintro _ _ ⟨⟨tk, rfl⟩, rw3, rfl⟩
    refine mm_T.cz rfl rfl (fun hb44 => ?_) (fun hb44 => ?_)
    · skip
      refine mm_T.s rfl rfl rfl (fun _ => rfl) ?_
      refine mm_T.s rfl rfl rfl (fun _ => rfl) ?_
      exact K _ _ ⟨n, _, _, _, _, _, _, _, _, by omega, rfl, nI_1 i, rfl, rfl⟩
    · skip
      refine mm_T.s rfl rfl rfl (fun _ => rfl) ?_
      refine mm_T.gf rfl rfl rfl rfl rfl ?_
      refine mm_T.s rfl rfl rfl (fun _ => rfl) ?_
      refine mm_T.ivw rfl rfl rfl rfl rfl rfl (w_red _) ?_
      rintro _ _ ⟨⟨rd, rfl⟩, rfl⟩
      refine mm_T.s rfl rfl rfl (fun _ => rfl) ?_
      refine mm_T.s rfl rfl rfl (fun _ => rfl) ?_
      refine mm_T.s rfl rfl rfl (fun _ => rfl) ?_
      refine mm_T.s rfl rfl rfl (fun _ => rfl) ?_
      refine mm_T.s rfl rfl rfl (fun _ => rfl) ?_
      refine mm_T.gf rfl rfl rfl rfl rfl ?_
      refine mm_T.s rfl rfl rfl (fun _ => rfl) ?_
      refine mm_T.s rfl rfl rfl (fun _ => rfl) ?_
      refine mm_T.s rfl rfl rfl (fun _ => rfl) ?_
      refine mm_T.s rfl rfl rfl (fun _ => rfl) ?_
      refine mm_T.ivw rfl rfl rfl rfl rfl rfl (w_tri0 hI _ _) ?_
      rintro _ _ ⟨⟨t1, rfl⟩, rfl⟩
      refine mm_T.is rfl rfl rfl (mm_bd (by omega) (by decide)) rfl ?_
      refine mm_T.s rfl rfl rfl (fun _ => rfl) ?_
      refine mm_T.gf rfl rfl rfl rfl rfl ?_
      refine mm_T.s rfl rfl rfl (fun _ => rfl) ?_
      refine mm_T.s rfl rfl rfl (fun _ => rfl) ?_
      refine mm_T.s rfl rfl rfl (fun _ => rfl) ?_
      refine mm_T.s rfl rfl rfl (fun _ => rfl) ?_
      refine mm_T.ivw rfl rfl rfl rfl rfl rfl (w_tri0 hI _ _) ?_
      rintro _ _ ⟨⟨t2, rfl⟩, rfl⟩
      refine mm_T.is rfl rfl rfl (mm_bd (by omega) (by decide)) rfl ?_
      refine mm_T.s rfl rfl rfl (fun _ => rfl) ?_
      refine mm_T.s rfl rfl rfl (fun _ => rfl) ?_
      refine mm_T.s rfl rfl rfl (fun _ => rfl) ?_
      exact K _ _ ⟨n + 1, _, _, _, _, _, _, _, _, by omega, nI_1 n, nI_1 i, rfl, rfl⟩
  · skip
    rintro _ _ ⟨n, x2, x3, y4, y5, y6, fr1, ba1, rw2, hn, rfl, rfl, rfl, rfl⟩
    have S1 : mm_EC kM 4 [.ref 1, .int (nI 1)] (kC pl0 ke0 sz0 se0 gr0 pl1 ke1 sz1 se1 gr1 im ce wo pv fa pm pw fr1 ba1 rw2 ro co mo mi ki M) (some (.int (nI (x_ct pl0 1 255))), (kC pl0 ke0 sz0 se0 gr0 pl1 ke1 sz1 se1 gr1 im ce wo pv fa pm pw fr1 ba1 rw2 ro co mo mi ki M)) := by
      rw [← x_m_a (a := 1) (by decide)]
      exact v_sz0 hI (nI 1)
    refine mm_T.s rfl rfl rfl (fun _ => rfl) ?_
    refine mm_T.s rfl rfl rfl (fun _ => rfl) ?_
    refine mm_T.s rfl rfl rfl (fun _ => rfl) ?_
    refine mm_T.iv rfl rfl rfl rfl rfl rfl S1 ?_
    refine mm_T.s rfl rfl rfl (fun _ => if_pos (nI_le (Nat.le_refl _) (by omega))) ?_
    refine mm_T.s rfl rfl rfl (fun _ => rfl) ?_
    exact mm_T.ret rfl rfl rfl (⟨n, _, _, _, by omega, rfl, rfl⟩)

theorem w_products0 {pl0 ke0 sz0 se0 gr0 pl1 ke1 sz1 se1 gr1 im ce wo pv fa pm pw fr ba : Nat → Int32} {rw : Nat → Int64} {ro co mo : Int32} {mi : Int64} {ki : Int32} {M : mm_H} (hI : x_CI pl0 sz0 se0) : mm_TC kM 51 [.ref 0, .int 0] (kC pl0 ke0 sz0 se0 gr0 pl1 ke1 sz1 se1 gr1 im ce wo pv fa pm pw fr ba rw ro co mo mi ki M) (fun v h => (∃ x, v = some (.int x)) ∧ x_GR pl0 ke0 sz0 se0 gr0 pl1 ke1 sz1 se1 gr1 im M h) := by
  refine mm_TC.of (M := kq_51) rfl rfl ?_
  refine mm_T.s rfl rfl rfl (fun _ => rfl) ?_
  refine mm_T.s rfl rfl rfl (fun _ => rfl) ?_
  refine mm_T.iv rfl rfl rfl rfl rfl rfl v_cx0 ?_
  refine mm_T.s rfl rfl rfl (fun _ => rfl) ?_
  refine mm_T.s rfl rfl rfl (fun _ => rfl) ?_
  refine mm_T.s rfl rfl rfl (fun _ => rfl) ?_
  refine mm_T.s rfl rfl rfl (fun _ => rfl) ?_
  refine mm_T.s rfl rfl rfl (fun _ => rfl) ?_
  refine mm_T.ivw rfl rfl rfl rfl rfl rfl (w_fc0 hI) ?_
  rintro _ _ ⟨n, fr1, ba1, rw1, hn, rfl, rfl⟩
  refine mm_T.s rfl rfl rfl (fun _ => rfl) ?_
  refine mm_T.s rfl rfl rfl (fun _ => rfl) ?_
  refine mm_T.s rfl rfl rfl (fun _ => rfl) ?_
  refine mm_T.s rfl rfl rfl (fun _ => rfl) ?_
  refine mm_T.s rfl rfl rfl (fun _ => rfl) ?_
  refine mm_T.up (n := n) (P := fun i L h => ∃ (x4 x5 : Int32) (y6 : Option Value) (rw' : Nat → Int64), x5 = nI i ∧ L = [some (.ref 0), some (.int 0), some (.ref 1), some (.int (nI n)), some (.int x4), some (.int x5), y6] ∧ h = (kC pl0 ke0 sz0 se0 gr0 pl1 ke1 sz1 se1 gr1 im ce wo pv fa pm pw fr1 ba1 rw' ro co mo mi ki M)) ?_ ?_ 0 (Nat.zero_le _) _ _ ⟨_, _, _, _, rfl, rfl, rfl⟩
  · skip
    rintro i _ _ hi ⟨x4, x5, y6, rw2, rfl, rfl, rfl⟩ K
    refine mm_T.s rfl rfl rfl (fun _ => rfl) ?_
    refine mm_T.s rfl rfl rfl (fun _ => rfl) ?_
    refine mm_T.s rfl rfl rfl (fun _ => if_neg (nI_ge hi (by omega))) ?_
    refine mm_T.s rfl rfl rfl (fun _ => rfl) ?_
    refine mm_T.s rfl rfl rfl (fun _ => rfl) ?_
    refine mm_T.up (n := n) (P := fun j L h => ∃ (x4 x6 : Int32) (rw' : Nat → Int64), x6 = nI j ∧ L = [some (.ref 0), some (.int 0), some (.ref 1), some (.int (nI n)), some (.int x4), some (.int (nI i)), some (.int x6)] ∧ h = (kC pl0 ke0 sz0 se0 gr0 pl1 ke1 sz1 se1 gr1 im ce wo pv fa pm pw fr1 ba1 rw' ro co mo mi ki M)) ?_ ?_ 0 (Nat.zero_le _) _ _ ⟨_, _, _, rfl, rfl, rfl⟩
    · skip
      rintro j _ _ hj ⟨x4, x6, rw3, rfl, rfl, rfl⟩ K2
      refine mm_T.s rfl rfl rfl (fun _ => rfl) ?_
      refine mm_T.s rfl rfl rfl (fun _ => rfl) ?_
      refine mm_T.s rfl rfl rfl (fun _ => if_neg (nI_ge hj (by omega))) ?_
      refine mm_T.s rfl rfl rfl (fun _ => rfl) ?_
      refine mm_T.gf rfl rfl rfl rfl rfl ?_
      refine mm_T.s rfl rfl rfl (fun _ => rfl) ?_
      refine mm_T.gf rfl rfl rfl rfl rfl ?_
      refine mm_T.s rfl rfl rfl (fun _ => rfl) ?_
      refine mm_T.ia rfl rfl rfl (mm_bd (by omega) (by decide)) rfl ?_
      refine mm_T.s rfl rfl rfl (fun _ => rfl) ?_
      refine mm_T.gf rfl rfl rfl rfl rfl ?_
      refine mm_T.s rfl rfl rfl (fun _ => rfl) ?_
      refine mm_T.ia rfl rfl rfl (mm_bd (by omega) (by decide)) rfl ?_
      refine mm_T.s rfl rfl rfl (fun _ => rfl) ?_
      refine mm_T.s rfl rfl rfl (fun _ => rfl) ?_
      refine mm_T.ivw rfl rfl rfl rfl rfl rfl (w_take _) ?_
      rintro _ _ ⟨⟨tk, rfl⟩, rw4, rfl⟩
      refine mm_T.cz rfl rfl (fun hb62 => ?_) (fun hb62 => ?_)
      · skip
        refine mm_T.s rfl rfl rfl (fun _ => rfl) ?_
        refine mm_T.s rfl rfl rfl (fun _ => rfl) ?_
        exact K2 _ _ ⟨_, _, _, nI_1 j, rfl, rfl⟩
      · skip
        refine mm_T.s rfl rfl rfl (fun _ => rfl) ?_
        refine mm_T.s rfl rfl rfl (fun _ => rfl) ?_
        refine mm_T.s rfl rfl rfl (fun _ => rfl) ?_
        exact K2 _ _ ⟨_, _, _, nI_1 j, rfl, rfl⟩
    · skip
      rintro _ _ ⟨x4, x6, rw3, rfl, rfl, rfl⟩
      refine mm_T.s rfl rfl rfl (fun _ => rfl) ?_
      refine mm_T.s rfl rfl rfl (fun _ => rfl) ?_
      refine mm_T.s rfl rfl rfl (fun _ => if_pos (nI_le (Nat.le_refl _) (by omega))) ?_
      refine mm_T.s rfl rfl rfl (fun _ => rfl) ?_
      refine mm_T.s rfl rfl rfl (fun _ => rfl) ?_
      exact K _ _ ⟨_, _, _, _, nI_1 i, rfl, rfl⟩
  · skip
    rintro _ _ ⟨x4, x5, y6, rw2, rfl, rfl, rfl⟩
    refine mm_T.s rfl rfl rfl (fun _ => rfl) ?_
    refine mm_T.s rfl rfl rfl (fun _ => rfl) ?_
    refine mm_T.s rfl rfl rfl (fun _ => if_pos (nI_le (Nat.le_refl _) (by omega))) ?_
    refine mm_T.s rfl rfl rfl (fun _ => rfl) ?_
    exact mm_T.ret rfl rfl rfl (⟨⟨_, rfl⟩, ⟨_, _, _, _, _, _, _, _, _, _, _, _, _, _, rfl⟩⟩)

theorem v_sz1 {pl0 ke0 sz0 se0 gr0 pl1 ke1 sz1 se1 gr1 im ce wo pv fa pm pw fr ba : Nat → Int32} {rw : Nat → Int64} {ro co mo : Int32} {mi : Int64} {ki : Int32} {M : mm_H} (hI : x_CI pl1 sz1 se1) (k : Int32) : mm_EC kM 4 [.ref 7, .int k] (kC pl0 ke0 sz0 se0 gr0 pl1 ke1 sz1 se1 gr1 im ce wo pv fa pm pw fr ba rw ro co mo mi ki M) (some (.int (nI (x_m pl1 k))), (kC pl0 ke0 sz0 se0 gr0 pl1 ke1 sz1 se1 gr1 im ce wo pv fa pm pw fr ba rw ro co mo mi ki M)) := by
  have z := v_size1 (pl0 := pl0) (ke0 := ke0) (sz0 := sz0) (se0 := se0) (gr0 := gr0) (pl1 := pl1) (ke1 := ke1) (sz1 := sz1) (se1 := se1) (gr1 := gr1) (im := im) (ce := ce) (wo := wo) (pv := pv) (fa := fa) (pm := pm) (pw := pw) (fr := fr) (ba := ba) (rw := rw) (ro := ro) (co := co) (mo := mo) (mi := mi) (ki := ki) (M := M) k
  have e : (if ¬ k < 0 ∧ ¬ 4 ≤ k then sz1 k.toNatClampNeg else 0) = nI (x_m pl1 k) := by
    unfold x_m
    by_cases h : ¬ k < 0 ∧ ¬ 4 ≤ k
    · rw [if_pos h, if_pos h]
      obtain ⟨j, hj, rfl⟩ := nI_of2 (x := k) (M := 3) (n := 3) rfl h.1 (Int32.not_lt.mp (fun q => h.2 (x_34 q)))
      rw [mm_cl (by omega)]
      exact hI.sz (by omega)
    · rw [if_neg h, if_neg h]
      rfl
  rw [e] at z
  exact z
theorem x_sok1 {pl1 sz1 se1 : Nat → Int32} (hI : x_CI pl1 sz1 se1) {a : Nat} (ha : a < 4) : x_sok sz1 se1 a (x_ct pl1 a 255) := ⟨hI.sz ha, hI.le ha, fun t ht => by
  obtain ⟨q, h1, h2, h3, -⟩ := hI.set ha ht
  exact ⟨q, h2, h3⟩⟩
theorem w_wb1 {pl0 ke0 sz0 se0 gr0 pl1 ke1 sz1 se1 gr1 im ce wo pv fa pm pw fr ba : Nat → Int32} {rw : Nat → Int64} {ro co mo : Int32} {mi : Int64} {ki : Int32} {M : mm_H} (hI : x_CI pl1 sz1 se1) (k : Int32) {a b : Nat} (ha : a ≤ 24) (hb : b ≤ 24) : mm_TC kM 60 [.ref 0, .ref 7, .int k, .int (nI a), .int (nI b)] (kC pl0 ke0 sz0 se0 gr0 pl1 ke1 sz1 se1 gr1 im ce wo pv fa pm pw fr ba rw ro co mo mi ki M) (fun v h => v = none ∧ ∃ ce', h = (kC pl0 ke0 sz0 se0 gr0 pl1 ke1 sz1 se1 gr1 im ce' wo pv fa pm pw fr ba rw ro co mo mi ki M)) := by
  have hm24 := x_m_le hI k
  refine mm_TC.of (M := kq_60) rfl rfl ?_
  refine mm_T.s rfl rfl rfl (fun _ => rfl) ?_
  refine mm_T.cz rfl rfl (fun hb1 => ?_) (fun hb1 => ?_)
  · skip
    refine mm_T.s rfl rfl rfl (fun _ => rfl) ?_
    refine mm_T.s rfl rfl rfl (fun _ => rfl) ?_
    refine mm_T.up (n := (x_m pl1 k)) (P := fun i L h => ∃ x5 y6 y7 y8 ce', x5 = nI i ∧ L = [some (.ref 0), some (.ref 7), some (.int k), some (.int (nI a)), some (.int (nI b)), some (.int x5), y6, y7, y8] ∧ h = (kC pl0 ke0 sz0 se0 gr0 pl1 ke1 sz1 se1 gr1 im ce' wo pv fa pm pw fr ba rw ro co mo mi ki M)) ?_ ?_ 0 (Nat.zero_le _) _ _ ⟨_, _, _, _, _, rfl, rfl, rfl⟩
    · skip
      rintro i _ _ hi ⟨x5, y6, y7, y8, ce1, rfl, rfl, rfl⟩ K
      have hi0 := hi
      obtain ⟨kk, hk4, rfl, em⟩ := x_m_pos hi0
      rw [em] at hi0
      obtain ⟨q, hq1, hq2, hq, hqd, hqp, hqc⟩ := hI.set hk4 hi0
      have hkk0 : ¬ nI kk = 0 := hb1
      have hdm : ¬ x_dm (nI q) = 0 := by
        rw [hqd]
        exact hkk0
      have E2 : mm_EC kM 5 [.ref 7, .int (nI kk), .int (nI i)] (kC pl0 ke0 sz0 se0 gr0 pl1 ke1 sz1 se1 gr1 im ce1 wo pv fa pm pw fr ba rw ro co mo mi ki M) (some (.int (nI q)), (kC pl0 ke0 sz0 se0 gr0 pl1 ke1 sz1 se1 gr1 im ce1 wo pv fa pm pw fr ba rw ro co mo mi ki M)) := by
        rw [← hq]
        exact v_setAt1 (by omega)
      refine mm_T.s rfl rfl rfl (fun _ => rfl) ?_
      refine mm_T.s rfl rfl rfl (fun _ => rfl) ?_
      refine mm_T.s rfl rfl rfl (fun _ => rfl) ?_
      refine mm_T.iv rfl rfl rfl rfl rfl rfl (v_sz1 hI _) ?_
      refine mm_T.s rfl rfl rfl (fun _ => if_neg (nI_ge hi (by omega))) ?_
      refine mm_T.s rfl rfl rfl (fun _ => rfl) ?_
      refine mm_T.s rfl rfl rfl (fun _ => rfl) ?_
      refine mm_T.s rfl rfl rfl (fun _ => rfl) ?_
      refine mm_T.iv rfl rfl rfl rfl rfl rfl E2 ?_
      refine mm_T.s rfl rfl rfl (fun _ => rfl) ?_
      refine mm_T.s rfl rfl rfl (fun _ => rfl) ?_
      refine mm_T.s rfl rfl rfl (fun _ => rfl) ?_
      refine mm_T.up (n := 8) (P := fun v L h => ∃ x7 y8 ce', x7 = nI v ∧ L = [some (.ref 0), some (.ref 7), some (.int (nI kk)), some (.int (nI a)), some (.int (nI b)), some (.int (nI i)), some (.int (nI q)), some (.int x7), y8] ∧ h = (kC pl0 ke0 sz0 se0 gr0 pl1 ke1 sz1 se1 gr1 im ce' wo pv fa pm pw fr ba rw ro co mo mi ki M)) ?_ ?_ 0 (Nat.zero_le _) _ _ ⟨_, _, _, rfl, rfl, rfl⟩
      · skip
        rintro v _ _ hv ⟨x7, y8, ce2, rfl, rfl, rfl⟩ K2
        refine mm_T.s rfl rfl rfl (fun _ => rfl) ?_
        refine mm_T.s rfl rfl rfl (fun _ => rfl) ?_
        refine mm_T.s rfl rfl rfl (fun _ => if_neg (nI_ge (b := 8) hv (by decide))) ?_
        refine mm_T.s rfl rfl rfl (fun _ => rfl) ?_
        refine mm_T.s rfl rfl rfl (fun _ => rfl) ?_
        refine mm_T.s rfl rfl rfl (fun _ => rfl) ?_
        refine mm_T.s rfl rfl rfl (fun _ => rfl) ?_
        refine mm_T.s rfl rfl rfl (fun _ => rfl) ?_
        refine mm_T.s rfl rfl rfl (fun _ => rfl) ?_
        refine mm_T.s rfl rfl rfl (fun _ => rfl) ?_
        refine mm_T.s rfl rfl rfl (fun _ => rfl) ?_
        refine mm_T.s rfl rfl rfl (fun _ => rfl) ?_
        refine mm_T.s rfl rfl rfl (fun _ => rfl) ?_
        refine mm_T.ci rfl rfl (fun hb52 => ?_) (fun hb52 => ?_)
        · skip
          refine mm_T.s rfl rfl rfl (fun _ => rfl) ?_
          refine mm_T.s rfl rfl rfl (fun _ => rfl) ?_
          exact K2 _ _ ⟨_, _, _, nI_1 v, rfl, rfl⟩
        · skip
          obtain ⟨f, hf1, hf, hA, ef⟩ := x_fv_ok hq2 hv hb52 hdm
          obtain ⟨jj, hjj, epl⟩ := hI.pl hf1 hf (hI.2.2.1 q f hq1 hq2 hqp hf1 hf hA)
          have E3 : mm_EC kM 7 [.ref 7, .int (nI f)] (kC pl0 ke0 sz0 se0 gr0 pl1 ke1 sz1 se1 gr1 im ce2 wo pv fa pm pw fr ba rw ro co mo mi ki M) (some (.int (nI jj)), (kC pl0 ke0 sz0 se0 gr0 pl1 ke1 sz1 se1 gr1 im ce2 wo pv fa pm pw fr ba rw ro co mo mi ki M)) := by
            rw [← epl]
            exact v_place1 hf
          refine mm_T.lc (L' := [some (.ref 0), some (.ref 7), some (.int (nI kk)), some (.int (nI a)), some (.int (nI b)), some (.int (nI i)), some (.int (nI q)), some (.int (nI v)), some (.int (nI f))]) (by rw [← ef]; rfl) ?_
          refine mm_T.s rfl rfl rfl (fun _ => rfl) ?_
          refine mm_T.gf rfl rfl rfl rfl rfl ?_
          refine mm_T.s rfl rfl rfl (fun _ => rfl) ?_
          refine mm_T.s rfl rfl rfl (fun _ => rfl) ?_
          refine mm_T.s rfl rfl rfl (fun _ => rfl) ?_
          refine mm_T.iv rfl rfl rfl rfl rfl rfl E3 ?_
          refine mm_T.s rfl rfl rfl (fun _ => rfl) ?_
          refine mm_T.ti (nI (a + jj)) (nI_add a jj) ?_
          refine mm_T.s rfl rfl rfl (fun _ => rfl) ?_
          refine mm_T.s rfl rfl rfl (fun _ => rfl) ?_
          refine mm_T.s rfl rfl rfl (fun _ => rfl) ?_
          refine mm_T.ti (nI (b + i)) (nI_add b i) ?_
          refine mm_T.s rfl rfl rfl (fun _ => rfl) ?_
          refine mm_T.s rfl rfl rfl (fun _ => rfl) ?_
          refine mm_T.ic rfl rfl rfl rfl rfl (v_sf _ _) ?_
          refine mm_T.iv rfl rfl rfl rfl rfl rfl (w_write (by omega) (by omega) _) ?_
          refine mm_T.s rfl rfl rfl (fun _ => rfl) ?_
          refine mm_T.s rfl rfl rfl (fun _ => rfl) ?_
          exact K2 _ _ ⟨_, _, _, nI_1 v, rfl, rfl⟩
      · skip
        rintro _ _ ⟨x7, y8, ce2, rfl, rfl, rfl⟩
        refine mm_T.s rfl rfl rfl (fun _ => rfl) ?_
        refine mm_T.s rfl rfl rfl (fun _ => rfl) ?_
        refine mm_T.s rfl rfl rfl (fun _ => rfl) ?_
        refine mm_T.s rfl rfl rfl (fun _ => rfl) ?_
        refine mm_T.s rfl rfl rfl (fun _ => rfl) ?_
        exact K _ _ ⟨_, _, _, _, _, nI_1 i, rfl, rfl⟩
    · skip
      rintro _ _ ⟨x5, y6, y7, y8, ce1, rfl, rfl, rfl⟩
      refine mm_T.s rfl rfl rfl (fun _ => rfl) ?_
      refine mm_T.s rfl rfl rfl (fun _ => rfl) ?_
      refine mm_T.s rfl rfl rfl (fun _ => rfl) ?_
      refine mm_T.iv rfl rfl rfl rfl rfl rfl (v_sz1 hI _) ?_
      refine mm_T.s rfl rfl rfl (fun _ => if_pos (nI_le (Nat.le_refl _) (by omega))) ?_
      exact mm_T.ret rfl rfl rfl (⟨rfl, _, rfl⟩)
  · skip
    exact mm_T.ret rfl rfl rfl (⟨rfl, _, rfl⟩)

theorem w_lb1 {pl0 ke0 sz0 se0 gr0 pl1 ke1 sz1 se1 gr1 im ce wo pv fa pm pw fr ba : Nat → Int32} {rw : Nat → Int64} {ro co mo : Int32} {mi : Int64} {ki : Int32} {M : mm_H} (hI : x_CI pl1 sz1 se1) (k : Int32) : mm_TC kM 59 [.ref 0, .ref 7, .int k] (kC pl0 ke0 sz0 se0 gr0 pl1 ke1 sz1 se1 gr1 im ce wo pv fa pm pw fr ba rw ro co mo mi ki M) (fun v h => v = none ∧ ∃ ce', h = (kC pl0 ke0 sz0 se0 gr0 pl1 ke1 sz1 se1 gr1 im ce' wo pv fa pm pw fr ba rw (nI (x_m pl1 (k - 1))) (nI (x_m pl1 k)) mo mi ki M)) := by
  have h1 := x_m_le hI k
  have h2 := x_m_le hI (k - 1)
  refine mm_TC.of (M := kq_59) rfl rfl ?_
  refine mm_T.s rfl rfl rfl (fun _ => rfl) ?_
  refine mm_T.gf rfl rfl rfl rfl rfl ?_
  refine mm_T.s rfl rfl rfl (fun _ => rfl) ?_
  refine mm_T.s rfl rfl rfl (fun _ => rfl) ?_
  refine mm_T.s rfl rfl rfl (fun _ => rfl) ?_
  refine mm_T.s rfl rfl rfl (fun _ => rfl) ?_
  refine mm_T.iv rfl rfl rfl rfl rfl rfl (v_sz1 hI (k - 1)) ?_
  refine mm_T.s rfl rfl rfl (fun _ => rfl) ?_
  refine mm_T.s rfl rfl rfl (fun _ => rfl) ?_
  refine mm_T.iv rfl rfl rfl rfl rfl rfl (v_sz1 hI _) ?_
  refine mm_T.ivw rfl rfl rfl rfl rfl rfl (w_shape (by omega) (by omega)) ?_
  rintro _ _ ⟨rfl, ce1, rfl⟩
  refine mm_T.s rfl rfl rfl (fun _ => rfl) ?_
  refine mm_T.s rfl rfl rfl (fun _ => rfl) ?_
  refine mm_T.s rfl rfl rfl (fun _ => rfl) ?_
  refine mm_T.s rfl rfl rfl (fun _ => rfl) ?_
  refine mm_T.s rfl rfl rfl (fun _ => rfl) ?_
  refine mm_T.ivw rfl rfl rfl rfl rfl rfl (w_wb1 hI k (a := 0) (b := 0) (by omega) (by omega)) ?_
  rintro _ _ ⟨rfl, ce2, rfl⟩
  exact mm_T.ret rfl rfl rfl (⟨rfl, _, rfl⟩)

theorem w_br1 {pl0 ke0 sz0 se0 gr0 pl1 ke1 sz1 se1 gr1 im ce wo pv fa pm pw fr ba : Nat → Int32} {rw : Nat → Int64} {ro co mo : Int32} {mi : Int64} {ki : Int32} {M : mm_H} (hI : x_CI pl1 sz1 se1) (k : Int32) {p : Int32} (hp : ∀ l, l ≤ 1 → x_pw p l ≠ 0) : mm_TC kM 58 [.ref 0, .ref 7, .int k, .int p] (kC pl0 ke0 sz0 se0 gr0 pl1 ke1 sz1 se1 gr1 im ce wo pv fa pm pw fr ba rw ro co mo mi ki M) (fun v h => (∃ t, v = some (.int (nI t))) ∧ ∃ ce' wo' pv' ro' co' mo' mi', h = (kC pl0 ke0 sz0 se0 gr0 pl1 ke1 sz1 se1 gr1 im ce' wo' pv' fa pm pw fr ba rw ro' co' mo' mi' ki M)) := by
  have h1 := x_m_le hI k
  have h2 := x_m_le hI (k - 1)
  refine mm_TC.of (M := kq_58) rfl rfl ?_
  refine mm_T.s rfl rfl rfl (fun _ => rfl) ?_
  refine mm_T.s rfl rfl rfl (fun _ => rfl) ?_
  refine mm_T.s rfl rfl rfl (fun _ => rfl) ?_
  refine mm_T.ivw rfl rfl rfl rfl rfl rfl (w_lb1 hI k) ?_
  rintro _ _ ⟨rfl, ce1, rfl⟩
  refine mm_T.s rfl rfl rfl (fun _ => rfl) ?_
  refine mm_T.gf rfl rfl rfl rfl rfl ?_
  refine mm_T.s rfl rfl rfl (fun _ => rfl) ?_
  refine mm_T.s rfl rfl rfl (fun _ => rfl) ?_
  refine mm_T.ivw rfl rfl rfl rfl rfl rfl (w_elim (by omega) (by omega) (n := 1) (by decide) hp) ?_
  rintro _ _ ⟨t, wo1, pv1, mi1, ht, hmi, hpv, rfl, rfl⟩
  exact mm_T.ret rfl rfl rfl (⟨⟨_, rfl⟩, _, _, _, _, _, _, _, rfl⟩)

theorem w_kc1 {pl0 ke0 sz0 se0 gr0 pl1 ke1 sz1 se1 gr1 im ce wo pv fa pm pw fr ba : Nat → Int32} {rw : Nat → Int64} {ro co mo : Int32} {mi : Int64} {ki : Int32} {M : mm_H} (hI : x_CI pl1 sz1 se1) {a : Nat} (ha : a < 4) : mm_TC kM 13 [.ref 7, .int (nI a)] (kC pl0 ke0 sz0 se0 gr0 pl1 ke1 sz1 se1 gr1 im ce wo pv fa pm pw fr ba rw ro co mo mi ki M) (fun v h => (v = some (.int 0) ∨ v = some (.int 1)) ∧ h = (kC pl0 ke0 sz0 se0 gr0 pl1 ke1 sz1 se1 gr1 im ce wo pv fa pm pw fr ba rw ro co mo mi ki M)) := by
  have h2 := x_m_le hI (nI a - 1)
  refine mm_TC.of (M := kq_13) rfl rfl ?_
  refine mm_T.s rfl rfl rfl (fun _ => rfl) ?_
  refine mm_T.s rfl rfl rfl (fun _ => rfl) ?_
  refine mm_T.up (n := (x_m pl1 (nI a - 1))) (P := fun i L h => ∃ x, x = nI i ∧ L = [some (.ref 7), some (.int (nI a)), some (.int x)] ∧ h = (kC pl0 ke0 sz0 se0 gr0 pl1 ke1 sz1 se1 gr1 im ce wo pv fa pm pw fr ba rw ro co mo mi ki M)) ?_ ?_ 0 (Nat.zero_le _) _ _ ⟨_, rfl, rfl, rfl⟩
  · skip
    rintro i _ _ hi ⟨x, rfl, rfl, rfl⟩ K
    have hi0 := hi
    obtain ⟨kk, hk4, ek, em⟩ := x_m_pos hi0
    rw [em] at hi0
    obtain ⟨q, hq1, hq2, hq, hqd, hqp, hqc⟩ := hI.set hk4 hi0
    have hka : nI kk + 1 = nI a := by
      rw [← ek]
      exact Int32.sub_add_cancel _ _
    have hle := hI.le hk4
    have E2 : mm_EC kM 5 [.ref 7, .int (nI a - 1), .int (nI i)] (kC pl0 ke0 sz0 se0 gr0 pl1 ke1 sz1 se1 gr1 im ce wo pv fa pm pw fr ba rw ro co mo mi ki M) (some (.int (nI q)), (kC pl0 ke0 sz0 se0 gr0 pl1 ke1 sz1 se1 gr1 im ce wo pv fa pm pw fr ba rw ro co mo mi ki M)) := by
      rw [← hq, ek]
      exact v_setAt1 (by omega)
    have E3 : mm_EC kM 12 [.ref 7, .int (nI q)] (kC pl0 ke0 sz0 se0 gr0 pl1 ke1 sz1 se1 gr1 im ce wo pv fa pm pw fr ba rw ro co mo mi ki M) (some (.int (x_ba se1 ke1 a (nI q) (x_ct pl1 a 255))), (kC pl0 ke0 sz0 se0 gr0 pl1 ke1 sz1 se1 gr1 im ce wo pv fa pm pw fr ba rw ro co mo mi ki M)) := v_ba1 (by rw [hqd]; exact hka) ha (x_sok1 hI ha)
    refine mm_T.s rfl rfl rfl (fun _ => rfl) ?_
    refine mm_T.s rfl rfl rfl (fun _ => rfl) ?_
    refine mm_T.s rfl rfl rfl (fun _ => rfl) ?_
    refine mm_T.s rfl rfl rfl (fun _ => rfl) ?_
    refine mm_T.s rfl rfl rfl (fun _ => rfl) ?_
    refine mm_T.iv rfl rfl rfl rfl rfl rfl (v_sz1 hI (nI a - 1)) ?_
    refine mm_T.s rfl rfl rfl (fun _ => if_neg (nI_ge hi (by omega))) ?_
    refine mm_T.s rfl rfl rfl (fun _ => rfl) ?_
    refine mm_T.s rfl rfl rfl (fun _ => rfl) ?_
    refine mm_T.s rfl rfl rfl (fun _ => rfl) ?_
    refine mm_T.s rfl rfl rfl (fun _ => rfl) ?_
    refine mm_T.s rfl rfl rfl (fun _ => rfl) ?_
    refine mm_T.s rfl rfl rfl (fun _ => rfl) ?_
    refine mm_T.iv rfl rfl rfl rfl rfl rfl E2 ?_
    refine mm_T.iv rfl rfl rfl rfl rfl rfl E3 ?_
    refine mm_T.cz rfl rfl (fun hb25 => ?_) (fun hb25 => ?_)
    · skip
      refine mm_T.s rfl rfl rfl (fun _ => rfl) ?_
      refine mm_T.s rfl rfl rfl (fun _ => rfl) ?_
      exact K _ _ ⟨_, nI_1 i, rfl, rfl⟩
    · skip
      refine mm_T.s rfl rfl rfl (fun _ => rfl) ?_
      exact mm_T.ret rfl rfl rfl (⟨Or.inl rfl, rfl⟩)
  · skip
    rintro _ _ ⟨x, rfl, rfl, rfl⟩
    refine mm_T.s rfl rfl rfl (fun _ => rfl) ?_
    refine mm_T.s rfl rfl rfl (fun _ => rfl) ?_
    refine mm_T.s rfl rfl rfl (fun _ => rfl) ?_
    refine mm_T.s rfl rfl rfl (fun _ => rfl) ?_
    refine mm_T.s rfl rfl rfl (fun _ => rfl) ?_
    refine mm_T.iv rfl rfl rfl rfl rfl rfl (v_sz1 hI (nI a - 1)) ?_
    refine mm_T.s rfl rfl rfl (fun _ => if_pos (nI_le (Nat.le_refl _) (by omega))) ?_
    refine mm_T.s rfl rfl rfl (fun _ => rfl) ?_
    exact mm_T.ret rfl rfl rfl (⟨Or.inr rfl, rfl⟩)

theorem w_cob1 {pl0 ke0 sz0 se0 gr0 pl1 ke1 sz1 se1 gr1 im ce wo pv fa pm pw fr ba : Nat → Int32} {rw : Nat → Int64} {ro co mo : Int32} {mi : Int64} {ki : Int32} {M : mm_H} (hI : x_CI pl1 sz1 se1) {e : Nat} (he : e < 24) : mm_TC kM 14 [.ref 7, .int (nI e)] (kC pl0 ke0 sz0 se0 gr0 pl1 ke1 sz1 se1 gr1 im ce wo pv fa pm pw fr ba rw ro co mo mi ki M) (fun v h => (∃ x, v = some (.int x)) ∧ h = (kC pl0 ke0 sz0 se0 gr0 pl1 ke1 sz1 se1 gr1 im ce wo pv fa pm pw fr ba rw ro co mo mi ki M)) := by
  have S2 : mm_EC kM 4 [.ref 7, .int (nI 2)] (kC pl0 ke0 sz0 se0 gr0 pl1 ke1 sz1 se1 gr1 im ce wo pv fa pm pw fr ba rw ro co mo mi ki M) (some (.int (nI (x_ct pl1 2 255))), (kC pl0 ke0 sz0 se0 gr0 pl1 ke1 sz1 se1 gr1 im ce wo pv fa pm pw fr ba rw ro co mo mi ki M)) := by
    rw [← x_m_a (a := 2) (by decide)]
    exact v_sz1 hI (nI 2)
  have hle := hI.le (k := 2) (by decide)
  refine mm_TC.of (M := kq_14) rfl rfl ?_
  refine mm_T.s rfl rfl rfl (fun _ => rfl) ?_
  refine mm_T.s rfl rfl rfl (fun _ => rfl) ?_
  refine mm_T.s rfl rfl rfl (fun _ => rfl) ?_
  refine mm_T.iv rfl rfl rfl rfl rfl rfl (v_setAt1 (a := 1) (j := e) (by omega)) ?_
  refine mm_T.s rfl rfl rfl (fun _ => rfl) ?_
  refine mm_T.s rfl rfl rfl (fun _ => rfl) ?_
  refine mm_T.s rfl rfl rfl (fun _ => rfl) ?_
  refine mm_T.s rfl rfl rfl (fun _ => rfl) ?_
  refine mm_T.s rfl rfl rfl (fun _ => rfl) ?_
  refine mm_T.up (n := (x_ct pl1 2 255)) (P := fun i L h => ∃ x3 x4 : Int32, x4 = nI i ∧ L = [some (.ref 7), some (.int (nI e)), some (.int (se1 (1 * 24 + e))), some (.int x3), some (.int x4)] ∧ h = (kC pl0 ke0 sz0 se0 gr0 pl1 ke1 sz1 se1 gr1 im ce wo pv fa pm pw fr ba rw ro co mo mi ki M)) ?_ ?_ 0 (Nat.zero_le _) _ _ ⟨_, _, rfl, rfl, rfl⟩
  · skip
    rintro i _ _ hi ⟨x3, x4, rfl, rfl, rfl⟩ K
    obtain ⟨q, hq1, hq2, hq, hqd, hqp, hqc⟩ := hI.set (k := 2) (by decide) hi
    have E2 : mm_EC kM 5 [.ref 7, .int (nI 2), .int (nI i)] (kC pl0 ke0 sz0 se0 gr0 pl1 ke1 sz1 se1 gr1 im ce wo pv fa pm pw fr ba rw ro co mo mi ki M) (some (.int (nI q)), (kC pl0 ke0 sz0 se0 gr0 pl1 ke1 sz1 se1 gr1 im ce wo pv fa pm pw fr ba rw ro co mo mi ki M)) := by
      rw [← hq]
      exact v_setAt1 (a := 2) (by omega)
    refine mm_T.s rfl rfl rfl (fun _ => rfl) ?_
    refine mm_T.s rfl rfl rfl (fun _ => rfl) ?_
    refine mm_T.s rfl rfl rfl (fun _ => rfl) ?_
    refine mm_T.iv rfl rfl rfl rfl rfl rfl S2 ?_
    refine mm_T.s rfl rfl rfl (fun _ => if_neg (nI_ge hi (by omega))) ?_
    refine mm_T.s rfl rfl rfl (fun _ => rfl) ?_
    refine mm_T.s rfl rfl rfl (fun _ => rfl) ?_
    refine mm_T.s rfl rfl rfl (fun _ => rfl) ?_
    refine mm_T.iv rfl rfl rfl rfl rfl rfl E2 ?_
    refine mm_T.s rfl rfl rfl (fun _ => rfl) ?_
    refine mm_T.s rfl rfl rfl (fun _ => rfl) ?_
    refine mm_T.s rfl rfl rfl (fun _ => rfl) ?_
    refine mm_T.ci rfl rfl (fun hb32 => ?_) (fun hb32 => ?_)
    · skip
      refine mm_T.s rfl rfl rfl (fun _ => rfl) ?_
      refine mm_T.s rfl rfl rfl (fun _ => rfl) ?_
      exact K _ _ ⟨_, _, nI_1 i, rfl, rfl⟩
    · skip
      refine mm_T.s rfl rfl rfl (fun _ => rfl) ?_
      refine mm_T.s rfl rfl rfl (fun _ => rfl) ?_
      refine mm_T.s rfl rfl rfl (fun _ => rfl) ?_
      refine mm_T.s rfl rfl rfl (fun _ => rfl) ?_
      refine mm_T.s rfl rfl rfl (fun _ => rfl) ?_
      refine mm_T.s rfl rfl rfl (fun _ => rfl) ?_
      refine mm_T.s rfl rfl rfl (fun _ => rfl) ?_
      refine mm_T.s rfl rfl rfl (fun _ => rfl) ?_
      exact K _ _ ⟨_, _, nI_1 i, rfl, rfl⟩
  · skip
    rintro _ _ ⟨x3, x4, rfl, rfl, rfl⟩
    refine mm_T.s rfl rfl rfl (fun _ => rfl) ?_
    refine mm_T.s rfl rfl rfl (fun _ => rfl) ?_
    refine mm_T.s rfl rfl rfl (fun _ => rfl) ?_
    refine mm_T.iv rfl rfl rfl rfl rfl rfl S2 ?_
    refine mm_T.s rfl rfl rfl (fun _ => if_pos (nI_le (Nat.le_refl _) (by omega))) ?_
    refine mm_T.s rfl rfl rfl (fun _ => rfl) ?_
    exact mm_T.ret rfl rfl rfl (⟨⟨_, rfl⟩, rfl⟩)

theorem w_tri1 {pl0 ke0 sz0 se0 gr0 pl1 ke1 sz1 se1 gr1 im ce wo pv fa pm pw fr ba : Nat → Int32} {rw : Nat → Int64} {ro co mo : Int32} {mi : Int64} {ki : Int32} {M : mm_H} (hI : x_CI pl1 sz1 se1) (z f : Int32) : mm_TC kM 15 [.ref 7, .int z, .int f] (kC pl0 ke0 sz0 se0 gr0 pl1 ke1 sz1 se1 gr1 im ce wo pv fa pm pw fr ba rw ro co mo mi ki M) (fun v h => (∃ x, v = some (.int x)) ∧ h = (kC pl0 ke0 sz0 se0 gr0 pl1 ke1 sz1 se1 gr1 im ce wo pv fa pm pw fr ba rw ro co mo mi ki M)) := by
  have S2 : mm_EC kM 4 [.ref 7, .int (nI 2)] (kC pl0 ke0 sz0 se0 gr0 pl1 ke1 sz1 se1 gr1 im ce wo pv fa pm pw fr ba rw ro co mo mi ki M) (some (.int (nI (x_ct pl1 2 255))), (kC pl0 ke0 sz0 se0 gr0 pl1 ke1 sz1 se1 gr1 im ce wo pv fa pm pw fr ba rw ro co mo mi ki M)) := by
    rw [← x_m_a (a := 2) (by decide)]
    exact v_sz1 hI (nI 2)
  have hle := hI.le (k := 2) (by decide)
  refine mm_TC.of (M := kq_15) rfl rfl ?_
  refine mm_T.s rfl rfl rfl (fun _ => rfl) ?_
  refine mm_T.s rfl rfl rfl (fun _ => rfl) ?_
  refine mm_T.s rfl rfl rfl (fun _ => rfl) ?_
  refine mm_T.s rfl rfl rfl (fun _ => rfl) ?_
  refine mm_T.up (n := (x_ct pl1 2 255)) (P := fun i L h => ∃ (x3 x4 : Int32) (y5 y6 y7 y8 : Option Value), x4 = nI i ∧ L = [some (.ref 7), some (.int z), some (.int f), some (.int x3), some (.int x4), y5, y6, y7, y8] ∧ h = (kC pl0 ke0 sz0 se0 gr0 pl1 ke1 sz1 se1 gr1 im ce wo pv fa pm pw fr ba rw ro co mo mi ki M)) ?_ ?_ 0 (Nat.zero_le _) _ _ ⟨_, _, _, _, _, _, rfl, rfl, rfl⟩
  · skip
    rintro i _ _ hi ⟨x3, x4, y5, y6, y7, y8, rfl, rfl, rfl⟩ K
    obtain ⟨q, hq1, hq2, hq, hqd, hqp, hqc⟩ := hI.set (k := 2) (by decide) hi
    have E2 : mm_EC kM 5 [.ref 7, .int (nI 2), .int (nI i)] (kC pl0 ke0 sz0 se0 gr0 pl1 ke1 sz1 se1 gr1 im ce wo pv fa pm pw fr ba rw ro co mo mi ki M) (some (.int (nI q)), (kC pl0 ke0 sz0 se0 gr0 pl1 ke1 sz1 se1 gr1 im ce wo pv fa pm pw fr ba rw ro co mo mi ki M)) := by
      rw [← hq]
      exact v_setAt1 (a := 2) (by omega)
    have hbd : ∀ y : Int32, 0 ≤ (nI q &&& y).toInt ∧ (nI q &&& y).toInt < (256 : Nat) := fun y => by
      obtain ⟨j, hj, e⟩ := x_and hq2 y
      rw [e]
      exact mm_bd hj (by decide)
    refine mm_T.s rfl rfl rfl (fun _ => rfl) ?_
    refine mm_T.s rfl rfl rfl (fun _ => rfl) ?_
    refine mm_T.s rfl rfl rfl (fun _ => rfl) ?_
    refine mm_T.iv rfl rfl rfl rfl rfl rfl S2 ?_
    refine mm_T.s rfl rfl rfl (fun _ => if_neg (nI_ge hi (by omega))) ?_
    refine mm_T.s rfl rfl rfl (fun _ => rfl) ?_
    refine mm_T.s rfl rfl rfl (fun _ => rfl) ?_
    refine mm_T.s rfl rfl rfl (fun _ => rfl) ?_
    refine mm_T.iv rfl rfl rfl rfl rfl rfl E2 ?_
    refine mm_T.s rfl rfl rfl (fun _ => rfl) ?_
    refine mm_T.s rfl rfl rfl (fun _ => rfl) ?_
    refine mm_T.s rfl rfl rfl (fun _ => rfl) ?_
    refine mm_T.s rfl rfl rfl (fun _ => rfl) ?_
    refine mm_T.s rfl rfl rfl (fun _ => rfl) ?_
    refine mm_T.s rfl rfl rfl (fun _ => rfl) ?_
    refine mm_T.s rfl rfl rfl (fun _ => rfl) ?_
    refine mm_T.s rfl rfl rfl (fun _ => rfl) ?_
    refine mm_T.s rfl rfl rfl (fun _ => rfl) ?_
    refine mm_T.s rfl rfl rfl (fun _ => rfl) ?_
    refine mm_T.s rfl rfl rfl (fun _ => rfl) ?_
    refine mm_T.s rfl rfl rfl (fun _ => rfl) ?_
    refine mm_T.s rfl rfl rfl (fun _ => rfl) ?_
    refine mm_T.cz rfl rfl (fun hb42 => ?_) (fun hb42 => ?_)
    · skip
      refine mm_T.s rfl rfl rfl (fun _ => rfl) ?_
      refine mm_T.s rfl rfl rfl (fun _ => rfl) ?_
      refine mm_T.s rfl rfl rfl (fun _ => rfl) ?_
      refine mm_T.s rfl rfl rfl (fun _ => rfl) ?_
      refine mm_T.gf rfl rfl rfl rfl rfl ?_
      refine mm_T.s rfl rfl rfl (fun _ => rfl) ?_
      refine mm_T.ia rfl rfl rfl (hbd _) rfl ?_
      refine mm_T.s rfl rfl rfl (fun _ => rfl) ?_
      refine mm_T.s rfl rfl rfl (fun _ => rfl) ?_
      refine mm_T.s rfl rfl rfl (fun _ => rfl) ?_
      refine mm_T.cz rfl rfl (fun hb72 => ?_) (fun hb72 => ?_)
      · skip
        refine mm_T.s rfl rfl rfl (fun _ => rfl) ?_
        refine mm_T.s rfl rfl rfl (fun _ => rfl) ?_
        exact K _ _ ⟨_, _, _, _, _, _, nI_1 i, rfl, rfl⟩
      · skip
        refine mm_T.s rfl rfl rfl (fun _ => rfl) ?_
        refine mm_T.s rfl rfl rfl (fun _ => rfl) ?_
        refine mm_T.s rfl rfl rfl (fun _ => rfl) ?_
        refine mm_T.s rfl rfl rfl (fun _ => rfl) ?_
        refine mm_T.s rfl rfl rfl (fun _ => rfl) ?_
        refine mm_T.s rfl rfl rfl (fun _ => rfl) ?_
        refine mm_T.s rfl rfl rfl (fun _ => rfl) ?_
        refine mm_T.s rfl rfl rfl (fun _ => rfl) ?_
        exact K _ _ ⟨_, _, _, _, _, _, nI_1 i, rfl, rfl⟩
    · skip
      refine mm_T.s rfl rfl rfl (fun _ => rfl) ?_
      refine mm_T.s rfl rfl rfl (fun _ => rfl) ?_
      refine mm_T.s rfl rfl rfl (fun _ => rfl) ?_
      refine mm_T.s rfl rfl rfl (fun _ => rfl) ?_
      refine mm_T.s rfl rfl rfl (fun _ => rfl) ?_
      refine mm_T.s rfl rfl rfl (fun _ => rfl) ?_
      refine mm_T.s rfl rfl rfl (fun _ => rfl) ?_
      refine mm_T.s rfl rfl rfl (fun _ => rfl) ?_
      refine mm_T.s rfl rfl rfl (fun _ => rfl) ?_
      refine mm_T.s rfl rfl rfl (fun _ => rfl) ?_
      refine mm_T.s rfl rfl rfl (fun _ => rfl) ?_
      refine mm_T.gf rfl rfl rfl rfl rfl ?_
      refine mm_T.s rfl rfl rfl (fun _ => rfl) ?_
      refine mm_T.ia rfl rfl rfl (hbd _) rfl ?_
      refine mm_T.s rfl rfl rfl (fun _ => rfl) ?_
      refine mm_T.s rfl rfl rfl (fun _ => rfl) ?_
      refine mm_T.s rfl rfl rfl (fun _ => rfl) ?_
      refine mm_T.cz rfl rfl (fun hb72 => ?_) (fun hb72 => ?_)
      · skip
        refine mm_T.s rfl rfl rfl (fun _ => rfl) ?_
        refine mm_T.s rfl rfl rfl (fun _ => rfl) ?_
        exact K _ _ ⟨_, _, _, _, _, _, nI_1 i, rfl, rfl⟩
      · skip
        refine mm_T.s rfl rfl rfl (fun _ => rfl) ?_
        refine mm_T.s rfl rfl rfl (fun _ => rfl) ?_
        refine mm_T.s rfl rfl rfl (fun _ => rfl) ?_
        refine mm_T.s rfl rfl rfl (fun _ => rfl) ?_
        refine mm_T.s rfl rfl rfl (fun _ => rfl) ?_
        refine mm_T.s rfl rfl rfl (fun _ => rfl) ?_
        refine mm_T.s rfl rfl rfl (fun _ => rfl) ?_
        refine mm_T.s rfl rfl rfl (fun _ => rfl) ?_
        exact K _ _ ⟨_, _, _, _, _, _, nI_1 i, rfl, rfl⟩
  · skip
    rintro _ _ ⟨x3, x4, y5, y6, y7, y8, rfl, rfl, rfl⟩
    refine mm_T.s rfl rfl rfl (fun _ => rfl) ?_
    refine mm_T.s rfl rfl rfl (fun _ => rfl) ?_
    refine mm_T.s rfl rfl rfl (fun _ => rfl) ?_
    refine mm_T.iv rfl rfl rfl rfl rfl rfl S2 ?_
    refine mm_T.s rfl rfl rfl (fun _ => if_pos (nI_le (Nat.le_refl _) (by omega))) ?_
    refine mm_T.s rfl rfl rfl (fun _ => rfl) ?_
    exact mm_T.ret rfl rfl rfl (⟨⟨_, rfl⟩, rfl⟩)

theorem w_fc1 {pl0 ke0 sz0 se0 gr0 pl1 ke1 sz1 se1 gr1 im ce wo pv fa pm pw fr ba : Nat → Int32} {rw : Nat → Int64} {ro co mo : Int32} {mi : Int64} {ki : Int32} {M : mm_H} (hI : x_CI pl1 sz1 se1) : mm_TC kM 64 [.ref 0, .ref 7] (kC pl0 ke0 sz0 se0 gr0 pl1 ke1 sz1 se1 gr1 im ce wo pv fa pm pw fr ba rw ro co mo mi ki M) (fun v h => ∃ n fr' ba' rw', n ≤ 24 ∧ v = some (.int (nI n)) ∧ h = (kC pl0 ke0 sz0 se0 gr0 pl1 ke1 sz1 se1 gr1 im ce wo pv fa pm pw fr' ba' rw' ro co mo mi ki M)) := by
  have hle := hI.le (k := 1) (by decide)
  refine mm_TC.of (M := kq_64) rfl rfl ?_
  refine mm_T.s rfl rfl rfl (fun _ => rfl) ?_
  refine mm_T.gf rfl rfl rfl rfl rfl ?_
  refine mm_T.ivw rfl rfl rfl rfl rfl rfl w_sdrop ?_
  rintro _ _ ⟨rfl, rw1, rfl⟩
  refine mm_T.s rfl rfl rfl (fun _ => rfl) ?_
  refine mm_T.s rfl rfl rfl (fun _ => rfl) ?_
  refine mm_T.s rfl rfl rfl (fun _ => rfl) ?_
  refine mm_T.s rfl rfl rfl (fun _ => rfl) ?_
  refine mm_T.up (n := (x_ct pl1 1 255)) (P := fun i L h => ∃ n x2 x3 y4 y5 y6 fr' ba' rw', n ≤ i ∧ x2 = nI n ∧ x3 = nI i ∧ L = [some (.ref 0), some (.ref 7), some (.int x2), some (.int x3), y4, y5, y6] ∧ h = (kC pl0 ke0 sz0 se0 gr0 pl1 ke1 sz1 se1 gr1 im ce wo pv fa pm pw fr' ba' rw' ro co mo mi ki M)) ?_ ?_ 0 (Nat.zero_le _) _ _ ⟨0, _, _, _, _, _, _, _, _, Nat.le_refl _, rfl, rfl, rfl, rfl⟩
  · skip
    rintro i _ _ hi ⟨n, x2, x3, y4, y5, y6, fr1, ba1, rw2, hn, rfl, rfl, rfl, rfl⟩ K
    have S1 : mm_EC kM 4 [.ref 7, .int (nI 1)] (kC pl0 ke0 sz0 se0 gr0 pl1 ke1 sz1 se1 gr1 im ce wo pv fa pm pw fr1 ba1 rw2 ro co mo mi ki M) (some (.int (nI (x_ct pl1 1 255))), (kC pl0 ke0 sz0 se0 gr0 pl1 ke1 sz1 se1 gr1 im ce wo pv fa pm pw fr1 ba1 rw2 ro co mo mi ki M)) := by
      rw [← x_m_a (a := 1) (by decide)]
      exact v_sz1 hI (nI 1)
    refine mm_T.s rfl rfl rfl (fun _ => rfl) ?_
    refine mm_T.s rfl rfl rfl (fun _ => rfl) ?_
    refine mm_T.s rfl rfl rfl (fun _ => rfl) ?_
    refine mm_T.iv rfl rfl rfl rfl rfl rfl S1 ?_
    refine mm_T.s rfl rfl rfl (fun _ => if_neg (nI_ge hi (by omega))) ?_
    refine mm_T.s rfl rfl rfl (fun _ => rfl) ?_
    refine mm_T.s rfl rfl rfl (fun _ => rfl) ?_
    refine mm_T.ivw rfl rfl rfl rfl rfl rfl (w_cob1 hI (by omega)) ?_
    rintro _ _ ⟨⟨cb, rfl⟩, rfl⟩
    refine mm_T.s rfl rfl rfl (fun _ => rfl) ?_
    refine mm_T.s rfl rfl rfl (fun _ => rfl) ?_
    refine mm_T.s rfl rfl rfl (fun _ => rfl) ?_
    refine mm_T.s rfl rfl rfl (fun _ => rfl) ?_
    refine mm_T.s rfl rfl rfl (fun _ => rfl) ?_
    refine mm_T.s rfl rfl rfl (fun _ => rfl) ?_
    refine mm_T.s rfl rfl rfl (fun _ => rfl) ?_
    refine mm_T.s rfl rfl rfl (fun _ => rfl) ?_
    refine mm_T.s rfl rfl rfl (fun _ => rfl) ?_
    refine mm_T.gf rfl rfl rfl rfl rfl ?_
    refine mm_T.s rfl rfl rfl (fun _ => rfl) ?_
    refine mm_T.ivw rfl rfl rfl rfl rfl rfl (w_take _) ?_
    rintro _ _ ⟨⟨tk, rfl⟩, rw3, rfl⟩
    refine mm_T.cz rfl rfl (fun hb44 => ?_) (fun hb44 => ?_)
    · skip
      refine mm_T.s rfl rfl rfl (fun _ => rfl) ?_
      refine mm_T.s rfl rfl rfl (fun _ => rfl) ?_
      exact K _ _ ⟨n, _, _, _, _, _, _, _, _, by omega, rfl, nI_1 i, rfl, rfl⟩
    · skip
      refine mm_T.s rfl rfl rfl (fun _ => rfl) ?_
      refine mm_T.gf rfl rfl rfl rfl rfl ?_
      refine mm_T.s rfl rfl rfl (fun _ => rfl) ?_
      refine mm_T.ivw rfl rfl rfl rfl rfl rfl (w_red _) ?_
      rintro _ _ ⟨⟨rd, rfl⟩, rfl⟩
      refine mm_T.s rfl rfl rfl (fun _ => rfl) ?_
      refine mm_T.s rfl rfl rfl (fun _ => rfl) ?_
      refine mm_T.s rfl rfl rfl (fun _ => rfl) ?_
      refine mm_T.s rfl rfl rfl (fun _ => rfl) ?_
      refine mm_T.s rfl rfl rfl (fun _ => rfl) ?_
      refine mm_T.gf rfl rfl rfl rfl rfl ?_
      refine mm_T.s rfl rfl rfl (fun _ => rfl) ?_
      refine mm_T.s rfl rfl rfl (fun _ => rfl) ?_
      refine mm_T.s rfl rfl rfl (fun _ => rfl) ?_
      refine mm_T.s rfl rfl rfl (fun _ => rfl) ?_
      refine mm_T.ivw rfl rfl rfl rfl rfl rfl (w_tri1 hI _ _) ?_
      rintro _ _ ⟨⟨t1, rfl⟩, rfl⟩
      refine mm_T.is rfl rfl rfl (mm_bd (by omega) (by decide)) rfl ?_
      refine mm_T.s rfl rfl rfl (fun _ => rfl) ?_
      refine mm_T.gf rfl rfl rfl rfl rfl ?_
      refine mm_T.s rfl rfl rfl (fun _ => rfl) ?_
      refine mm_T.s rfl rfl rfl (fun _ => rfl) ?_
      refine mm_T.s rfl rfl rfl (fun _ => rfl) ?_
      refine mm_T.s rfl rfl rfl (fun _ => rfl) ?_
      refine mm_T.ivw rfl rfl rfl rfl rfl rfl (w_tri1 hI _ _) ?_
      rintro _ _ ⟨⟨t2, rfl⟩, rfl⟩
      refine mm_T.is rfl rfl rfl (mm_bd (by omega) (by decide)) rfl ?_
      refine mm_T.s rfl rfl rfl (fun _ => rfl) ?_
      refine mm_T.s rfl rfl rfl (fun _ => rfl) ?_
      refine mm_T.s rfl rfl rfl (fun _ => rfl) ?_
      exact K _ _ ⟨n + 1, _, _, _, _, _, _, _, _, by omega, nI_1 n, nI_1 i, rfl, rfl⟩
  · skip
    rintro _ _ ⟨n, x2, x3, y4, y5, y6, fr1, ba1, rw2, hn, rfl, rfl, rfl, rfl⟩
    have S1 : mm_EC kM 4 [.ref 7, .int (nI 1)] (kC pl0 ke0 sz0 se0 gr0 pl1 ke1 sz1 se1 gr1 im ce wo pv fa pm pw fr1 ba1 rw2 ro co mo mi ki M) (some (.int (nI (x_ct pl1 1 255))), (kC pl0 ke0 sz0 se0 gr0 pl1 ke1 sz1 se1 gr1 im ce wo pv fa pm pw fr1 ba1 rw2 ro co mo mi ki M)) := by
      rw [← x_m_a (a := 1) (by decide)]
      exact v_sz1 hI (nI 1)
    refine mm_T.s rfl rfl rfl (fun _ => rfl) ?_
    refine mm_T.s rfl rfl rfl (fun _ => rfl) ?_
    refine mm_T.s rfl rfl rfl (fun _ => rfl) ?_
    refine mm_T.iv rfl rfl rfl rfl rfl rfl S1 ?_
    refine mm_T.s rfl rfl rfl (fun _ => if_pos (nI_le (Nat.le_refl _) (by omega))) ?_
    refine mm_T.s rfl rfl rfl (fun _ => rfl) ?_
    exact mm_T.ret rfl rfl rfl (⟨n, _, _, _, by omega, rfl, rfl⟩)

theorem w_products1 {pl0 ke0 sz0 se0 gr0 pl1 ke1 sz1 se1 gr1 im ce wo pv fa pm pw fr ba : Nat → Int32} {rw : Nat → Int64} {ro co mo : Int32} {mi : Int64} {ki : Int32} {M : mm_H} (hI : x_CI pl1 sz1 se1) : mm_TC kM 51 [.ref 0, .int 1] (kC pl0 ke0 sz0 se0 gr0 pl1 ke1 sz1 se1 gr1 im ce wo pv fa pm pw fr ba rw ro co mo mi ki M) (fun v h => (∃ x, v = some (.int x)) ∧ x_GR pl0 ke0 sz0 se0 gr0 pl1 ke1 sz1 se1 gr1 im M h) := by
  refine mm_TC.of (M := kq_51) rfl rfl ?_
  refine mm_T.s rfl rfl rfl (fun _ => rfl) ?_
  refine mm_T.s rfl rfl rfl (fun _ => rfl) ?_
  refine mm_T.iv rfl rfl rfl rfl rfl rfl v_cx1 ?_
  refine mm_T.s rfl rfl rfl (fun _ => rfl) ?_
  refine mm_T.s rfl rfl rfl (fun _ => rfl) ?_
  refine mm_T.s rfl rfl rfl (fun _ => rfl) ?_
  refine mm_T.s rfl rfl rfl (fun _ => rfl) ?_
  refine mm_T.s rfl rfl rfl (fun _ => rfl) ?_
  refine mm_T.ivw rfl rfl rfl rfl rfl rfl (w_fc1 hI) ?_
  rintro _ _ ⟨n, fr1, ba1, rw1, hn, rfl, rfl⟩
  refine mm_T.s rfl rfl rfl (fun _ => rfl) ?_
  refine mm_T.s rfl rfl rfl (fun _ => rfl) ?_
  refine mm_T.s rfl rfl rfl (fun _ => rfl) ?_
  refine mm_T.s rfl rfl rfl (fun _ => rfl) ?_
  refine mm_T.s rfl rfl rfl (fun _ => rfl) ?_
  refine mm_T.up (n := n) (P := fun i L h => ∃ (x4 x5 : Int32) (y6 : Option Value) (rw' : Nat → Int64), x5 = nI i ∧ L = [some (.ref 0), some (.int 1), some (.ref 7), some (.int (nI n)), some (.int x4), some (.int x5), y6] ∧ h = (kC pl0 ke0 sz0 se0 gr0 pl1 ke1 sz1 se1 gr1 im ce wo pv fa pm pw fr1 ba1 rw' ro co mo mi ki M)) ?_ ?_ 0 (Nat.zero_le _) _ _ ⟨_, _, _, _, rfl, rfl, rfl⟩
  · skip
    rintro i _ _ hi ⟨x4, x5, y6, rw2, rfl, rfl, rfl⟩ K
    refine mm_T.s rfl rfl rfl (fun _ => rfl) ?_
    refine mm_T.s rfl rfl rfl (fun _ => rfl) ?_
    refine mm_T.s rfl rfl rfl (fun _ => if_neg (nI_ge hi (by omega))) ?_
    refine mm_T.s rfl rfl rfl (fun _ => rfl) ?_
    refine mm_T.s rfl rfl rfl (fun _ => rfl) ?_
    refine mm_T.up (n := n) (P := fun j L h => ∃ (x4 x6 : Int32) (rw' : Nat → Int64), x6 = nI j ∧ L = [some (.ref 0), some (.int 1), some (.ref 7), some (.int (nI n)), some (.int x4), some (.int (nI i)), some (.int x6)] ∧ h = (kC pl0 ke0 sz0 se0 gr0 pl1 ke1 sz1 se1 gr1 im ce wo pv fa pm pw fr1 ba1 rw' ro co mo mi ki M)) ?_ ?_ 0 (Nat.zero_le _) _ _ ⟨_, _, _, rfl, rfl, rfl⟩
    · skip
      rintro j _ _ hj ⟨x4, x6, rw3, rfl, rfl, rfl⟩ K2
      refine mm_T.s rfl rfl rfl (fun _ => rfl) ?_
      refine mm_T.s rfl rfl rfl (fun _ => rfl) ?_
      refine mm_T.s rfl rfl rfl (fun _ => if_neg (nI_ge hj (by omega))) ?_
      refine mm_T.s rfl rfl rfl (fun _ => rfl) ?_
      refine mm_T.gf rfl rfl rfl rfl rfl ?_
      refine mm_T.s rfl rfl rfl (fun _ => rfl) ?_
      refine mm_T.gf rfl rfl rfl rfl rfl ?_
      refine mm_T.s rfl rfl rfl (fun _ => rfl) ?_
      refine mm_T.ia rfl rfl rfl (mm_bd (by omega) (by decide)) rfl ?_
      refine mm_T.s rfl rfl rfl (fun _ => rfl) ?_
      refine mm_T.gf rfl rfl rfl rfl rfl ?_
      refine mm_T.s rfl rfl rfl (fun _ => rfl) ?_
      refine mm_T.ia rfl rfl rfl (mm_bd (by omega) (by decide)) rfl ?_
      refine mm_T.s rfl rfl rfl (fun _ => rfl) ?_
      refine mm_T.s rfl rfl rfl (fun _ => rfl) ?_
      refine mm_T.ivw rfl rfl rfl rfl rfl rfl (w_take _) ?_
      rintro _ _ ⟨⟨tk, rfl⟩, rw4, rfl⟩
      refine mm_T.cz rfl rfl (fun hb62 => ?_) (fun hb62 => ?_)
      · skip
        refine mm_T.s rfl rfl rfl (fun _ => rfl) ?_
        refine mm_T.s rfl rfl rfl (fun _ => rfl) ?_
        exact K2 _ _ ⟨_, _, _, nI_1 j, rfl, rfl⟩
      · skip
        refine mm_T.s rfl rfl rfl (fun _ => rfl) ?_
        refine mm_T.s rfl rfl rfl (fun _ => rfl) ?_
        refine mm_T.s rfl rfl rfl (fun _ => rfl) ?_
        exact K2 _ _ ⟨_, _, _, nI_1 j, rfl, rfl⟩
    · skip
      rintro _ _ ⟨x4, x6, rw3, rfl, rfl, rfl⟩
      refine mm_T.s rfl rfl rfl (fun _ => rfl) ?_
      refine mm_T.s rfl rfl rfl (fun _ => rfl) ?_
      refine mm_T.s rfl rfl rfl (fun _ => if_pos (nI_le (Nat.le_refl _) (by omega))) ?_
      refine mm_T.s rfl rfl rfl (fun _ => rfl) ?_
      refine mm_T.s rfl rfl rfl (fun _ => rfl) ?_
      exact K _ _ ⟨_, _, _, _, nI_1 i, rfl, rfl⟩
  · skip
    rintro _ _ ⟨x4, x5, y6, rw2, rfl, rfl, rfl⟩
    refine mm_T.s rfl rfl rfl (fun _ => rfl) ?_
    refine mm_T.s rfl rfl rfl (fun _ => rfl) ?_
    refine mm_T.s rfl rfl rfl (fun _ => if_pos (nI_le (Nat.le_refl _) (by omega))) ?_
    refine mm_T.s rfl rfl rfl (fun _ => rfl) ?_
    exact mm_T.ret rfl rfl rfl (⟨⟨_, rfl⟩, ⟨_, _, _, _, _, _, _, _, _, _, _, _, _, _, rfl⟩⟩)

