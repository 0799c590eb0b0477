/-! THE MAP'S MATRIX: the counter's, cell by cell -/
/-- a boundary's entry -/
def x_G (se : Nat → Int32) (k : Int32) (r j : Nat) : Int32 := x_sf (se ((k.toNatClampNeg - 1) * 24 + r)) (se (k.toNatClampNeg * 24 + j))
theorem x_mkk {pl : Nat → Int32} {k : Int32} {r j : Nat} (hr : r < x_m pl (k - 1)) (hj : j < x_m pl k) : ∃ kk, kk + 1 < 4 ∧ k = nI (kk + 1) ∧ r < x_ct pl kk 255 ∧ j < x_ct pl (kk + 1) 255 := by
  obtain ⟨a, ha, rfl, em⟩ := x_m_pos hj
  obtain ⟨a', ha', ea, em'⟩ := x_m_pos hr
  have e0 : 1 ≤ a := by
    rcases Nat.eq_zero_or_pos a with q | q
    · subst q
      exact absurd (ea.symm.trans (show nI 0 - 1 = -1 from rfl)) (x_nm1 (by omega))
    · exact q
  obtain ⟨kk, rfl⟩ : ∃ kk, a = kk + 1 := ⟨a - 1, by omega⟩
  have e1 : nI (kk + 1) - 1 = nI kk := x_n1 (a := kk + 1) (by omega)
  have e2 : a' = kk := (nI_eq (by omega) (by omega)).mp (ea.symm.trans e1)
  rw [em] at hj
  rw [em', e2] at hr
  exact ⟨kk, ha, rfl, hr, hj⟩
theorem q_wbG0 {pl0 ke0 sz0 se0 gr0 pl1 ke1 sz1 se1 gr1 im ce wo pv fa pm pw fr ba : Nat → Int32} {rw : Nat → Int64} {ro co mo : Int32} {mi : Int64} {ki : Int32} {M : mm_H} (hI : x_CI pl0 sz0 se0) (k : Int32) {a b : Nat} (ha : a ≤ 24) (hb : b ≤ 24) (hz : ∀ r j, r < x_m pl0 (k - 1) → j < x_m pl0 k → ce ((a + r) * 48 + (b + j)) = 0) : mm_TC kM 60 [.ref 0, .ref 1, .int k, .int (nI a), .int (nI b)] (kC pl0 ke0 sz0 se0 gr0 pl1 ke1 sz1 se1 gr1 im ce wo pv fa pm pw fr ba rw ro co mo mi ki M) (fun v h => v = none ∧ ∃ ce1, (∀ r j, r < x_m pl0 (k - 1) → j < x_m pl0 k → ce1 ((a + r) * 48 + (b + j)) = x_G se0 k r j) ∧ (∀ x y, x < 48 → y < 48 → ¬ (a ≤ x ∧ x < a + x_m pl0 (k - 1) ∧ b ≤ y ∧ y < b + x_m pl0 k) → ce1 (x * 48 + y) = ce (x * 48 + y)) ∧ h = (kC pl0 ke0 sz0 se0 gr0 pl1 ke1 sz1 se1 gr1 im ce1 wo pv fa pm pw fr ba rw ro co mo mi ki M)) := by
  by_cases hk : ∃ kk, kk + 1 < 4 ∧ k = nI (kk + 1)
  · obtain ⟨kk, hk4, rfl⟩ := hk
    have e1 : x_m pl0 (nI (kk + 1) - 1) = x_ct pl0 kk 255 := by rw [x_n1 (a := kk + 1) (by omega)]; exact x_m_a (by omega)
    have e2 : x_m pl0 (nI (kk + 1)) = x_ct pl0 (kk + 1) 255 := x_m_a hk4
    rw [e1, e2] at hz
    refine mm_TC.mono (q_wb0 hI hk4 ha hb hz) ?_
    rintro v h ⟨hv, ce1, h1, h2, hh⟩
    refine ⟨hv, ce1, ?_, ?_, hh⟩
    · rw [e1, e2]
      intro r j hr hj
      rw [h1 r j hr hj]
      unfold x_G
      rw [mm_cl (by omega), Nat.add_sub_cancel]
    · rw [e1, e2]
      exact h2
  · have hno : x_m pl0 (k - 1) = 0 ∨ x_m pl0 k = 0 := by
      refine Classical.byContradiction (fun q => hk ?_)
      obtain ⟨kk, h1, h2, -⟩ := x_mkk (pl := pl0) (k := k) (r := 0) (j := 0) (by omega) (by omega)
      exact ⟨kk, h1, h2⟩
    refine mm_TC.of (M := kq_60) rfl rfl ?_
    by_cases k0 : k = 0
    · subst k0
      refine mm_T.s rfl rfl rfl (fun _ => rfl) ?_
      refine mm_T.s rfl rfl rfl (fun _ => rfl) ?_
      exact mm_T.ret rfl rfl rfl (⟨rfl, _, fun r j hr hj => absurd hr (by show ¬ r < 0; omega), fun _ _ _ _ _ => rfl, rfl⟩)
    · have hm0 : x_m pl0 k = 0 := by
        refine Classical.byContradiction (fun q => ?_)
        obtain ⟨a9, ha9, rfl, -⟩ := x_m_pos (pl := pl0) (k := k) (i := 0) (by omega)
        refine hk ⟨a9 - 1, by omega, ?_⟩
        have : a9 ≠ 0 := fun z => k0 (by rw [z]; rfl)
        rw [Nat.sub_add_cancel (by omega)]
      refine mm_T.s rfl rfl rfl (fun _ => rfl) ?_
      refine mm_T.s rfl rfl rfl (fun _ => if_neg k0) ?_
      refine mm_T.s rfl rfl rfl (fun _ => rfl) ?_
      refine mm_T.s rfl rfl rfl (fun _ => rfl) ?_
      refine mm_T.s rfl rfl rfl (fun _ => rfl) ?_
      refine mm_T.s rfl rfl rfl (fun _ => rfl) ?_
      refine mm_T.s rfl rfl rfl (fun _ => rfl) ?_
      refine mm_T.iv rfl rfl rfl rfl rfl rfl (v_sz0 hI k) ?_
      refine mm_T.ti _ (show nI (x_m pl0 k) = nI 0 by rw [hm0]) ?_
      refine mm_T.s rfl rfl rfl (fun _ => rfl) ?_
      exact mm_T.ret rfl rfl rfl (⟨rfl, _, fun r j hr hj => (by omega), fun _ _ _ _ _ => rfl, rfl⟩)
theorem q_wbG1 {pl0 ke0 sz0 se0 gr0 pl1 ke1 sz1 se1 gr1 im ce wo pv fa pm pw fr ba : Nat → Int32} {rw : Nat → Int64} {ro co mo : Int32} {mi : Int64} {ki : Int32} {M : mm_H} (hI : x_CI pl1 sz1 se1) (k : Int32) {a b : Nat} (ha : a ≤ 24) (hb : b ≤ 24) (hz : ∀ r j, r < x_m pl1 (k - 1) → j < x_m pl1 k → ce ((a + r) * 48 + (b + j)) = 0) : mm_TC kM 60 [.ref 0, .ref 7, .int k, .int (nI a), .int (nI b)] (kC pl0 ke0 sz0 se0 gr0 pl1 ke1 sz1 se1 gr1 im ce wo pv fa pm pw fr ba rw ro co mo mi ki M) (fun v h => v = none ∧ ∃ ce1, (∀ r j, r < x_m pl1 (k - 1) → j < x_m pl1 k → ce1 ((a + r) * 48 + (b + j)) = x_G se1 k r j) ∧ (∀ x y, x < 48 → y < 48 → ¬ (a ≤ x ∧ x < a + x_m pl1 (k - 1) ∧ b ≤ y ∧ y < b + x_m pl1 k) → ce1 (x * 48 + y) = ce (x * 48 + y)) ∧ h = (kC pl0 ke0 sz0 se0 gr0 pl1 ke1 sz1 se1 gr1 im ce1 wo pv fa pm pw fr ba rw ro co mo mi ki M)) := by
  by_cases hk : ∃ kk, kk + 1 < 4 ∧ k = nI (kk + 1)
  · obtain ⟨kk, hk4, rfl⟩ := hk
    have e1 : x_m pl1 (nI (kk + 1) - 1) = x_ct pl1 kk 255 := by rw [x_n1 (a := kk + 1) (by omega)]; exact x_m_a (by omega)
    have e2 : x_m pl1 (nI (kk + 1)) = x_ct pl1 (kk + 1) 255 := x_m_a hk4
    rw [e1, e2] at hz
    refine mm_TC.mono (q_wb1 hI hk4 ha hb hz) ?_
    rintro v h ⟨hv, ce1, h1, h2, hh⟩
    refine ⟨hv, ce1, ?_, ?_, hh⟩
    · rw [e1, e2]
      intro r j hr hj
      rw [h1 r j hr hj]
      unfold x_G
      rw [mm_cl (by omega), Nat.add_sub_cancel]
    · rw [e1, e2]
      exact h2
  · have hno : x_m pl1 (k - 1) = 0 ∨ x_m pl1 k = 0 := by
      refine Classical.byContradiction (fun q => hk ?_)
      obtain ⟨kk, h1, h2, -⟩ := x_mkk (pl := pl1) (k := k) (r := 0) (j := 0) (by omega) (by omega)
      exact ⟨kk, h1, h2⟩
    refine mm_TC.of (M := kq_60) rfl rfl ?_
    by_cases k0 : k = 0
    · subst k0
      refine mm_T.s rfl rfl rfl (fun _ => rfl) ?_
      refine mm_T.s rfl rfl rfl (fun _ => rfl) ?_
      exact mm_T.ret rfl rfl rfl (⟨rfl, _, fun r j hr hj => absurd hr (by show ¬ r < 0; omega), fun _ _ _ _ _ => rfl, rfl⟩)
    · have hm0 : x_m pl1 k = 0 := by
        refine Classical.byContradiction (fun q => ?_)
        obtain ⟨a9, ha9, rfl, -⟩ := x_m_pos (pl := pl1) (k := k) (i := 0) (by omega)
        refine hk ⟨a9 - 1, by omega, ?_⟩
        have : a9 ≠ 0 := fun z => k0 (by rw [z]; rfl)
        rw [Nat.sub_add_cancel (by omega)]
      refine mm_T.s rfl rfl rfl (fun _ => rfl) ?_
      refine mm_T.s rfl rfl rfl (fun _ => if_neg k0) ?_
      refine mm_T.s rfl rfl rfl (fun _ => rfl) ?_
      refine mm_T.s rfl rfl rfl (fun _ => rfl) ?_
      refine mm_T.s rfl rfl rfl (fun _ => rfl) ?_
      refine mm_T.s rfl rfl rfl (fun _ => rfl) ?_
      refine mm_T.s rfl rfl rfl (fun _ => rfl) ?_
      refine mm_T.iv rfl rfl rfl rfl rfl rfl (v_sz1 hI k) ?_
      refine mm_T.ti _ (show nI (x_m pl1 k) = nI 0 by rw [hm0]) ?_
      refine mm_T.s rfl rfl rfl (fun _ => rfl) ?_
      exact mm_T.ret rfl rfl rfl (⟨rfl, _, fun r j hr hj => (by omega), fun _ _ _ _ _ => rfl, rfl⟩)
/-- the matrix of the map -/
def x_MA (pl0 se0 pl1 se1 im : Nat → Int32) (k : Int32) (a b : Nat) : Int32 := if a < (x_m pl0 (k - 1)) then (if b < (x_m pl0 k) then x_G se0 k a b else 0) else (if b < (x_m pl0 k) then x_gv im (se0 (k.toNatClampNeg * 24 + b)) (se1 (k.toNatClampNeg * 24 + (a - (x_m pl0 (k - 1))))) else x_G se1 (k + 1) (a - (x_m pl0 (k - 1))) (b - (x_m pl0 k)))
theorem q_lm {pl0 ke0 sz0 se0 gr0 pl1 ke1 sz1 se1 gr1 im ce wo pv fa pm pw fr ba : Nat → Int32} {rw : Nat → Int64} {ro co mo : Int32} {mi : Int64} {ki : Int32} {M : mm_H} (hI0 : x_CI pl0 sz0 se0) (hI1 : x_CI pl1 sz1 se1) (hf : x_fo im) (hs : x_cs pl0 pl1 im) (k : Int32) : mm_TC kM 61 [.ref 0, .int k] (kC pl0 ke0 sz0 se0 gr0 pl1 ke1 sz1 se1 gr1 im ce wo pv fa pm pw fr ba rw ro co mo mi ki M) (fun v h => v = none ∧ ∃ ce1, (∀ a b, a < (x_m pl0 (k - 1)) + (x_m pl1 k) → b < (x_m pl0 k) + (x_m pl1 (k + 1)) → ce1 (a * 48 + b) = x_MA pl0 se0 pl1 se1 im k a b) ∧ h = (kC pl0 ke0 sz0 se0 gr0 pl1 ke1 sz1 se1 gr1 im ce1 wo pv fa pm pw fr ba rw (nI ((x_m pl0 (k - 1)) + (x_m pl1 k))) (nI ((x_m pl0 k) + (x_m pl1 (k + 1)))) mo mi ki M)) := by
  have a1 := x_m_le hI0 (k - 1)
  have a2 := x_m_le hI0 k
  have a3 := x_m_le hI1 k
  have a4 := x_m_le hI1 (k + 1)
  refine mm_TC.of (M := kq_61) rfl rfl ?_
  refine mm_T.s rfl rfl rfl (fun _ => rfl) ?_
  refine mm_T.gf rfl rfl rfl rfl rfl ?_
  refine mm_T.s rfl rfl rfl (fun _ => rfl) ?_
  refine mm_T.s rfl rfl rfl (fun _ => rfl) ?_
  refine mm_T.s rfl rfl rfl (fun _ => rfl) ?_
  refine mm_T.iv rfl rfl rfl rfl rfl rfl (v_sz0 hI0 (k - 1)) ?_
  refine mm_T.s rfl rfl rfl (fun _ => rfl) ?_
  refine mm_T.s rfl rfl rfl (fun _ => rfl) ?_
  refine mm_T.gf rfl rfl rfl rfl rfl ?_
  refine mm_T.s rfl rfl rfl (fun _ => rfl) ?_
  refine mm_T.iv rfl rfl rfl rfl rfl rfl (v_sz0 hI0 k) ?_
  refine mm_T.s rfl rfl rfl (fun _ => rfl) ?_
  refine mm_T.s rfl rfl rfl (fun _ => rfl) ?_
  refine mm_T.gf rfl rfl rfl rfl rfl ?_
  refine mm_T.s rfl rfl rfl (fun _ => rfl) ?_
  refine mm_T.s rfl rfl rfl (fun _ => rfl) ?_
  refine mm_T.gf rfl rfl rfl rfl rfl ?_
  refine mm_T.s rfl rfl rfl (fun _ => rfl) ?_
  refine mm_T.iv rfl rfl rfl rfl rfl rfl (v_sz1 hI1 k) ?_
  refine mm_T.s rfl rfl rfl (fun _ => rfl) ?_
  refine mm_T.ti _ (nI_add _ _) ?_
  refine mm_T.s rfl rfl rfl (fun _ => rfl) ?_
  refine mm_T.s rfl rfl rfl (fun _ => rfl) ?_
  refine mm_T.gf rfl rfl rfl rfl rfl ?_
  refine mm_T.s rfl rfl rfl (fun _ => rfl) ?_
  refine mm_T.s rfl rfl rfl (fun _ => rfl) ?_
  refine mm_T.s rfl rfl rfl (fun _ => rfl) ?_
  refine mm_T.iv rfl rfl rfl rfl rfl rfl (v_sz1 hI1 (k + 1)) ?_
  refine mm_T.s rfl rfl rfl (fun _ => rfl) ?_
  refine mm_T.ti _ (nI_add _ _) ?_
  refine mm_T.ivw rfl rfl rfl rfl rfl rfl (q_shape (by omega) (by omega)) ?_
  rintro _ _ ⟨rfl, ce1, hz1, rfl⟩
  refine mm_T.s rfl rfl rfl (fun _ => rfl) ?_
  refine mm_T.s rfl rfl rfl (fun _ => rfl) ?_
  refine mm_T.gf rfl rfl rfl rfl rfl ?_
  refine mm_T.s rfl rfl rfl (fun _ => rfl) ?_
  refine mm_T.s rfl rfl rfl (fun _ => rfl) ?_
  refine mm_T.s rfl rfl rfl (fun _ => rfl) ?_
  refine mm_T.ivw rfl rfl rfl rfl rfl rfl (q_wbG0 hI0 k (a := 0) (b := 0) (by omega) (by omega) (fun r j hr hj => (by rw [Nat.zero_add, Nat.zero_add]; exact hz1 r j (by omega) (by omega)))) ?_
  rintro _ _ ⟨rfl, ce2, hb2, ho2, rfl⟩
  refine mm_T.s rfl rfl rfl (fun _ => rfl) ?_
  refine mm_T.s rfl rfl rfl (fun _ => rfl) ?_
  refine mm_T.gf rfl rfl rfl rfl rfl ?_
  refine mm_T.s rfl rfl rfl (fun _ => rfl) ?_
  refine mm_T.s rfl rfl rfl (fun _ => rfl) ?_
  refine mm_T.s rfl rfl rfl (fun _ => rfl) ?_
  refine mm_T.s rfl rfl rfl (fun _ => rfl) ?_
  refine mm_T.s rfl rfl rfl (fun _ => rfl) ?_
  refine mm_T.ivw rfl rfl rfl rfl rfl rfl (q_wbG1 hI1 (k + 1) (a := x_m pl0 (k - 1)) (b := x_m pl0 k) (by omega) (by omega) (fun r j hr hj => (by rw [ho2 _ _ (by rw [x_k2] at hr; omega) (by omega) (by omega)]; rw [x_k2] at hr; exact hz1 _ _ (by omega) (by omega)))) ?_
  rintro _ _ ⟨rfl, ce3, hb3, ho3, rfl⟩
  refine mm_T.s rfl rfl rfl (fun _ => rfl) ?_
  refine mm_T.s rfl rfl rfl (fun _ => rfl) ?_
  rw [x_k2] at hb3 ho3
  have hini : ∀ a b, a < (x_m pl0 (k - 1)) + (x_m pl1 k) → b < (x_m pl0 k) + (x_m pl1 (k + 1)) → ce3 (a * 48 + b) = if (x_m pl0 (k - 1)) ≤ a ∧ b < (x_m pl0 k) ∧ ¬ b < 0 then 0 else x_MA pl0 se0 pl1 se1 im k a b := fun a b ha hb => by
    unfold x_MA
    by_cases c1 : a < (x_m pl0 (k - 1))
    · rw [if_neg (by omega), if_pos c1, ho3 a b (by omega) (by omega) (by omega)]
      by_cases c2 : b < (x_m pl0 k)
      · rw [if_pos c2]
        have z := hb2 a b c1 c2
        rw [Nat.zero_add, Nat.zero_add] at z
        exact z
      · rw [if_neg c2, ho2 a b (by omega) (by omega) (by omega)]
        exact hz1 a b ha hb
    · by_cases c2 : b < (x_m pl0 k)
      · rw [if_pos (by omega), ho3 a b (by omega) (by omega) (by omega), ho2 a b (by omega) (by omega) (by omega)]
        exact hz1 a b ha hb
      · rw [if_neg (by omega), if_neg c1, if_neg c2]
        have z := hb3 (a - (x_m pl0 (k - 1))) (b - (x_m pl0 k)) (by omega) (by omega)
        rw [show (x_m pl0 (k - 1)) + (a - (x_m pl0 (k - 1))) = a by omega, show (x_m pl0 k) + (b - (x_m pl0 k)) = b by omega] at z
        exact z
  refine mm_T.up (n := (x_m pl0 k)) (P := fun i L h => ∃ x4 y5 y6 ce4, x4 = nI i ∧ (∀ a b, a < (x_m pl0 (k - 1)) + (x_m pl1 k) → b < (x_m pl0 k) + (x_m pl1 (k + 1)) → ce4 (a * 48 + b) = if (x_m pl0 (k - 1)) ≤ a ∧ b < (x_m pl0 k) ∧ ¬ b < i then 0 else x_MA pl0 se0 pl1 se1 im k a b) ∧ L = [some (.ref 0), some (.int k), some (.int (nI (x_m pl0 (k - 1)))), some (.int (nI (x_m pl0 k))), some (.int x4), y5, y6] ∧ h = (kC pl0 ke0 sz0 se0 gr0 pl1 ke1 sz1 se1 gr1 im ce4 wo pv fa pm pw fr ba rw (nI ((x_m pl0 (k - 1)) + (x_m pl1 k))) (nI ((x_m pl0 k) + (x_m pl1 (k + 1)))) mo mi ki M)) ?_ ?_ 0 (Nat.zero_le _) _ _ ⟨_, _, _, _, rfl, hini, rfl, rfl⟩
  · skip
    rintro i _ _ hi ⟨x4, y5, y6, ce4, rfl, hc, rfl, rfl⟩ K
    obtain ⟨kk, hkk, rfl, ek⟩ := x_m_pos hi
    have eT : x_m pl1 (nI kk) = x_ct pl1 kk 255 := x_m_a hkk
    have hi2 := hi
    rw [ek] at hi2
    obtain ⟨q, hq1, hq2, hq, hqd, hqp, hqc⟩ := hI0.set hkk hi2
    have E2 : mm_EC kM 5 [.ref 1, .int (nI kk), .int (nI i)] (kC pl0 ke0 sz0 se0 gr0 pl1 ke1 sz1 se1 gr1 im ce4 wo pv fa pm pw fr ba rw (nI ((x_m pl0 (nI kk - 1)) + (x_m pl1 (nI kk)))) (nI ((x_m pl0 (nI kk)) + (x_m pl1 (nI kk + 1)))) mo mi ki M) (some (.int (nI q)), (kC pl0 ke0 sz0 se0 gr0 pl1 ke1 sz1 se1 gr1 im ce4 wo pv fa pm pw fr ba rw (nI ((x_m pl0 (nI kk - 1)) + (x_m pl1 (nI kk)))) (nI ((x_m pl0 (nI kk)) + (x_m pl1 (nI kk + 1)))) mo mi ki M)) := by
      rw [← hq]
      exact v_setAt0 (by omega)
    have hval : ∀ t, t < x_ct pl1 kk 255 → x_MA pl0 se0 pl1 se1 im (nI kk) (x_m pl0 (nI kk - 1) + t) i = x_gv im (nI q) (se1 (kk * 24 + t)) := fun t ht => by
      unfold x_MA
      rw [if_neg (by omega), if_pos hi, mm_cl (by omega), hq, show x_m pl0 (nI kk - 1) + t - x_m pl0 (nI kk - 1) = t by omega]
    refine mm_T.s rfl rfl rfl (fun _ => rfl) ?_
    refine mm_T.s rfl rfl rfl (fun _ => rfl) ?_
    refine mm_T.s rfl rfl rfl (fun _ => if_neg (nI_ge hi (by omega))) ?_
    refine mm_T.s rfl rfl rfl (fun _ => rfl) ?_
    refine mm_T.gf rfl rfl rfl rfl rfl ?_
    refine mm_T.s rfl rfl rfl (fun _ => rfl) ?_
    refine mm_T.s rfl rfl rfl (fun _ => rfl) ?_
    refine mm_T.iv rfl rfl rfl rfl rfl rfl E2 ?_
    refine mm_T.s rfl rfl rfl (fun _ => rfl) ?_
    refine mm_T.s rfl rfl rfl (fun _ => rfl) ?_
    refine mm_T.s rfl rfl rfl (fun _ => rfl) ?_
    refine mm_T.iv rfl rfl rfl rfl rfl rfl (v_sn _) ?_
    refine mm_T.s rfl rfl rfl (fun _ => rfl) ?_
    refine mm_T.s rfl rfl rfl (fun _ => rfl) ?_
    refine mm_T.cz rfl rfl (fun hb104 => ?_) (fun hb104 => ?_)
    · skip
      have h0 : x_sn im (nI q) 8 0 0 0 = 0 := hb104
      have hn : ∀ a b, a < x_m pl0 (nI kk - 1) + x_m pl1 (nI kk) → b < x_m pl0 (nI kk) + x_m pl1 (nI kk + 1) → ce4 (a * 48 + b) = if x_m pl0 (nI kk - 1) ≤ a ∧ b < x_m pl0 (nI kk) ∧ ¬ b < i + 1 then 0 else x_MA pl0 se0 pl1 se1 im (nI kk) a b := fun a b ha hb => by
        rw [hc a b ha hb]
        by_cases e : x_m pl0 (nI kk - 1) ≤ a ∧ b = i
        · rw [if_pos (by omega), if_neg (by omega), e.2]
          obtain ⟨t, rfl⟩ : ∃ t, a = x_m pl0 (nI kk - 1) + t := ⟨a - x_m pl0 (nI kk - 1), by omega⟩
          rw [hval t (by omega)]
          unfold x_gv
          by_cases z : x_sz8 (nI q) 8 = x_sz8 (se1 (kk * 24 + t)) 8 ∧ x_io im (nI q) 8 = se1 (kk * 24 + t)
          · rw [if_pos z]
            rw [x_snv hf, z.2, if_pos z.1] at h0
            exact h0.symm
          · rw [if_neg z]
        · by_cases e2 : x_m pl0 (nI kk - 1) ≤ a ∧ b < x_m pl0 (nI kk) ∧ ¬ b < i
          · rw [if_pos e2, if_pos (by omega)]
          · rw [if_neg e2, if_neg (by omega)]
      refine mm_T.s rfl rfl rfl (fun _ => rfl) ?_
      refine mm_T.s rfl rfl rfl (fun _ => rfl) ?_
      exact K _ _ ⟨_, _, _, _, nI_1 i, hn, rfl, rfl⟩
    · skip
      have h0 : ¬ x_sn im (nI q) 8 0 0 0 = 0 := hb104
      obtain ⟨m, hm, emm⟩ := x_ig_lt hf (nI q)
      have emo : x_io im (nI q) 8 = nI m := by rw [← x_ig_io]; exact emm
      have hsz : x_sz8 (nI q) 8 = x_sz8 (nI m) 8 := by
        refine Classical.byContradiction (fun z => h0 ?_)
        rw [x_snv hf, emo, if_neg z]
      have hgo : x_sn im (nI q) 8 0 0 0 = x_go im (nI q) 8 := by rw [x_snv hf, emo, if_pos hsz]
      have hmp : ¬ pl1 m = -1 := by
        have := hs q hq1 hq2 hqp
        rwa [emm, mm_cl (by omega)] at this
      have hm1 : 1 ≤ m := Nat.pos_of_ne_zero (fun z => hmp (by rw [z]; exact hI1.2.2.2))
      have hmd : x_dm (nI m) = nI kk := (x_dm_sz hm _).mpr (by rw [← hsz]; exact (x_dm_sz hq2 _).mp hqd)
      obtain ⟨k9, g1, g2, g3, g4⟩ := hI1.2.1 m hm1 hm hmp
      have ek9 : k9 = kk := (nI_eq (by omega) (by omega)).mp (g2.symm.trans hmd)
      subst ek9
      have hjj : x_ct pl1 k9 (m - 1) < x_ct pl1 k9 255 := x_ct_lt hm1 (by omega) hmp hmd
      have E3 : mm_EC kM 62 [.ref 0, .int (nI q)] (kC pl0 ke0 sz0 se0 gr0 pl1 ke1 sz1 se1 gr1 im ce4 wo pv fa pm pw fr ba rw (nI (x_m pl0 (nI k9 - 1) + x_m pl1 (nI k9))) (nI (x_m pl0 (nI k9) + x_m pl1 (nI k9 + 1))) mo mi ki M) (some (.int (nI m)), (kC pl0 ke0 sz0 se0 gr0 pl1 ke1 sz1 se1 gr1 im ce4 wo pv fa pm pw fr ba rw (nI (x_m pl0 (nI k9 - 1) + x_m pl1 (nI k9))) (nI (x_m pl0 (nI k9) + x_m pl1 (nI k9 + 1))) mo mi ki M)) := by
        rw [← emm]
        exact v_ig _
      have E4 : mm_EC kM 7 [.ref 7, .int (nI m)] (kC pl0 ke0 sz0 se0 gr0 pl1 ke1 sz1 se1 gr1 im ce4 wo pv fa pm pw fr ba rw (nI (x_m pl0 (nI k9 - 1) + x_m pl1 (nI k9))) (nI (x_m pl0 (nI k9) + x_m pl1 (nI k9 + 1))) mo mi ki M) (some (.int (nI (x_ct pl1 k9 (m - 1)))), (kC pl0 ke0 sz0 se0 gr0 pl1 ke1 sz1 se1 gr1 im ce4 wo pv fa pm pw fr ba rw (nI (x_m pl0 (nI k9 - 1) + x_m pl1 (nI k9))) (nI (x_m pl0 (nI k9) + x_m pl1 (nI k9 + 1))) mo mi ki M)) := by
        rw [← g3]
        exact v_place1 hm
      have hn : ∀ a b, a < x_m pl0 (nI k9 - 1) + x_m pl1 (nI k9) → b < x_m pl0 (nI k9) + x_m pl1 (nI k9 + 1) → upd ce4 ((x_m pl0 (nI k9 - 1) + x_ct pl1 k9 (m - 1)) * 48 + i) (x_sn im (nI q) 8 0 0 0) (a * 48 + b) = if x_m pl0 (nI k9 - 1) ≤ a ∧ b < x_m pl0 (nI k9) ∧ ¬ b < i + 1 then 0 else x_MA pl0 se0 pl1 se1 im (nI k9) a b := fun a b ha hb => by
        rw [x_ui2 _ (by omega) (by omega)]
        by_cases e : a = x_m pl0 (nI k9 - 1) + x_ct pl1 k9 (m - 1) ∧ b = i
        · rw [if_pos e, if_neg (by omega), e.1, e.2, hval _ hjj, g4, hgo]
          unfold x_gv
          rw [if_pos ⟨hsz, emo⟩]
        · rw [if_neg e, hc a b ha hb]
          by_cases e2 : x_m pl0 (nI k9 - 1) ≤ a ∧ b = i
          · rw [if_pos (by omega), if_neg (by omega), e2.2]
            obtain ⟨t, rfl⟩ : ∃ t, a = x_m pl0 (nI k9 - 1) + t := ⟨a - x_m pl0 (nI k9 - 1), by omega⟩
            have ht : t < x_ct pl1 k9 255 := by omega
            rw [hval t ht]
            unfold x_gv
            rw [if_neg (fun z => ?_)]
            have z2 : se1 (k9 * 24 + t) = se1 (k9 * 24 + x_ct pl1 k9 (m - 1)) := by rw [g4, ← z.2, emo]
            have := x_se_inj hI1 hkk ht hjj z2
            omega
          · by_cases e3 : x_m pl0 (nI k9 - 1) ≤ a ∧ b < x_m pl0 (nI k9) ∧ ¬ b < i
            · rw [if_pos e3, if_pos (by omega)]
            · rw [if_neg e3, if_neg (by omega)]
      refine mm_T.s rfl rfl rfl (fun _ => rfl) ?_
      refine mm_T.gf rfl rfl rfl rfl rfl ?_
      refine mm_T.s rfl rfl rfl (fun _ => rfl) ?_
      refine mm_T.s rfl rfl rfl (fun _ => rfl) ?_
      refine mm_T.gf rfl rfl rfl rfl rfl ?_
      refine mm_T.s rfl rfl rfl (fun _ => rfl) ?_
      refine mm_T.s rfl rfl rfl (fun _ => rfl) ?_
      refine mm_T.iv rfl rfl rfl rfl rfl rfl E3 ?_
      refine mm_T.iv rfl rfl rfl rfl rfl rfl E4 ?_
      refine mm_T.s rfl rfl rfl (fun _ => rfl) ?_
      refine mm_T.ti _ (nI_add _ _) ?_
      refine mm_T.s rfl rfl rfl (fun _ => rfl) ?_
      refine mm_T.s rfl rfl rfl (fun _ => rfl) ?_
      refine mm_T.iv rfl rfl rfl rfl rfl rfl (w_write (by omega) (by omega) _) ?_
      refine mm_T.s rfl rfl rfl (fun _ => rfl) ?_
      refine mm_T.s rfl rfl rfl (fun _ => rfl) ?_
      exact K _ _ ⟨_, _, _, _, nI_1 i, hn, rfl, rfl⟩
  · skip
    rintro _ _ ⟨x4, y5, y6, ce4, rfl, hc, rfl, rfl⟩
    refine mm_T.s rfl rfl rfl (fun _ => rfl) ?_
    refine mm_T.s rfl rfl rfl (fun _ => rfl) ?_
    refine mm_T.s rfl rfl rfl (fun _ => if_pos (nI_le (Nat.le_refl _) (by omega))) ?_
    exact mm_T.ret rfl rfl rfl (⟨rfl, _, fun a b ha hb => (by rw [hc a b ha hb, if_neg (by omega)]), rfl⟩)
