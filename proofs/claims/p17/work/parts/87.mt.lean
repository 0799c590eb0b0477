/-! THE REFERENCE: torsion and order end well -/
theorem x_k2 (k : Int32) : k + 1 - 1 = k := Int32.add_sub_cancel k 1
theorem x_BM_c1 {has : Nat → Int32} {n : Nat} {k : Int32} {ma : Nat → Int64} (hn : n < 2) (h4 : x_M4 has) (hr : x_mn has n k 255 ≤ 48) (hB : x_BM has n (k + 1) ma) {j : Nat} (hj : j < x_mn has n (k + 1) 255) : dt_S (fun i => ((ma (48 * i + j)).toInt.natAbs : Int)) (x_mn has n k 255) ≤ 4 := by
  have z := x_BM_col (k := k + 1) hn h4 (by rw [x_k2]; exact hr) hB hj
  rw [x_k2] at z
  exact z
/-- kept numbers are small -/
def x_K9 (ke : Nat → Int32) : Prop := ∀ q, q < 512 → (ke q).toInt.natAbs ≤ 9
theorem m_bo1 {c : Nat → mm_C} {has ke f cy sp e1 e2 e3 : Nat → Int32} {ma wo dv : Nat → Int64} {ro co di tr : Int32} (hI : x_MI has) {n : Nat} (hn : n < 2) (k : Int32) : mm_TC kM 80 [.ref 25, .int (nI n), .int (k + 1)] (kD c has ke f ma wo dv cy sp e1 e2 e3 ro co di tr) (fun v h => v = none ∧ ∃ ma1, x_BM has n (k + 1) ma1 ∧ h = (kD c has ke f ma1 wo dv cy sp e1 e2 e3 (nI (x_mn has n k 255)) (nI (x_mn has n (k + 1) 255)) di tr)) := by
  have z := @m_bo c has ke f cy sp e1 e2 e3 ma wo dv ro co di tr hI n hn (k + 1)
  rw [x_k2] at z
  exact z
theorem m_torsion {c : Nat → mm_C} {has ke f cy sp e1 e2 e3 : Nat → Int32} {ma wo dv : Nat → Int64} {ro co di tr : Int32} (hI : x_MI has) (h4 : x_M4 has) (b k j : Int32) : mm_TC kM 95 [.ref 25, .int b, .int k, .int j] (kD c has ke f ma wo dv cy sp e1 e2 e3 ro co di tr) (fun v h => (∃ x, v = some (.int x)) ∧ x_GM c has ke f h) := by
  refine mm_TC.of (M := kq_95) rfl rfl ?_
  by_cases hb : b = 0 ∨ b = 1
  · obtain ⟨n, hn, rfl⟩ := x_01 hb
    have a1 := hI n hn k
    have a3 := hI n hn (k + 1)
    by_cases hk : k < 0 ∨ 3 < k
    · skip
      refine mm_T.s rfl rfl rfl (fun _ => rfl) ?_
      refine mm_T.ic rfl rfl rfl rfl rfl (x_isC1 hb) ?_
      refine mm_T.s rfl rfl rfl (fun _ => rfl) ?_
      refine mm_T.s rfl rfl rfl (fun _ => rfl) ?_
      refine mm_T.ic rfl rfl rfl rfl rfl (x_isD0 hk) ?_
      refine mm_T.s rfl rfl rfl (fun _ => rfl) ?_
      refine mm_T.s rfl rfl rfl (fun _ => rfl) ?_
      exact mm_T.ret rfl rfl rfl (⟨⟨_, rfl⟩, _, _, _, _, _, _, _, _, _, _, _, _, rfl⟩)
    · skip
      refine mm_T.s rfl rfl rfl (fun _ => rfl) ?_
      refine mm_T.ic rfl rfl rfl rfl rfl (x_isC1 hb) ?_
      refine mm_T.s rfl rfl rfl (fun _ => rfl) ?_
      refine mm_T.s rfl rfl rfl (fun _ => rfl) ?_
      refine mm_T.ic rfl rfl rfl rfl rfl (x_isD1 (fun q => hk (Or.inl q)) (fun q => hk (Or.inr q))) ?_
      refine mm_T.s rfl rfl rfl (fun _ => rfl) ?_
      refine mm_T.s rfl rfl rfl (fun _ => rfl) ?_
      refine mm_T.cz rfl rfl (fun hb15 => ?_) (fun hb15 => ?_)
      · skip
        refine mm_T.s rfl rfl rfl (fun _ => rfl) ?_
        refine mm_T.s rfl rfl rfl (fun _ => rfl) ?_
        refine mm_T.s rfl rfl rfl (fun _ => rfl) ?_
        refine mm_T.s rfl rfl rfl (fun _ => rfl) ?_
        refine mm_T.s rfl rfl rfl (fun _ => rfl) ?_
        refine mm_T.ivw rfl rfl rfl rfl rfl rfl (m_bo1 hI hn k) ?_
        rintro _ _ ⟨rfl, ma1, hB, rfl⟩
        refine mm_T.s rfl rfl rfl (fun _ => rfl) ?_
        refine mm_T.ivw rfl rfl rfl rfl rfl rfl (m_diag (by omega) (by omega) (x_KP_b a1 (fun j hj => x_BM_c1 hn h4 (by omega) hB hj))) ?_
        rintro _ _ ⟨rfl, wo1, dv1, r, hr1, hr2, hnz, rfl⟩
        refine mm_T.s rfl rfl rfl (fun _ => rfl) ?_
        refine mm_T.s rfl rfl rfl (fun _ => rfl) ?_
        refine mm_T.s rfl rfl rfl (fun _ => rfl) ?_
        refine mm_T.s rfl rfl rfl (fun _ => rfl) ?_
        refine mm_T.up (n := r) (P := fun i L h => ∃ x4 x5, x5 = nI i ∧ L = [some (.ref 25), some (.int (nI n)), some (.int k), some (.int j), some (.int x4), some (.int x5)] ∧ h = (kD c has ke f ma1 wo1 dv1 cy sp e1 e2 e3 (nI (x_mn has n k 255)) (nI (x_mn has n (k + 1) 255)) (nI r) tr)) ?_ ?_ 0 (Nat.zero_le _) _ _ ⟨_, _, rfl, rfl, rfl⟩
        · skip
          rintro i _ _ hi ⟨x4, x5, rfl, rfl, rfl⟩ K
          refine mm_T.s rfl rfl rfl (fun _ => rfl) ?_
          refine mm_T.s rfl rfl rfl (fun _ => rfl) ?_
          refine mm_T.gf rfl rfl rfl rfl rfl ?_
          refine mm_T.s rfl rfl rfl (fun _ => if_neg (nI_ge hi (by omega))) ?_
          refine mm_T.s rfl rfl rfl (fun _ => rfl) ?_
          refine mm_T.gf rfl rfl rfl rfl rfl ?_
          refine mm_T.s rfl rfl rfl (fun _ => rfl) ?_
          refine mm_T.laN rfl rfl rfl (by omega) (by decide) rfl ?_
          refine mm_T.s rfl rfl rfl (fun _ => rfl) ?_
          refine mm_T.s rfl rfl rfl (fun _ => rfl) ?_
          refine mm_T.cz rfl rfl (fun hb56 => ?_) (fun hb56 => ?_)
          · skip
            refine mm_T.s rfl rfl rfl (fun _ => rfl) ?_
            refine mm_T.s rfl rfl rfl (fun _ => rfl) ?_
            exact K _ _ ⟨_, _, nI_1 i, rfl, rfl⟩
          · skip
            refine mm_T.s rfl rfl rfl (fun _ => rfl) ?_
            refine mm_T.cz rfl rfl (fun hb61 => ?_) (fun hb61 => ?_)
            · skip
              refine mm_T.s rfl rfl rfl (fun _ => rfl) ?_
              refine mm_T.s rfl rfl rfl (fun _ => rfl) ?_
              refine mm_T.s rfl rfl rfl (fun _ => rfl) ?_
              exact K _ _ ⟨_, _, nI_1 i, rfl, rfl⟩
            · skip
              refine mm_T.s rfl rfl rfl (fun _ => rfl) ?_
              refine mm_T.gf rfl rfl rfl rfl rfl ?_
              refine mm_T.s rfl rfl rfl (fun _ => rfl) ?_
              refine mm_T.laN rfl rfl rfl (by omega) (by decide) rfl ?_
              refine mm_T.s rfl rfl rfl (fun _ => rfl) ?_
              exact mm_T.ret rfl rfl rfl (⟨⟨_, rfl⟩, _, _, _, _, _, _, _, _, _, _, _, _, rfl⟩)
        · skip
          rintro _ _ ⟨x4, x5, rfl, rfl, rfl⟩
          refine mm_T.s rfl rfl rfl (fun _ => rfl) ?_
          refine mm_T.s rfl rfl rfl (fun _ => rfl) ?_
          refine mm_T.gf rfl rfl rfl rfl rfl ?_
          refine mm_T.s rfl rfl rfl (fun _ => if_pos (nI_le (Nat.le_refl _) (by omega))) ?_
          refine mm_T.s rfl rfl rfl (fun _ => rfl) ?_
          exact mm_T.ret rfl rfl rfl (⟨⟨_, rfl⟩, _, _, _, _, _, _, _, _, _, _, _, _, rfl⟩)
      · skip
        refine mm_T.s rfl rfl rfl (fun _ => rfl) ?_
        exact mm_T.ret rfl rfl rfl (⟨⟨_, rfl⟩, _, _, _, _, _, _, _, _, _, _, _, _, rfl⟩)
  · skip
    refine mm_T.s rfl rfl rfl (fun _ => rfl) ?_
    refine mm_T.ic rfl rfl rfl rfl rfl (x_isC0 hb) ?_
    refine mm_T.s rfl rfl rfl (fun _ => rfl) ?_
    refine mm_T.s rfl rfl rfl (fun _ => rfl) ?_
    exact mm_T.ret rfl rfl rfl (⟨⟨_, rfl⟩, _, _, _, _, _, _, _, _, _, _, _, _, rfl⟩)
theorem m_cyc {c : Nat → mm_C} {has ke f cy sp e1 e2 e3 : Nat → Int32} {ma wo dv : Nat → Int64} {ro co di tr : Int32} {n : Nat} (hn : n < 2) (k : Int32) : mm_TC kM 99 [.ref 25, .int (nI n), .int k] (kD c has ke f ma wo dv cy sp e1 e2 e3 ro co di tr) (fun v h => (v = some (.int 0) ∨ v = some (.int 1)) ∧ h = (kD c has ke f ma wo dv cy sp e1 e2 e3 ro co di tr)) := by
  refine mm_TC.of (M := kq_99) rfl rfl ?_
  refine mm_T.s rfl rfl rfl (fun _ => rfl) ?_
  refine mm_T.s rfl rfl rfl (fun _ => rfl) ?_
  refine mm_T.up (n := 255) (P := fun i L h => ∃ x3, x3 = nI (i + 1) ∧ L = [some (.ref 25), some (.int (nI n)), some (.int k), some (.int x3)] ∧ h = (kD c has ke f ma wo dv cy sp e1 e2 e3 ro co di tr)) ?_ ?_ 0 (Nat.zero_le _) _ _ ⟨_, rfl, rfl, rfl⟩
  · skip
    rintro i _ _ hi ⟨x3, rfl, rfl, rfl⟩ K
    refine mm_T.s rfl rfl rfl (fun _ => rfl) ?_
    refine mm_T.s rfl rfl rfl (fun _ => rfl) ?_
    refine mm_T.s rfl rfl rfl (fun _ => if_neg (nI_ge (a := i + 1) (b := 256) (by omega) (by decide))) ?_
    refine mm_T.s rfl rfl rfl (fun _ => rfl) ?_
    refine mm_T.gf rfl rfl rfl rfl rfl ?_
    refine mm_T.s rfl rfl rfl (fun _ => rfl) ?_
    refine mm_T.s rfl rfl rfl (fun _ => rfl) ?_
    refine mm_T.s rfl rfl rfl (fun _ => rfl) ?_
    refine mm_T.s rfl rfl rfl (fun _ => rfl) ?_
    refine mm_T.s rfl rfl rfl (fun _ => rfl) ?_
    refine mm_T.ti _ (x_ix _ _) ?_
    refine mm_T.zaN rfl rfl rfl (by omega) (by decide) rfl ?_
    refine mm_T.cz rfl rfl (fun hb21 => ?_) (fun hb21 => ?_)
    · skip
      refine mm_T.s rfl rfl rfl (fun _ => rfl) ?_
      refine mm_T.s rfl rfl rfl (fun _ => rfl) ?_
      exact K _ _ ⟨_, nI_1 (i + 1), rfl, rfl⟩
    · skip
      refine mm_T.s rfl rfl rfl (fun _ => rfl) ?_
      refine mm_T.ic rfl rfl rfl rfl rfl (x_size _) ?_
      refine mm_T.s rfl rfl rfl (fun _ => rfl) ?_
      refine mm_T.ci rfl rfl (fun hb29 => ?_) (fun hb29 => ?_)
      · skip
        refine mm_T.s rfl rfl rfl (fun _ => rfl) ?_
        refine mm_T.s rfl rfl rfl (fun _ => rfl) ?_
        exact K _ _ ⟨_, nI_1 (i + 1), rfl, rfl⟩
      · skip
        refine mm_T.s rfl rfl rfl (fun _ => rfl) ?_
        refine mm_T.s rfl rfl rfl (fun _ => rfl) ?_
        refine mm_T.s rfl rfl rfl (fun _ => rfl) ?_
        refine mm_T.iv rfl rfl rfl rfl rfl rfl (g_bd rfl rfl rfl _ _) ?_
        refine mm_T.cz rfl rfl (fun hb38 => ?_) (fun hb38 => ?_)
        · skip
          refine mm_T.s rfl rfl rfl (fun _ => rfl) ?_
          refine mm_T.s rfl rfl rfl (fun _ => rfl) ?_
          exact K _ _ ⟨_, nI_1 (i + 1), rfl, rfl⟩
        · skip
          refine mm_T.s rfl rfl rfl (fun _ => rfl) ?_
          exact mm_T.ret rfl rfl rfl (⟨Or.inl rfl, rfl⟩)
  · skip
    rintro _ _ ⟨x3, rfl, rfl, rfl⟩
    refine mm_T.s rfl rfl rfl (fun _ => rfl) ?_
    refine mm_T.s rfl rfl rfl (fun _ => rfl) ?_
    refine mm_T.s rfl rfl rfl (fun _ => rfl) ?_
    refine mm_T.s rfl rfl rfl (fun _ => rfl) ?_
    exact mm_T.ret rfl rfl rfl (⟨Or.inr rfl, rfl⟩)
theorem m_vol {c : Nat → mm_C} {has ke f cy sp e1 e2 e3 : Nat → Int32} {ma wo dv : Nat → Int64} {di tr : Int32} {Rn Cn : Nat} (hR : Rn ≤ 48) (hC : Cn ≤ 48) (hK : x_KP Rn Cn ma) : mm_TC kM 100 [.ref 25] (kD c has ke f ma wo dv cy sp e1 e2 e3 (nI Rn) (nI Cn) di tr) (fun v h => (∃ z, v = some (.long z) ∧ ¬ z = 0) ∧ ∃ wo1 dv1 r, h = (kD c has ke f ma wo1 dv1 cy sp e1 e2 e3 (nI Rn) (nI Cn) (nI r) tr)) := by
  refine mm_TC.of (M := kq_100) rfl rfl ?_
  refine mm_T.s rfl rfl rfl (fun _ => rfl) ?_
  refine mm_T.ivw rfl rfl rfl rfl rfl rfl (m_diag hR hC hK) ?_
  rintro _ _ ⟨rfl, wo1, dv1, r, hr1, hr2, hnz, rfl⟩
  refine mm_T.s rfl rfl rfl (fun _ => rfl) ?_
  refine mm_T.s rfl rfl rfl (fun _ => rfl) ?_
  refine mm_T.s rfl rfl rfl (fun _ => rfl) ?_
  refine mm_T.s rfl rfl rfl (fun _ => rfl) ?_
  refine mm_T.up (n := r) (P := fun i L h => ∃ z x3, x3 = nI i ∧ (2 : Int) ^ 64 ∣ z.toInt - dt_P (fun a => (dv1 a).toInt) i ∧ L = [some (.ref 25), some (.long z), none, some (.int x3)] ∧ h = (kD c has ke f ma wo1 dv1 cy sp e1 e2 e3 (nI Rn) (nI Cn) (nI r) tr)) ?_ ?_ 0 (Nat.zero_le _) _ _ ⟨_, _, rfl, by show (2 : Int) ^ 64 ∣ (1 : Int64).toInt - 1; decide, rfl, rfl⟩
  · skip
    rintro i _ _ hi ⟨z, x3, rfl, hz, rfl, rfl⟩ K
    refine mm_T.s rfl rfl rfl (fun _ => rfl) ?_
    refine mm_T.s rfl rfl rfl (fun _ => rfl) ?_
    refine mm_T.gf rfl rfl rfl rfl rfl ?_
    refine mm_T.s rfl rfl rfl (fun _ => if_neg (nI_ge hi (by omega))) ?_
    refine mm_T.s rfl rfl rfl (fun _ => rfl) ?_
    refine mm_T.s rfl rfl rfl (fun _ => rfl) ?_
    refine mm_T.gf rfl rfl rfl rfl rfl ?_
    refine mm_T.s rfl rfl rfl (fun _ => rfl) ?_
    refine mm_T.laN rfl rfl rfl (by omega) (by decide) rfl ?_
    refine mm_T.s rfl rfl rfl (fun _ => rfl) ?_
    refine mm_T.s rfl rfl rfl (fun _ => rfl) ?_
    refine mm_T.s rfl rfl rfl (fun _ => rfl) ?_
    refine mm_T.s rfl rfl rfl (fun _ => rfl) ?_
    exact K _ _ ⟨_, _, nI_1 i, x_vol hz, rfl, rfl⟩
  · skip
    rintro _ _ ⟨z, x3, rfl, hz, rfl, rfl⟩
    have hz0 : ¬ z = 0 := fun q => hnz (by
      rw [q] at hz
      have e : (0 : Int64).toInt - dt_P (fun a => (dv1 a).toInt) r = -dt_P (fun a => (dv1 a).toInt) r := by rw [show (0 : Int64).toInt = 0 from rfl]; omega
      rw [e] at hz
      exact Int.dvd_neg.mp hz)
    refine mm_T.s rfl rfl rfl (fun _ => rfl) ?_
    refine mm_T.s rfl rfl rfl (fun _ => rfl) ?_
    refine mm_T.gf rfl rfl rfl rfl rfl ?_
    refine mm_T.s rfl rfl rfl (fun _ => if_pos (nI_le (Nat.le_refl _) (by omega))) ?_
    refine mm_T.s rfl rfl rfl (fun _ => rfl) ?_
    exact mm_T.ret rfl rfl rfl (⟨⟨_, rfl, hz0⟩, _, _, _, rfl⟩)
theorem m_order {c : Nat → mm_C} {has ke f cy sp e1 e2 e3 : Nat → Int32} {ma wo dv : Nat → Int64} {ro co di tr : Int32} (hI : x_MI has) (h4 : x_M4 has) (h9 : x_K9 ke) (b k : Int32) : mm_TC kM 101 [.ref 25, .int b, .int k] (kD c has ke f ma wo dv cy sp e1 e2 e3 ro co di tr) (fun v h => (∃ x, v = some (.int x)) ∧ x_GM c has ke f h) := by
  refine mm_TC.of (M := kq_101) rfl rfl ?_
  by_cases hb : b = 0 ∨ b = 1
  · obtain ⟨n, hn, rfl⟩ := x_01 hb
    have a1 := hI n hn k
    have a3 := hI n hn (k + 1)
    by_cases hk : k < 0 ∨ 3 < k
    · skip
      refine mm_T.s rfl rfl rfl (fun _ => rfl) ?_
      refine mm_T.ic rfl rfl rfl rfl rfl (x_isC1 hb) ?_
      refine mm_T.s rfl rfl rfl (fun _ => rfl) ?_
      refine mm_T.s rfl rfl rfl (fun _ => rfl) ?_
      refine mm_T.ic rfl rfl rfl rfl rfl (x_isD0 hk) ?_
      refine mm_T.s rfl rfl rfl (fun _ => rfl) ?_
      refine mm_T.s rfl rfl rfl (fun _ => rfl) ?_
      exact mm_T.ret rfl rfl rfl (⟨⟨_, rfl⟩, _, _, _, _, _, _, _, _, _, _, _, _, rfl⟩)
    · skip
      refine mm_T.s rfl rfl rfl (fun _ => rfl) ?_
      refine mm_T.ic rfl rfl rfl rfl rfl (x_isC1 hb) ?_
      refine mm_T.s rfl rfl rfl (fun _ => rfl) ?_
      refine mm_T.s rfl rfl rfl (fun _ => rfl) ?_
      refine mm_T.ic rfl rfl rfl rfl rfl (x_isD1 (fun q => hk (Or.inl q)) (fun q => hk (Or.inr q))) ?_
      refine mm_T.s rfl rfl rfl (fun _ => rfl) ?_
      refine mm_T.s rfl rfl rfl (fun _ => rfl) ?_
      refine mm_T.s rfl rfl rfl (fun _ => rfl) ?_
      refine mm_T.s rfl rfl rfl (fun _ => rfl) ?_
      refine mm_T.ivw rfl rfl rfl rfl rfl rfl (m_cyc hn k) ?_
      rintro _ _ ⟨hcyc, rfl⟩
      rcases hcyc with rfl | rfl
      · skip
        refine mm_T.s rfl rfl rfl (fun _ => rfl) ?_
        refine mm_T.s rfl rfl rfl (fun _ => rfl) ?_
        exact mm_T.ret rfl rfl rfl (⟨⟨_, rfl⟩, _, _, _, _, _, _, _, _, _, _, _, _, rfl⟩)
      · skip
        refine mm_T.s rfl rfl rfl (fun _ => rfl) ?_
        refine mm_T.s rfl rfl rfl (fun _ => rfl) ?_
        refine mm_T.s rfl rfl rfl (fun _ => rfl) ?_
        refine mm_T.s rfl rfl rfl (fun _ => rfl) ?_
        refine mm_T.s rfl rfl rfl (fun _ => rfl) ?_
        refine mm_T.s rfl rfl rfl (fun _ => rfl) ?_
        refine mm_T.ivw rfl rfl rfl rfl rfl rfl (m_bo1 hI hn k) ?_
        rintro _ _ ⟨rfl, ma1, hB, rfl⟩
        refine mm_T.s rfl rfl rfl (fun _ => rfl) ?_
        refine mm_T.ivw rfl rfl rfl rfl rfl rfl (m_vol (by omega) (by omega) (x_KP_b a1 (fun j hj => x_BM_c1 hn h4 (by omega) hB hj))) ?_
        rintro _ _ ⟨⟨z1, rfl, hz1⟩, wo1, dv1, r1, rfl⟩
        refine mm_T.s rfl rfl rfl (fun _ => rfl) ?_
        refine mm_T.s rfl rfl rfl (fun _ => rfl) ?_
        refine mm_T.gf rfl rfl rfl rfl rfl ?_
        refine mm_T.s rfl rfl rfl (fun _ => rfl) ?_
        refine mm_T.s rfl rfl rfl (fun _ => rfl) ?_
        refine mm_T.s rfl rfl rfl (fun _ => rfl) ?_
        refine mm_T.s rfl rfl rfl (fun _ => rfl) ?_
        refine mm_T.s rfl rfl rfl (fun _ => rfl) ?_
        refine mm_T.up (n := 255) (P := fun i L h => ∃ x6 x7 y8 ma2, x6 = nI (x_mn has n k i) ∧ x7 = nI (i + 1) ∧ (∀ r, r < x_mn has n k i → (ma2 (48 * r + x_mn has n (k + 1) 255)).toInt.natAbs ≤ 9) ∧ (∀ a b, b < x_mn has n (k + 1) 255 → ma2 (48 * a + b) = ma1 (48 * a + b)) ∧ L = [some (.ref 25), some (.int (nI n)), some (.int k), some (.long z1), none, some (.int (nI r1)), some (.int x6), some (.int x7), y8] ∧ h = (kD c has ke f ma2 wo1 dv1 cy sp e1 e2 e3 (nI (x_mn has n k 255)) (nI (x_mn has n (k + 1) 255)) (nI r1) tr)) ?_ ?_ 0 (Nat.zero_le _) _ _ ⟨_, _, _, _, rfl, rfl, fun r hr => absurd hr (Nat.not_lt_zero _), fun a b _ => rfl, rfl, rfl⟩
        · skip
          rintro i _ _ hi ⟨x6, x7, y8, ma2, rfl, rfl, hc9, hco, rfl, rfl⟩ K
          refine mm_T.s rfl rfl rfl (fun _ => rfl) ?_
          refine mm_T.s rfl rfl rfl (fun _ => rfl) ?_
          refine mm_T.s rfl rfl rfl (fun _ => if_neg (nI_ge (a := i + 1) (b := 256) (by omega) (by decide))) ?_
          refine mm_T.s rfl rfl rfl (fun _ => rfl) ?_
          refine mm_T.gf rfl rfl rfl rfl rfl ?_
          refine mm_T.s rfl rfl rfl (fun _ => rfl) ?_
          refine mm_T.s rfl rfl rfl (fun _ => rfl) ?_
          refine mm_T.s rfl rfl rfl (fun _ => rfl) ?_
          refine mm_T.s rfl rfl rfl (fun _ => rfl) ?_
          refine mm_T.s rfl rfl rfl (fun _ => rfl) ?_
          refine mm_T.ti _ (x_ix _ _) ?_
          refine mm_T.zaN rfl rfl rfl (by omega) (by decide) rfl ?_
          refine mm_T.cz rfl rfl (fun hb74 => ?_) (fun hb74 => ?_)
          · skip
            have hnc : ¬ x_cd has n k (i + 1) := fun q => q.1 hb74
            have e6 : nI (x_mn has n k i) = nI (x_mn has n k (i + 1)) := by rw [x_mn_n hnc]
            have hn9 : ∀ r, r < x_mn has n k (i + 1) → (ma2 (48 * r + x_mn has n (k + 1) 255)).toInt.natAbs ≤ 9 := by rw [x_mn_n hnc]; exact hc9
            have hno := hco
            refine mm_T.s rfl rfl rfl (fun _ => rfl) ?_
            refine mm_T.s rfl rfl rfl (fun _ => rfl) ?_
            exact K _ _ ⟨_, _, _, _, e6, nI_1 (i + 1), hn9, hno, rfl, rfl⟩
          · skip
            refine mm_T.s rfl rfl rfl (fun _ => rfl) ?_
            refine mm_T.ic rfl rfl rfl rfl rfl (x_size _) ?_
            refine mm_T.s rfl rfl rfl (fun _ => rfl) ?_
            refine mm_T.s rfl rfl rfl (fun _ => rfl) ?_
            refine mm_T.s rfl rfl rfl (fun _ => rfl) ?_
            refine mm_T.ci rfl rfl (fun hb85 => ?_) (fun hb85 => ?_)
            · skip
              have hnc : ¬ x_cd has n k (i + 1) := fun q => hb85 q.2
              have e6 : nI (x_mn has n k i) = nI (x_mn has n k (i + 1)) := by rw [x_mn_n hnc]
              have hn9 : ∀ r, r < x_mn has n k (i + 1) → (ma2 (48 * r + x_mn has n (k + 1) 255)).toInt.natAbs ≤ 9 := by rw [x_mn_n hnc]; exact hc9
              have hno := hco
              refine mm_T.s rfl rfl rfl (fun _ => rfl) ?_
              refine mm_T.s rfl rfl rfl (fun _ => rfl) ?_
              exact K _ _ ⟨_, _, _, _, e6, nI_1 (i + 1), hn9, hno, rfl, rfl⟩
            · skip
              have hcd : x_cd has n k (i + 1) := ⟨hb74, Classical.not_not.mp hb85⟩
              have e6 : nI (x_mn has n k i) + 1 = nI (x_mn has n k (i + 1)) := by rw [x_mn_y hcd, nI_1]
              have l9 := x_mn_lt (q := i + 1) (t := 255) (by omega) hcd (by omega)
              rw [Nat.add_sub_cancel] at l9
              have hn9 : ∀ r, r < x_mn has n k (i + 1) → (vp_updL ma2 (48 * x_mn has n k i + x_mn has n (k + 1) 255) (ke (256 * n + (i + 1))).toInt64 (48 * r + x_mn has n (k + 1) 255)).toInt.natAbs ≤ 9 := fun r hr => by
                rw [x_ul2 _ (by omega) (by omega)]
                by_cases e : r = x_mn has n k i
                · rw [if_pos ⟨e, rfl⟩, x_i64]
                  exact h9 _ (by omega)
                · rw [if_neg (fun q => e q.1)]
                  rw [x_mn_y hcd] at hr
                  exact hc9 r (by omega)
              have hno : ∀ a b, b < x_mn has n (k + 1) 255 → vp_updL ma2 (48 * x_mn has n k i + x_mn has n (k + 1) 255) (ke (256 * n + (i + 1))).toInt64 (48 * a + b) = ma1 (48 * a + b) := fun a b hb => by
                rw [x_ul2 _ (by omega) (by omega), if_neg (by omega)]
                exact hco a b hb
              refine mm_T.s rfl rfl rfl (fun _ => rfl) ?_
              refine mm_T.gf rfl rfl rfl rfl rfl ?_
              refine mm_T.s rfl rfl rfl (fun _ => rfl) ?_
              refine mm_T.s rfl rfl rfl (fun _ => rfl) ?_
              refine mm_T.s rfl rfl rfl (fun _ => rfl) ?_
              refine mm_T.s rfl rfl rfl (fun _ => rfl) ?_
              refine mm_T.gf rfl rfl rfl rfl rfl ?_
              refine mm_T.s rfl rfl rfl (fun _ => rfl) ?_
              refine mm_T.ti _ (x_84 _ _) ?_
              refine mm_T.s rfl rfl rfl (fun _ => rfl) ?_
              refine mm_T.gf rfl rfl rfl rfl rfl ?_
              refine mm_T.s rfl rfl rfl (fun _ => rfl) ?_
              refine mm_T.s rfl rfl rfl (fun _ => rfl) ?_
              refine mm_T.s rfl rfl rfl (fun _ => rfl) ?_
              refine mm_T.s rfl rfl rfl (fun _ => rfl) ?_
              refine mm_T.s rfl rfl rfl (fun _ => rfl) ?_
              refine mm_T.ti _ (x_ix _ _) ?_
              refine mm_T.iaN rfl rfl rfl (by omega) (by decide) rfl ?_
              refine mm_T.s rfl rfl rfl (fun _ => rfl) ?_
              refine mm_T.lsN rfl rfl rfl (by omega) (by decide) rfl ?_
              refine mm_T.s rfl rfl rfl (fun _ => rfl) ?_
              refine mm_T.s rfl rfl rfl (fun _ => rfl) ?_
              refine mm_T.s rfl rfl rfl (fun _ => rfl) ?_
              exact K _ _ ⟨_, _, _, _, e6, nI_1 (i + 1), hn9, hno, rfl, rfl⟩
        · skip
          rintro _ _ ⟨x6, x7, y8, ma2, rfl, rfl, hc9, hco, rfl, rfl⟩
          have hKP2 : x_KP (x_mn has n k 255) (x_mn has n (k + 1) 255 + 1) ma2 := by
            refine x_KP_of a1 (fun j hj => ?_) ?_
            · rw [dt_S_congr _ (g := fun i => ((ma1 (48 * i + j)).toInt.natAbs : Int)) (fun i _ => by rw [hco i j hj])]
              exact x_BM_c1 hn h4 (by omega) hB hj
            · exact Int.le_trans (x_s9 _ hc9) (by omega)
          refine mm_T.s rfl rfl rfl (fun _ => rfl) ?_
          refine mm_T.s rfl rfl rfl (fun _ => rfl) ?_
          refine mm_T.s rfl rfl rfl (fun _ => rfl) ?_
          refine mm_T.s rfl rfl rfl (fun _ => rfl) ?_
          refine mm_T.s rfl rfl rfl (fun _ => rfl) ?_
          refine mm_T.gf rfl rfl rfl rfl rfl ?_
          refine mm_T.s rfl rfl rfl (fun _ => rfl) ?_
          refine mm_T.s rfl rfl rfl (fun _ => rfl) ?_
          refine mm_T.ti _ (nI_1 _) ?_
          refine mm_T.pfi rfl rfl rfl rfl rfl rfl ?_
          refine mm_T.s rfl rfl rfl (fun _ => rfl) ?_
          refine mm_T.ivw rfl rfl rfl rfl rfl rfl (m_vol (by omega) (by omega) hKP2) ?_
          rintro _ _ ⟨⟨z2, rfl, hz2⟩, wo2, dv2, r2, rfl⟩
          refine mm_T.s rfl rfl rfl (fun _ => rfl) ?_
          refine mm_T.s rfl rfl rfl (fun _ => rfl) ?_
          refine mm_T.gf rfl rfl rfl rfl rfl ?_
          refine mm_T.s rfl rfl rfl (fun _ => rfl) ?_
          refine mm_T.ci rfl rfl (fun hb148 => ?_) (fun hb148 => ?_)
          · skip
            refine mm_T.s rfl rfl rfl (fun _ => rfl) ?_
            refine mm_T.s rfl rfl rfl (fun _ => rfl) ?_
            refine mm_T.s rfl rfl rfl (fun _ => if_neg hz2) ?_
            refine mm_T.s rfl rfl rfl (fun _ => rfl) ?_
            exact mm_T.ret rfl rfl rfl (⟨⟨_, rfl⟩, _, _, _, _, _, _, _, _, _, _, _, _, rfl⟩)
          · skip
            refine mm_T.s rfl rfl rfl (fun _ => rfl) ?_
            refine mm_T.s rfl rfl rfl (fun _ => rfl) ?_
            exact mm_T.ret rfl rfl rfl (⟨⟨_, rfl⟩, _, _, _, _, _, _, _, _, _, _, _, _, rfl⟩)
  · skip
    refine mm_T.s rfl rfl rfl (fun _ => rfl) ?_
    refine mm_T.ic rfl rfl rfl rfl rfl (x_isC0 hb) ?_
    refine mm_T.s rfl rfl rfl (fun _ => rfl) ?_
    refine mm_T.s rfl rfl rfl (fun _ => rfl) ?_
    exact mm_T.ret rfl rfl rfl (⟨⟨_, rfl⟩, _, _, _, _, _, _, _, _, _, _, _, _, rfl⟩)
