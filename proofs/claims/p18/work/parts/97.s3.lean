/-! THE MAP'S MATRIX: the reference's -/
/-- the map as it is laid, up to set i -/
def x_PM (has f : Nat → Int32) (k : Int32) (row col : Nat) (ma ma1 : Nat → Int64) (i : Nat) : Prop := (∀ q q', 1 ≤ q → q ≤ i → x_cd has 1 k q → 1 ≤ q' → q' ≤ 255 → x_cd has 0 k q' → ma1 (48 * (row + x_mn has 1 k (q - 1)) + (col + x_mn has 0 k (q' - 1))) = (x_gv f (nI q') (nI q)).toInt64) ∧ (∀ a b, a < 48 → b < 48 → ¬ (row ≤ a ∧ a < row + x_mn has 1 k i ∧ col ≤ b ∧ b < col + x_mn has 0 k 255) → ma1 (48 * a + b) = ma (48 * a + b))
/-- one row of the map, up to set j -/
def x_PN (has f : Nat → Int32) (k : Int32) (r q col : Nat) (ma1 ma2 : Nat → Int64) (j : Nat) : Prop := (∀ q', 1 ≤ q' → q' ≤ j → x_cd has 0 k q' → ma2 (48 * r + (col + x_mn has 0 k (q' - 1))) = (x_gv f (nI q') (nI q)).toInt64) ∧ (∀ a b, a < 48 → b < 48 → ¬ (a = r ∧ col ≤ b ∧ b < col + x_mn has 0 k j) → ma2 (48 * a + b) = ma1 (48 * a + b))
theorem x_PM.skip {has f : Nat → Int32} {k : Int32} {row col : Nat} {ma ma1 : Nat → Int64} {i : Nat} (h : x_PM has f k row col ma ma1 i) (hn : ¬ x_cd has 1 k (i + 1)) : x_PM has f k row col ma ma1 (i + 1) := by
  refine ⟨fun q q' h1 h2 h3 => ?_, fun a b ha hb hc => h.2 a b ha hb (by rw [x_mn_n hn] at hc; exact hc)⟩
  by_cases e : q = i + 1
  · rw [e] at h3
    exact absurd h3 hn
  · exact h.1 q q' h1 (by omega) h3
theorem x_PM.step {has f : Nat → Int32} {k : Int32} {row col : Nat} {ma ma1 ma2 : Nat → Int64} {i : Nat} (h : x_PM has f k row col ma ma1 i) (hy : x_cd has 1 k (i + 1)) (hr : row + x_mn has 1 k i < 48) (hc : col + x_mn has 0 k 255 ≤ 48) (h2 : x_PN has f k (row + x_mn has 1 k i) (i + 1) col ma1 ma2 255) : x_PM has f k row col ma ma2 (i + 1) := by
  refine ⟨fun q q' h1 hq h3 h4 h5 h6 => ?_, fun a b ha hb hn => ?_⟩
  · by_cases e : q = i + 1
    · subst e
      exact h2.1 q' h4 h5 h6
    · have l1 : x_mn has 1 k (q - 1) < x_mn has 1 k i := x_mn_lt h1 h3 (by omega)
      have l2 : x_mn has 0 k (q' - 1) < x_mn has 0 k 255 := x_mn_lt h4 h6 h5
      rw [h2.2 _ _ (by omega) (by omega) (by omega)]
      exact h.1 q q' h1 (by omega) h3 h4 h5 h6
  · rw [x_mn_y hy] at hn
    rw [h2.2 a b ha hb (by omega)]
    exact h.2 a b ha hb (by omega)
theorem x_PN.skip {has f : Nat → Int32} {k : Int32} {r q col : Nat} {ma1 ma2 : Nat → Int64} {j : Nat} (h : x_PN has f k r q col ma1 ma2 j) (hn : ¬ x_cd has 0 k (j + 1)) : x_PN has f k r q col ma1 ma2 (j + 1) := by
  refine ⟨fun q' h1 h2 h3 => ?_, fun a b ha hb hc => h.2 a b ha hb (by rw [x_mn_n hn] at hc; exact hc)⟩
  by_cases e : q' = j + 1
  · rw [e] at h3
    exact absurd h3 hn
  · exact h.1 q' h1 (by omega) h3
theorem x_PN.step {has f : Nat → Int32} {k : Int32} {r q col : Nat} {ma1 ma2 : Nat → Int64} {j : Nat} (h : x_PN has f k r q col ma1 ma2 j) (hy : x_cd has 0 k (j + 1)) (hj : j < 255) (hc : col + x_mn has 0 k 255 ≤ 48) : x_PN has f k r q col ma1 (vp_updL ma2 (48 * r + (col + x_mn has 0 k j)) (x_gv f (nI (j + 1)) (nI q)).toInt64) (j + 1) := by
  have l0 : x_mn has 0 k j < x_mn has 0 k 255 := x_mn_lt (q := j + 1) (by omega) hy (by omega)
  refine ⟨fun q' h1 h2 h3 => ?_, fun a b ha hb hn => ?_⟩
  · have l2 : x_mn has 0 k (q' - 1) < x_mn has 0 k 255 := x_mn_lt h1 h3 (by omega)
    rw [x_ul2 _ (by omega) (by omega)]
    by_cases e : q' = j + 1
    · subst e
      rw [if_pos ⟨rfl, by simp⟩]
    · have l1 : x_mn has 0 k (q' - 1) < x_mn has 0 k j := x_mn_lt h1 h3 (by omega)
      rw [if_neg (by omega)]
      exact h.1 q' h1 (by omega) h3
  · rw [x_mn_y hy] at hn
    rw [x_ul2 _ (by omega) hb, if_neg (by omega)]
    exact h.2 a b ha hb (by omega)
theorem m_pmE {c : Nat → mm_C} {has ke f cy sp e1 e2 e3 : Nat → Int32} {ma wo dv : Nat → Int64} {ro co di tr : Int32} (k : Int32) {row : Nat} (hr : row + x_mn has 1 k 255 ≤ 48) (hc : 0 + x_mn has 0 k 255 ≤ 48) : mm_TC kM 107 [.ref 25, .int k, .int (nI row)] (kD c has ke f ma wo dv cy sp e1 e2 e3 ro co di tr) (fun v h => v = none ∧ ∃ ma1, x_PM has f k row 0 ma ma1 255 ∧ h = (kD c has ke f ma1 wo dv cy sp e1 e2 e3 ro co di tr)) := by
  refine mm_TC.of (M := kq_107) rfl rfl ?_
  refine mm_T.s rfl rfl rfl (fun _ => rfl) ?_
  refine mm_T.s rfl rfl rfl (fun _ => rfl) ?_
  refine mm_T.s rfl rfl rfl (fun _ => rfl) ?_
  refine mm_T.s rfl rfl rfl (fun _ => rfl) ?_
  refine mm_T.up (n := 255) (P := fun i L h => ∃ x3 x4 y5 y6 ma1, x3 = nI (row + x_mn has 1 k i) ∧ x4 = nI (i + 1) ∧ x_PM has f k row 0 ma ma1 i ∧ L = [some (.ref 25), some (.int k), some (.int (nI row)), some (.int x3), some (.int x4), y5, y6] ∧ h = (kD c has ke f ma1 wo dv cy sp e1 e2 e3 ro co di tr)) ?_ ?_ 0 (Nat.zero_le _) _ _ ⟨_, _, _, _, _, rfl, rfl, ⟨fun q q2 h1 h2 => by omega, fun a b _ _ _ => rfl⟩, rfl, rfl⟩
  · skip
    rintro i0 _ _ hi0 ⟨x3, x4, y5, y6, ma1, rfl, rfl, hpb, rfl, rfl⟩ K
    refine mm_T.s rfl rfl rfl (fun _ => rfl) ?_
    refine mm_T.s rfl rfl rfl (fun _ => rfl) ?_
    refine mm_T.s rfl rfl rfl (fun _ => if_neg (nI_ge (a := i0 + 1) (b := 256) (by omega) (by decide))) ?_
    refine mm_T.s rfl rfl rfl (fun _ => rfl) ?_
    refine mm_T.gf rfl rfl rfl rfl rfl ?_
    refine mm_T.s rfl rfl rfl (fun _ => rfl) ?_
    refine mm_T.s rfl rfl rfl (fun _ => rfl) ?_
    refine mm_T.s rfl rfl rfl (fun _ => rfl) ?_
    refine mm_T.ti _ (x_256p _) ?_
    refine mm_T.zaN rfl rfl rfl (by omega) (by decide) rfl ?_
    refine mm_T.cz rfl rfl (fun hb24 => ?_) (fun hb24 => ?_)
    · skip
      have hno : ¬ x_cd has 1 k (i0 + 1) := fun q => q.1 (by rw [Nat.mul_one]; exact hb24)
      have q3 : nI (row + x_mn has 1 k i0) = nI (row + x_mn has 1 k (i0 + 1)) := by rw [x_mn_n hno]
      have hP1 := hpb.skip hno
      refine mm_T.s rfl rfl rfl (fun _ => rfl) ?_
      refine mm_T.s rfl rfl rfl (fun _ => rfl) ?_
      exact K _ _ ⟨_, _, _, _, _, q3, nI_1 (i0 + 1), hP1, rfl, rfl⟩
    · skip
      refine mm_T.s rfl rfl rfl (fun _ => rfl) ?_
      refine mm_T.ic rfl rfl rfl rfl rfl (x_size _) ?_
      refine mm_T.s rfl rfl rfl (fun _ => rfl) ?_
      refine mm_T.s rfl rfl rfl (fun _ => rfl) ?_
      refine mm_T.s rfl rfl rfl (fun _ => rfl) ?_
      refine mm_T.ci rfl rfl (fun hb35 => ?_) (fun hb35 => ?_)
      · skip
        have hno : ¬ x_cd has 1 k (i0 + 1) := fun q => hb35 q.2
        have q3 : nI (row + x_mn has 1 k i0) = nI (row + x_mn has 1 k (i0 + 1)) := by rw [x_mn_n hno]
        have hP1 := hpb.skip hno
        refine mm_T.s rfl rfl rfl (fun _ => rfl) ?_
        refine mm_T.s rfl rfl rfl (fun _ => rfl) ?_
        exact K _ _ ⟨_, _, _, _, _, q3, nI_1 (i0 + 1), hP1, rfl, rfl⟩
      · skip
        have hcd0 : x_cd has 1 k (i0 + 1) := ⟨by rw [Nat.mul_one]; exact hb24, Classical.not_not.mp hb35⟩
        have q3 : nI (row + x_mn has 1 k i0) + 1 = nI (row + x_mn has 1 k (i0 + 1)) := by rw [x_mn_y hcd0, nI_1]; rfl
        have l8 := x_mn_lt (q := i0 + 1) (t := 255) (by omega) hcd0 (by omega)
        rw [Nat.add_sub_cancel] at l8
        refine mm_T.s rfl rfl rfl (fun _ => rfl) ?_
        refine mm_T.s rfl rfl rfl (fun _ => rfl) ?_
        refine mm_T.s rfl rfl rfl (fun _ => rfl) ?_
        refine mm_T.s rfl rfl rfl (fun _ => rfl) ?_
        refine mm_T.up (n := 255) (P := fun i L h => ∃ x5 x6 ma2, x5 = nI (0 + x_mn has 0 k i) ∧ x6 = nI (i + 1) ∧ x_PN has f k (row + x_mn has 1 k i0) (i0 + 1) 0 ma1 ma2 i ∧ L = [some (.ref 25), some (.int k), some (.int (nI row)), some (.int (nI (row + x_mn has 1 k i0))), some (.int (nI (i0 + 1))), some (.int x5), some (.int x6)] ∧ h = (kD c has ke f ma2 wo dv cy sp e1 e2 e3 ro co di tr)) ?_ ?_ 0 (Nat.zero_le _) _ _ ⟨_, _, _, rfl, rfl, ⟨fun q h1 h2 => by omega, fun a b _ _ _ => rfl⟩, rfl, rfl⟩
        · skip
          rintro i _ _ hi ⟨x5, x6, ma2, rfl, rfl, hpr, rfl, rfl⟩ K2
          refine mm_T.s rfl rfl rfl (fun _ => rfl) ?_
          refine mm_T.s rfl rfl rfl (fun _ => rfl) ?_
          refine mm_T.s rfl rfl rfl (fun _ => if_neg (nI_ge (a := i + 1) (b := 256) (by omega) (by decide))) ?_
          refine mm_T.s rfl rfl rfl (fun _ => rfl) ?_
          refine mm_T.gf rfl rfl rfl rfl rfl ?_
          refine mm_T.s rfl rfl rfl (fun _ => rfl) ?_
          refine mm_T.zaN rfl rfl rfl (by omega) (by decide) rfl ?_
          refine mm_T.cz rfl rfl (fun hb59 => ?_) (fun hb59 => ?_)
          · skip
            have hno : ¬ x_cd has 0 k (i + 1) := fun q => q.1 (by rw [Nat.mul_zero, Nat.zero_add]; exact hb59)
            have e5 : nI (0 + x_mn has 0 k i) = nI (0 + x_mn has 0 k (i + 1)) := by rw [x_mn_n hno]
            have hP2 := hpr.skip hno
            refine mm_T.s rfl rfl rfl (fun _ => rfl) ?_
            refine mm_T.s rfl rfl rfl (fun _ => rfl) ?_
            exact K2 _ _ ⟨_, _, _, e5, nI_1 (i + 1), hP2, rfl, rfl⟩
          · skip
            refine mm_T.s rfl rfl rfl (fun _ => rfl) ?_
            refine mm_T.ic rfl rfl rfl rfl rfl (x_size _) ?_
            refine mm_T.s rfl rfl rfl (fun _ => rfl) ?_
            refine mm_T.s rfl rfl rfl (fun _ => rfl) ?_
            refine mm_T.s rfl rfl rfl (fun _ => rfl) ?_
            refine mm_T.ci rfl rfl (fun hb70 => ?_) (fun hb70 => ?_)
            · skip
              have hno : ¬ x_cd has 0 k (i + 1) := fun q => hb70 q.2
              have e5 : nI (0 + x_mn has 0 k i) = nI (0 + x_mn has 0 k (i + 1)) := by rw [x_mn_n hno]
              have hP2 := hpr.skip hno
              refine mm_T.s rfl rfl rfl (fun _ => rfl) ?_
              refine mm_T.s rfl rfl rfl (fun _ => rfl) ?_
              exact K2 _ _ ⟨_, _, _, e5, nI_1 (i + 1), hP2, rfl, rfl⟩
            · skip
              have hcd : x_cd has 0 k (i + 1) := ⟨by rw [Nat.mul_zero, Nat.zero_add]; exact hb59, Classical.not_not.mp hb70⟩
              have e5 : nI (0 + x_mn has 0 k i) + 1 = nI (0 + x_mn has 0 k (i + 1)) := by rw [x_mn_y hcd, nI_1]; rfl
              have hP2 := hpr.step hcd hi hc
              have l9 := x_mn_lt (q := i + 1) (t := 255) (by omega) hcd (by omega)
              rw [Nat.add_sub_cancel] at l9
              refine mm_T.s rfl rfl rfl (fun _ => rfl) ?_
              refine mm_T.gf rfl rfl rfl rfl rfl ?_
              refine mm_T.s rfl rfl rfl (fun _ => rfl) ?_
              refine mm_T.s rfl rfl rfl (fun _ => rfl) ?_
              refine mm_T.s rfl rfl rfl (fun _ => rfl) ?_
              refine mm_T.s rfl rfl rfl (fun _ => rfl) ?_
              refine mm_T.s rfl rfl rfl (fun _ => rfl) ?_
              refine mm_T.ti _ (x_84 _ _) ?_
              refine mm_T.s rfl rfl rfl (fun _ => rfl) ?_
              refine mm_T.s rfl rfl rfl (fun _ => rfl) ?_
              refine mm_T.s rfl rfl rfl (fun _ => rfl) ?_
              refine mm_T.iv rfl rfl rfl rfl rfl rfl (g_gv rfl rfl _ _) ?_
              refine mm_T.s rfl rfl rfl (fun _ => rfl) ?_
              refine mm_T.lsN rfl rfl rfl (by omega) (by decide) rfl ?_
              refine mm_T.s rfl rfl rfl (fun _ => rfl) ?_
              refine mm_T.s rfl rfl rfl (fun _ => rfl) ?_
              refine mm_T.s rfl rfl rfl (fun _ => rfl) ?_
              exact K2 _ _ ⟨_, _, _, e5, nI_1 (i + 1), hP2, rfl, rfl⟩
        · skip
          rintro _ _ ⟨x5, x6, ma2, rfl, rfl, hpr, rfl, rfl⟩
          refine mm_T.s rfl rfl rfl (fun _ => rfl) ?_
          refine mm_T.s rfl rfl rfl (fun _ => rfl) ?_
          refine mm_T.s rfl rfl rfl (fun _ => rfl) ?_
          refine mm_T.s rfl rfl rfl (fun _ => rfl) ?_
          refine mm_T.s rfl rfl rfl (fun _ => rfl) ?_
          refine mm_T.s rfl rfl rfl (fun _ => rfl) ?_
          exact K _ _ ⟨_, _, _, _, _, q3, nI_1 (i0 + 1), hpb.step hcd0 (by omega) hc hpr, rfl, rfl⟩
  · skip
    rintro _ _ ⟨x3, x4, y5, y6, ma1, rfl, rfl, hpb, rfl, rfl⟩
    refine mm_T.s rfl rfl rfl (fun _ => rfl) ?_
    refine mm_T.s rfl rfl rfl (fun _ => rfl) ?_
    refine mm_T.s rfl rfl rfl (fun _ => rfl) ?_
    exact mm_T.ret rfl rfl rfl (⟨rfl, _, hpb, rfl⟩)
theorem x_PB_E {pl kc has kp sz se : Nat → Int32} {n : Nat} (h : x_J1 pl kc has kp n) (hI : x_CI pl sz se) {k : Int32} {row col : Nat} {ma ma1 : Nat → Int64} (hB : x_PB has n k row col ma ma1 255) {r j : Nat} (hr : r < x_m pl (k - 1)) (hj : j < x_m pl k) : (ma1 (48 * (row + r) + (col + j))).toInt = (x_G se k r j).toInt := by
  obtain ⟨kk, hk, ek, hr2, hj2⟩ := x_mkk hr hj
  obtain ⟨q, a1, a2, a3, a4, a5, a6⟩ := hI.set (k := kk) (by omega) hr2
  obtain ⟨s, b1, b2, b3, b4, b5, b6⟩ := hI.set hk hj2
  have e1 : k - 1 = nI kk := by rw [ek]; exact x_n1 (a := kk + 1) (by omega)
  have z := hB.1 q s a1 (by omega) ((h.cd a2 _).mpr ⟨a5, by rw [e1]; exact a4⟩) b1 (by omega) ((h.cd b2 _).mpr ⟨b5, by rw [ek]; exact b4⟩)
  rw [e1, ek, h.mn kk (q - 1) (by omega), h.mn (kk + 1) (s - 1) (by omega), a6, b6] at z
  unfold x_G
  rw [z, x_i64, ek, mm_cl (by omega), Nat.add_sub_cancel, a3, b3, x_sgf b2 (x_sz_dm hI b1 b2 b5) a1 a2]
theorem x_PM_E {pl0 kc0 pl1 kc1 has kp sz0 se0 sz1 se1 im f : Nat → Int32} (hJ0 : x_J1 pl0 kc0 has kp 0) (hJ1 : x_J1 pl1 kc1 has kp 1) (hI0 : x_CI pl0 sz0 se0) (hI1 : x_CI pl1 sz1 se1) (him : ∀ v, v < 8 → im v = f v) {k : Int32} {row : Nat} {ma ma1 : Nat → Int64} (hB : x_PM has f k row 0 ma ma1 255) {t j : Nat} (ht : t < x_m pl1 k) (hj : j < x_m pl0 k) : (ma1 (48 * (row + t) + j)).toInt = (x_gv im (se0 (k.toNatClampNeg * 24 + j)) (se1 (k.toNatClampNeg * 24 + t))).toInt := by
  obtain ⟨kk, hk, rfl, ek⟩ := x_m_pos hj
  rw [ek] at hj
  rw [x_m_a hk] at ht
  obtain ⟨q, a1, a2, a3, a4, a5, a6⟩ := hI1.set hk ht
  obtain ⟨s, b1, b2, b3, b4, b5, b6⟩ := hI0.set hk hj
  have z := hB.1 q s a1 (by omega) ((hJ1.cd a2 _).mpr ⟨a5, a4⟩) b1 (by omega) ((hJ0.cd b2 _).mpr ⟨b5, b4⟩)
  rw [hJ1.mn kk (q - 1) (by omega), hJ0.mn kk (s - 1) (by omega), a6, b6, Nat.zero_add] at z
  have ef : x_gv f (nI s) (nI q) = x_gv im (nI s) (nI q) := by
    unfold x_gv
    rw [x_io_c (f := f) (g := im) (nI s) 8 (fun v hv => (him v hv).symm), x_go_f (f := f) (g := im) (fun v hv => (him v hv).symm) (nI s) 8 (Nat.le_refl _)]
  rw [z, x_i64, mm_cl (by omega), a3, b3, ef]
/-- the rank of the map's matrix, by the larger of two primes -/
def x_rm2 (pl0 se0 pl1 se1 im : Nat → Int32) (k : Int32) : Nat := max (x_st ((x_m pl0 (k - 1)) + (x_m pl1 k)) (2147483647 : Int32).toInt (x_ivP 2147483647) (fun a b => (x_MA pl0 se0 pl1 se1 im k a b).toInt % (2147483647 : Int32).toInt) ((x_m pl0 k) + (x_m pl1 (k + 1)))).2 (x_st ((x_m pl0 (k - 1)) + (x_m pl1 k)) (2147483629 : Int32).toInt (x_ivP 2147483629) (fun a b => (x_MA pl0 se0 pl1 se1 im k a b).toInt % (2147483629 : Int32).toInt) ((x_m pl0 k) + (x_m pl1 (k + 1)))).2
theorem m_rankE {c : Nat → mm_C} {has ke f cy sp e1 e2 e3 : Nat → Int32} {ma wo dv : Nat → Int64} {ro co di tr : Int32} {pl0 kc0 sz0 se0 pl1 kc1 sz1 se1 im : Nat → Int32} (hI : x_MI has) (hJ0 : x_J1 pl0 kc0 has ke 0) (hJ1 : x_J1 pl1 kc1 has ke 1) (hI0 : x_CI pl0 sz0 se0) (hI1 : x_CI pl1 sz1 se1) (hf : x_fo im) (him : ∀ v, v < 8 → im v = f v) (hs : x_si has f) {k : Int32} (k0 : ¬ k < 0) (k3 : ¬ 3 < k) : mm_TC kM 108 [.ref 25, .int k] (kD c has ke f ma wo dv cy sp e1 e2 e3 ro co di tr) (fun v h => v = some (.int (nI (x_rm2 pl0 se0 pl1 se1 im k) - (nI (x_rk pl0 se0 2147483647 k) + nI (x_rk pl1 se1 2147483647 (k + 1))))) ∧ x_GM c has ke f h) := by
  have b1 := x_m_le hI0 (k - 1)
  have b2 := x_m_le hI0 k
  have b3 := x_m_le hI1 k
  have b4 := x_m_le hI1 (k + 1)
  have c1 := hJ0.m hI0 (k - 1)
  have c2 := hJ0.m hI0 k
  have c3 := hJ1.m hI1 k
  have c4 := hJ1.m hI1 (k + 1)
  have pP : 0 < (2147483647 : Int64).toInt ∧ (2147483647 : Int64).toInt < 2 ^ 31 := by decide
  have pQ : 0 < (2147483629 : Int64).toInt ∧ (2147483629 : Int64).toInt < 2 ^ 31 := by decide
  have hrl : ∀ P : Int32, (x_st ((x_m pl0 (k - 1)) + (x_m pl1 k)) P.toInt (x_ivP P) (fun a b => (x_MA pl0 se0 pl1 se1 im k a b).toInt % P.toInt) ((x_m pl0 k) + (x_m pl1 (k + 1)))).2 ≤ (x_m pl0 (k - 1)) + (x_m pl1 k) := fun P => (x_st_c (R := (x_m pl0 (k - 1)) + (x_m pl1 k)) (C := (x_m pl0 k) + (x_m pl1 (k + 1))) (p := P.toInt) (iv := x_ivP P) (E := (fun a b => (x_MA pl0 se0 pl1 se1 im k a b).toInt % P.toInt)) (fun a b _ _ => rfl) _ (Nat.le_refl _)).1
  have key : ∀ ma1 : Nat → Int64, (∀ a b, a < (x_m pl0 (k - 1)) + (x_m pl1 k) → b < (x_m pl0 k) + (x_m pl1 (k + 1)) → (ma1 (48 * a + b)).toInt = (x_MA pl0 se0 pl1 se1 im k a b).toInt) → ∀ wo0, mm_TC kM 85 [.ref 25] (kD c has ke f ma1 wo0 dv cy sp e1 e2 e3 (nI ((x_m pl0 (k - 1)) + (x_m pl1 k))) (nI ((x_m pl0 k) + (x_m pl1 (k + 1)))) di tr) (fun v h => v = some (.int (nI (x_rm2 pl0 se0 pl1 se1 im k))) ∧ ∃ wo1, h = (kD c has ke f ma1 wo1 dv cy sp e1 e2 e3 (nI ((x_m pl0 (k - 1)) + (x_m pl1 k))) (nI ((x_m pl0 k) + (x_m pl1 (k + 1)))) di tr)) := fun ma1 hM wo0 => by
    have eR : ∀ P : Int32, (x_st ((x_m pl0 (k - 1)) + (x_m pl1 k)) P.toInt (x_ivP P) (fun a b => (ma1 (48 * a + b)).toInt % P.toInt) ((x_m pl0 k) + (x_m pl1 (k + 1)))).2 = (x_st ((x_m pl0 (k - 1)) + (x_m pl1 k)) P.toInt (x_ivP P) (fun a b => (x_MA pl0 se0 pl1 se1 im k a b).toInt % P.toInt) ((x_m pl0 k) + (x_m pl1 (k + 1)))).2 := fun P => (x_st_c (fun a b ha hb => by rw [hM a b ha hb]) _ (Nat.le_refl _)).2.1
    have l1 := hrl 2147483647
    have l2 := hrl 2147483629
    refine mm_TC.of (M := kq_85) rfl rfl ?_
    refine mm_T.s rfl rfl rfl (fun _ => rfl) ?_
    refine mm_T.s rfl rfl rfl (fun _ => rfl) ?_
    refine mm_T.ivw rfl rfl rfl rfl rfl rfl (m_rmE (p := 2147483647) (iv := x_ivP 2147483647) (by omega) (by omega) pP.1 pP.2 x_gpP.2.2.1 x_gpP.2.2.2) ?_
    rintro _ _ ⟨rfl, wo1, rfl⟩
    rw [show (2147483647 : Int64).toInt = (2147483647 : Int32).toInt from by decide, eR]
    refine mm_T.s rfl rfl rfl (fun _ => rfl) ?_
    refine mm_T.s rfl rfl rfl (fun _ => rfl) ?_
    refine mm_T.s rfl rfl rfl (fun _ => rfl) ?_
    refine mm_T.ivw rfl rfl rfl rfl rfl rfl (m_rmE (p := 2147483629) (iv := x_ivP 2147483629) (by omega) (by omega) pQ.1 pQ.2 x_gpQ.2.2.1 x_gpQ.2.2.2) ?_
    rintro _ _ ⟨rfl, wo2, rfl⟩
    rw [show (2147483629 : Int64).toInt = (2147483629 : Int32).toInt from by decide, eR]
    refine mm_T.s rfl rfl rfl (fun _ => rfl) ?_
    refine mm_T.s rfl rfl rfl (fun _ => rfl) ?_
    refine mm_T.s rfl rfl rfl (fun _ => rfl) ?_
    refine mm_T.ci rfl rfl (fun hb18 => ?_) (fun hb18 => ?_)
    · skip
      have hb18 : (x_st ((x_m pl0 (k - 1)) + (x_m pl1 k)) (2147483647 : Int32).toInt (x_ivP 2147483647) (fun a b => (x_MA pl0 se0 pl1 se1 im k a b).toInt % (2147483647 : Int32).toInt) ((x_m pl0 k) + (x_m pl1 (k + 1)))).2 ≤ (x_st ((x_m pl0 (k - 1)) + (x_m pl1 k)) (2147483629 : Int32).toInt (x_ivP 2147483629) (fun a b => (x_MA pl0 se0 pl1 se1 im k a b).toInt % (2147483629 : Int32).toInt) ((x_m pl0 k) + (x_m pl1 (k + 1)))).2 := (nI_leI (by omega) (by omega)).mp hb18
      have e9 : (x_st ((x_m pl0 (k - 1)) + (x_m pl1 k)) (2147483629 : Int32).toInt (x_ivP 2147483629) (fun a b => (x_MA pl0 se0 pl1 se1 im k a b).toInt % (2147483629 : Int32).toInt) ((x_m pl0 k) + (x_m pl1 (k + 1)))).2 = x_rm2 pl0 se0 pl1 se1 im k := by
        unfold x_rm2
        omega
      refine mm_T.s rfl rfl rfl (fun _ => rfl) ?_
      exact mm_T.ret rfl rfl rfl (⟨by rw [← e9], _, rfl⟩)
    · skip
      have hb18 : ¬ (x_st ((x_m pl0 (k - 1)) + (x_m pl1 k)) (2147483647 : Int32).toInt (x_ivP 2147483647) (fun a b => (x_MA pl0 se0 pl1 se1 im k a b).toInt % (2147483647 : Int32).toInt) ((x_m pl0 k) + (x_m pl1 (k + 1)))).2 ≤ (x_st ((x_m pl0 (k - 1)) + (x_m pl1 k)) (2147483629 : Int32).toInt (x_ivP 2147483629) (fun a b => (x_MA pl0 se0 pl1 se1 im k a b).toInt % (2147483629 : Int32).toInt) ((x_m pl0 k) + (x_m pl1 (k + 1)))).2 := fun q => hb18 (nI_le q (by omega))
      have e9 : (x_st ((x_m pl0 (k - 1)) + (x_m pl1 k)) (2147483647 : Int32).toInt (x_ivP 2147483647) (fun a b => (x_MA pl0 se0 pl1 se1 im k a b).toInt % (2147483647 : Int32).toInt) ((x_m pl0 k) + (x_m pl1 (k + 1)))).2 = x_rm2 pl0 se0 pl1 se1 im k := by
        unfold x_rm2
        omega
      refine mm_T.s rfl rfl rfl (fun _ => rfl) ?_
      refine mm_T.s rfl rfl rfl (fun _ => rfl) ?_
      exact mm_T.ret rfl rfl rfl (⟨by rw [← e9], _, rfl⟩)
  refine mm_TC.of (M := kq_108) rfl rfl ?_
  refine mm_T.s rfl rfl rfl (fun _ => rfl) ?_
  refine mm_T.ic rfl rfl rfl rfl rfl (x_isD1 k0 k3) ?_
  refine mm_T.s rfl rfl rfl (fun _ => rfl) ?_
  refine mm_T.s rfl rfl rfl (fun _ => rfl) ?_
  refine mm_T.iv rfl rfl rfl rfl rfl rfl (g_si1 rfl rfl rfl (x_fo_c hf him) hs) ?_
  refine mm_T.s rfl rfl rfl (fun _ => rfl) ?_
  refine mm_T.s rfl rfl rfl (fun _ => rfl) ?_
  refine mm_T.s rfl rfl rfl (fun _ => rfl) ?_
  refine mm_T.s rfl rfl rfl (fun _ => rfl) ?_
  refine mm_T.s rfl rfl rfl (fun _ => rfl) ?_
  refine mm_T.s rfl rfl rfl (fun _ => rfl) ?_
  refine mm_T.iv rfl rfl rfl rfl rfl rfl (g_many (n := 0) rfl rfl (by decide) (k - 1)) ?_
  rw [c1]
  refine mm_T.s rfl rfl rfl (fun _ => rfl) ?_
  refine mm_T.s rfl rfl rfl (fun _ => rfl) ?_
  refine mm_T.s rfl rfl rfl (fun _ => rfl) ?_
  refine mm_T.s rfl rfl rfl (fun _ => rfl) ?_
  refine mm_T.iv rfl rfl rfl rfl rfl rfl (g_many (n := 0) rfl rfl (by decide) k) ?_
  rw [c2]
  refine mm_T.s rfl rfl rfl (fun _ => rfl) ?_
  refine mm_T.s rfl rfl rfl (fun _ => rfl) ?_
  refine mm_T.s rfl rfl rfl (fun _ => rfl) ?_
  refine mm_T.s rfl rfl rfl (fun _ => rfl) ?_
  refine mm_T.ivw rfl rfl rfl rfl rfl rfl (m_brE (n := 0) hI (by decide) hJ0 hI0 k) ?_
  rintro _ _ ⟨rfl, ma1, wo1, ro1, co1, rfl⟩
  refine mm_T.s rfl rfl rfl (fun _ => rfl) ?_
  refine mm_T.s rfl rfl rfl (fun _ => rfl) ?_
  refine mm_T.s rfl rfl rfl (fun _ => rfl) ?_
  refine mm_T.s rfl rfl rfl (fun _ => rfl) ?_
  refine mm_T.s rfl rfl rfl (fun _ => rfl) ?_
  refine mm_T.ivw rfl rfl rfl rfl rfl rfl (m_brE (n := 1) hI (by decide) hJ1 hI1 (k + 1)) ?_
  rintro _ _ ⟨rfl, ma2, wo2, ro2, co2, rfl⟩
  refine mm_T.s rfl rfl rfl (fun _ => rfl) ?_
  refine mm_T.s rfl rfl rfl (fun _ => rfl) ?_
  refine mm_T.s rfl rfl rfl (fun _ => rfl) ?_
  refine mm_T.s rfl rfl rfl (fun _ => rfl) ?_
  refine mm_T.s rfl rfl rfl (fun _ => rfl) ?_
  refine mm_T.s rfl rfl rfl (fun _ => rfl) ?_
  refine mm_T.s rfl rfl rfl (fun _ => rfl) ?_
  refine mm_T.iv rfl rfl rfl rfl rfl rfl (g_many (n := 1) rfl rfl (by decide) k) ?_
  rw [c3]
  refine mm_T.s rfl rfl rfl (fun _ => rfl) ?_
  refine mm_T.ti _ (nI_add _ _) ?_
  refine mm_T.s rfl rfl rfl (fun _ => rfl) ?_
  refine mm_T.s rfl rfl rfl (fun _ => rfl) ?_
  refine mm_T.s rfl rfl rfl (fun _ => rfl) ?_
  refine mm_T.s rfl rfl rfl (fun _ => rfl) ?_
  refine mm_T.s rfl rfl rfl (fun _ => rfl) ?_
  refine mm_T.s rfl rfl rfl (fun _ => rfl) ?_
  refine mm_T.iv rfl rfl rfl rfl rfl rfl (g_many (n := 1) rfl rfl (by decide) (k + 1)) ?_
  rw [c4]
  refine mm_T.s rfl rfl rfl (fun _ => rfl) ?_
  refine mm_T.ti _ (nI_add _ _) ?_
  refine mm_T.ivw rfl rfl rfl rfl rfl rfl (m_shape _ _) ?_
  rintro _ _ ⟨rfl, ma3, hz3, rfl⟩
  refine mm_T.s rfl rfl rfl (fun _ => rfl) ?_
  refine mm_T.s rfl rfl rfl (fun _ => rfl) ?_
  refine mm_T.s rfl rfl rfl (fun _ => rfl) ?_
  refine mm_T.s rfl rfl rfl (fun _ => rfl) ?_
  refine mm_T.s rfl rfl rfl (fun _ => rfl) ?_
  refine mm_T.ivw rfl rfl rfl rfl rfl rfl (m_pb (n := 0) (row := 0) (col := 0) (by decide) k (by omega) (by omega)) ?_
  rintro _ _ ⟨rfl, ma4, hpb4, rfl⟩
  refine mm_T.s rfl rfl rfl (fun _ => rfl) ?_
  refine mm_T.s rfl rfl rfl (fun _ => rfl) ?_
  refine mm_T.s rfl rfl rfl (fun _ => rfl) ?_
  refine mm_T.ivw rfl rfl rfl rfl rfl rfl (m_pmE k (by omega) (by omega)) ?_
  rintro _ _ ⟨rfl, ma5, hpm5, rfl⟩
  refine mm_T.s rfl rfl rfl (fun _ => rfl) ?_
  refine mm_T.s rfl rfl rfl (fun _ => rfl) ?_
  refine mm_T.s rfl rfl rfl (fun _ => rfl) ?_
  refine mm_T.s rfl rfl rfl (fun _ => rfl) ?_
  refine mm_T.s rfl rfl rfl (fun _ => rfl) ?_
  refine mm_T.s rfl rfl rfl (fun _ => rfl) ?_
  refine mm_T.s rfl rfl rfl (fun _ => rfl) ?_
  refine mm_T.ivw rfl rfl rfl rfl rfl rfl (m_pb (n := 1) (by decide) (k + 1) (by rw [x_k2]; omega) (by omega)) ?_
  rintro _ _ ⟨rfl, ma6, hpb6, rfl⟩
  have o6 := hpb6.2
  rw [x_k2, c3, c4] at o6
  have o5 := hpm5.2
  rw [c3, c2] at o5
  have o4 := hpb4.2
  rw [c1, c2] at o4
  have hM : ∀ a b, a < (x_m pl0 (k - 1)) + (x_m pl1 k) → b < (x_m pl0 k) + (x_m pl1 (k + 1)) → (ma6 (48 * a + b)).toInt = (x_MA pl0 se0 pl1 se1 im k a b).toInt := fun a b ha hb => by
    unfold x_MA
    by_cases d1 : a < (x_m pl0 (k - 1))
    · rw [if_pos d1, o6 a b (by omega) (by omega) (by omega), o5 a b (by omega) (by omega) (by omega)]
      by_cases d2 : b < (x_m pl0 k)
      · rw [if_pos d2]
        have z := x_PB_E hJ0 hI0 hpb4 d1 d2
        rw [Nat.zero_add, Nat.zero_add] at z
        exact z
      · rw [if_neg d2, o4 a b (by omega) (by omega) (by omega), hz3 _ (by omega)]
        decide
    · rw [if_neg d1]
      by_cases d2 : b < (x_m pl0 k)
      · rw [if_pos d2, o6 a b (by omega) (by omega) (by omega)]
        have z := x_PM_E hJ0 hJ1 hI0 hI1 him hpm5 (t := a - (x_m pl0 (k - 1))) (j := b) (by omega) d2
        rw [show (x_m pl0 (k - 1)) + (a - (x_m pl0 (k - 1))) = a by omega] at z
        exact z
      · rw [if_neg d2]
        have z := x_PB_E hJ1 hI1 hpb6 (r := a - (x_m pl0 (k - 1))) (j := b - (x_m pl0 k)) (by rw [x_k2]; omega) (by omega)
        rw [show (x_m pl0 (k - 1)) + (a - (x_m pl0 (k - 1))) = a by omega, show (x_m pl0 k) + (b - (x_m pl0 k)) = b by omega] at z
        exact z
  refine mm_T.s rfl rfl rfl (fun _ => rfl) ?_
  refine mm_T.ivw rfl rfl rfl rfl rfl rfl (key ma6 hM _) ?_
  rintro _ _ ⟨rfl, wo7, rfl⟩
  refine mm_T.s rfl rfl rfl (fun _ => rfl) ?_
  refine mm_T.s rfl rfl rfl (fun _ => rfl) ?_
  exact mm_T.ret rfl rfl rfl (⟨rfl, _, _, _, _, _, _, _, _, _, _, _, _, rfl⟩)
