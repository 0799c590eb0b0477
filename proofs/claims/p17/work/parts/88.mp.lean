/-! THE REFERENCE: maps and products end well -/
theorem x_dnw (b : Nat) : nI (b + 1) + Int32.ofInt (-1) = nI b := by
  rw [← x_m1, ← nI_1 b]
  exact Int32.add_sub_cancel (nI b) 1
theorem x_nsub {a b : Nat} (h : b ≤ a) : nI a - nI b = nI (a - b) := by
  have e := nI_add (a - b) b
  rw [Nat.sub_add_cancel h] at e
  rw [← e]
  exact Int32.add_sub_cancel _ _
theorem m_pm {c : Nat → mm_C} {has ke f cy sp e1 e2 e3 : Nat → Int32} {ma wo dv : Nat → Int64} {ro co di tr : Int32} (k : Int32) {row : Nat} (hr : row + x_mn has 1 k 255 ≤ 48) (hc : x_mn has 0 k 255 ≤ 48) : mm_TC kM 107 [.ref 25, .int k, .int (nI row)] (kD c has ke f ma wo dv cy sp e1 e2 e3 ro co di tr) (fun v h => v = none ∧ ∃ ma1, h = (kD c has ke f ma1 wo dv cy sp e1 e2 e3 ro co di tr)) := by
  refine mm_TC.of (M := kq_107) rfl rfl ?_
  refine mm_T.s rfl rfl rfl (fun _ => rfl) ?_
  refine mm_T.s rfl rfl rfl (fun _ => rfl) ?_
  refine mm_T.s rfl rfl rfl (fun _ => rfl) ?_
  refine mm_T.s rfl rfl rfl (fun _ => rfl) ?_
  refine mm_T.up (n := 255) (P := fun i L h => ∃ x3 x4 y5 y6 ma1, x3 = nI (row + x_mn has 1 k i) ∧ x4 = nI (i + 1) ∧ L = [some (.ref 25), some (.int k), some (.int (nI row)), some (.int x3), some (.int x4), y5, y6] ∧ h = (kD c has ke f ma1 wo dv cy sp e1 e2 e3 ro co di tr)) ?_ ?_ 0 (Nat.zero_le _) _ _ ⟨_, _, _, _, _, rfl, rfl, rfl, rfl⟩
  · skip
    rintro i0 _ _ hi0 ⟨x3, x4, y5, y6, ma1, rfl, rfl, rfl, rfl⟩ K
    refine mm_T.s rfl rfl rfl (fun _ => rfl) ?_
    refine mm_T.s rfl rfl rfl (fun _ => rfl) ?_
    refine mm_T.s rfl rfl rfl (fun _ => if_neg (nI_ge (a := i0 + 1) (b := 256) (by omega) (by decide))) ?_
    refine mm_T.s rfl rfl rfl (fun _ => rfl) ?_
    refine mm_T.gf rfl rfl rfl rfl rfl ?_
    refine mm_T.s rfl rfl rfl (fun _ => rfl) ?_
    refine mm_T.s rfl rfl rfl (fun _ => rfl) ?_
    refine mm_T.s rfl rfl rfl (fun _ => rfl) ?_
    refine mm_T.ti _ (x_256p _) ?_
    refine mm_T.zaN rfl rfl rfl (by omega) (by decide) rfl ?_
    refine mm_T.cz rfl rfl (fun hb24 => ?_) (fun hb24 => ?_)
    · skip
      have q3 : nI (row + x_mn has 1 k i0) = nI (row + x_mn has 1 k (i0 + 1)) := by rw [x_mn_n (fun q => q.1 (by rw [Nat.mul_one]; exact hb24))]
      refine mm_T.s rfl rfl rfl (fun _ => rfl) ?_
      refine mm_T.s rfl rfl rfl (fun _ => rfl) ?_
      exact K _ _ ⟨_, _, _, _, _, q3, nI_1 (i0 + 1), rfl, rfl⟩
    · skip
      refine mm_T.s rfl rfl rfl (fun _ => rfl) ?_
      refine mm_T.ic rfl rfl rfl rfl rfl (x_size _) ?_
      refine mm_T.s rfl rfl rfl (fun _ => rfl) ?_
      refine mm_T.s rfl rfl rfl (fun _ => rfl) ?_
      refine mm_T.s rfl rfl rfl (fun _ => rfl) ?_
      refine mm_T.ci rfl rfl (fun hb35 => ?_) (fun hb35 => ?_)
      · skip
        have q3 : nI (row + x_mn has 1 k i0) = nI (row + x_mn has 1 k (i0 + 1)) := by rw [x_mn_n (fun q => hb35 q.2)]
        refine mm_T.s rfl rfl rfl (fun _ => rfl) ?_
        refine mm_T.s rfl rfl rfl (fun _ => rfl) ?_
        exact K _ _ ⟨_, _, _, _, _, q3, nI_1 (i0 + 1), rfl, rfl⟩
      · skip
        have hcd0 : x_cd has 1 k (i0 + 1) := ⟨by rw [Nat.mul_one]; exact hb24, Classical.not_not.mp hb35⟩
        have q3 : nI (row + x_mn has 1 k i0) + 1 = nI (row + x_mn has 1 k (i0 + 1)) := by rw [x_mn_y hcd0, nI_1]; rfl
        have l8 := x_mn_lt (q := i0 + 1) (t := 255) (by omega) hcd0 (by omega)
        rw [Nat.add_sub_cancel] at l8
        refine mm_T.s rfl rfl rfl (fun _ => rfl) ?_
        refine mm_T.s rfl rfl rfl (fun _ => rfl) ?_
        refine mm_T.s rfl rfl rfl (fun _ => rfl) ?_
        refine mm_T.s rfl rfl rfl (fun _ => rfl) ?_
        refine mm_T.up (n := 255) (P := fun i L h => ∃ x5 x6 ma2, x5 = nI (x_mn has 0 k i) ∧ x6 = nI (i + 1) ∧ L = [some (.ref 25), some (.int k), some (.int (nI row)), some (.int (nI (row + x_mn has 1 k i0))), some (.int (nI (i0 + 1))), some (.int x5), some (.int x6)] ∧ h = (kD c has ke f ma2 wo dv cy sp e1 e2 e3 ro co di tr)) ?_ ?_ 0 (Nat.zero_le _) _ _ ⟨_, _, _, rfl, rfl, rfl, rfl⟩
        · skip
          rintro i _ _ hi ⟨x5, x6, ma2, rfl, rfl, rfl, rfl⟩ K2
          refine mm_T.s rfl rfl rfl (fun _ => rfl) ?_
          refine mm_T.s rfl rfl rfl (fun _ => rfl) ?_
          refine mm_T.s rfl rfl rfl (fun _ => if_neg (nI_ge (a := i + 1) (b := 256) (by omega) (by decide))) ?_
          refine mm_T.s rfl rfl rfl (fun _ => rfl) ?_
          refine mm_T.gf rfl rfl rfl rfl rfl ?_
          refine mm_T.s rfl rfl rfl (fun _ => rfl) ?_
          refine mm_T.zaN rfl rfl rfl (by omega) (by decide) rfl ?_
          refine mm_T.cz rfl rfl (fun hb59 => ?_) (fun hb59 => ?_)
          · skip
            have e5 : nI (x_mn has 0 k i) = nI (x_mn has 0 k (i + 1)) := by rw [x_mn_n (fun q => q.1 (by rw [Nat.mul_zero, Nat.zero_add]; exact hb59))]
            refine mm_T.s rfl rfl rfl (fun _ => rfl) ?_
            refine mm_T.s rfl rfl rfl (fun _ => rfl) ?_
            exact K2 _ _ ⟨_, _, _, e5, nI_1 (i + 1), rfl, rfl⟩
          · skip
            refine mm_T.s rfl rfl rfl (fun _ => rfl) ?_
            refine mm_T.ic rfl rfl rfl rfl rfl (x_size _) ?_
            refine mm_T.s rfl rfl rfl (fun _ => rfl) ?_
            refine mm_T.s rfl rfl rfl (fun _ => rfl) ?_
            refine mm_T.s rfl rfl rfl (fun _ => rfl) ?_
            refine mm_T.ci rfl rfl (fun hb70 => ?_) (fun hb70 => ?_)
            · skip
              have e5 : nI (x_mn has 0 k i) = nI (x_mn has 0 k (i + 1)) := by rw [x_mn_n (fun q => hb70 q.2)]
              refine mm_T.s rfl rfl rfl (fun _ => rfl) ?_
              refine mm_T.s rfl rfl rfl (fun _ => rfl) ?_
              exact K2 _ _ ⟨_, _, _, e5, nI_1 (i + 1), rfl, rfl⟩
            · skip
              have hcd : x_cd has 0 k (i + 1) := ⟨by rw [Nat.mul_zero, Nat.zero_add]; exact hb59, Classical.not_not.mp hb70⟩
              have e5 : nI (x_mn has 0 k i) + 1 = nI (x_mn has 0 k (i + 1)) := by rw [x_mn_y hcd, nI_1]
              have l9 := x_mn_lt (q := i + 1) (t := 255) (by omega) hcd (by omega)
              rw [Nat.add_sub_cancel] at l9
              refine mm_T.s rfl rfl rfl (fun _ => rfl) ?_
              refine mm_T.gf rfl rfl rfl rfl rfl ?_
              refine mm_T.s rfl rfl rfl (fun _ => rfl) ?_
              refine mm_T.s rfl rfl rfl (fun _ => rfl) ?_
              refine mm_T.s rfl rfl rfl (fun _ => rfl) ?_
              refine mm_T.s rfl rfl rfl (fun _ => rfl) ?_
              refine mm_T.s rfl rfl rfl (fun _ => rfl) ?_
              refine mm_T.ti _ (x_84 _ _) ?_
              refine mm_T.s rfl rfl rfl (fun _ => rfl) ?_
              refine mm_T.s rfl rfl rfl (fun _ => rfl) ?_
              refine mm_T.s rfl rfl rfl (fun _ => rfl) ?_
              refine mm_T.iv rfl rfl rfl rfl rfl rfl (g_gv rfl rfl _ _) ?_
              refine mm_T.s rfl rfl rfl (fun _ => rfl) ?_
              refine mm_T.lsN rfl rfl rfl (by omega) (by decide) rfl ?_
              refine mm_T.s rfl rfl rfl (fun _ => rfl) ?_
              refine mm_T.s rfl rfl rfl (fun _ => rfl) ?_
              refine mm_T.s rfl rfl rfl (fun _ => rfl) ?_
              exact K2 _ _ ⟨_, _, _, e5, nI_1 (i + 1), rfl, rfl⟩
        · skip
          rintro _ _ ⟨x5, x6, ma2, rfl, rfl, rfl, rfl⟩
          refine mm_T.s rfl rfl rfl (fun _ => rfl) ?_
          refine mm_T.s rfl rfl rfl (fun _ => rfl) ?_
          refine mm_T.s rfl rfl rfl (fun _ => rfl) ?_
          refine mm_T.s rfl rfl rfl (fun _ => rfl) ?_
          refine mm_T.s rfl rfl rfl (fun _ => rfl) ?_
          refine mm_T.s rfl rfl rfl (fun _ => rfl) ?_
          exact K _ _ ⟨_, _, _, _, _, q3, nI_1 (i0 + 1), rfl, rfl⟩
  · skip
    rintro _ _ ⟨x3, x4, y5, y6, ma1, rfl, rfl, rfl, rfl⟩
    refine mm_T.s rfl rfl rfl (fun _ => rfl) ?_
    refine mm_T.s rfl rfl rfl (fun _ => rfl) ?_
    refine mm_T.s rfl rfl rfl (fun _ => rfl) ?_
    exact mm_T.ret rfl rfl rfl (⟨rfl, _, rfl⟩)
theorem m_rank {c : Nat → mm_C} {has ke f cy sp e1 e2 e3 : Nat → Int32} {ma wo dv : Nat → Int64} {ro co di tr : Int32} (hI : x_MI has) (hf : x_fo f) (k : Int32) : mm_TC kM 108 [.ref 25, .int k] (kD c has ke f ma wo dv cy sp e1 e2 e3 ro co di tr) (fun v h => (∃ x, v = some (.int x)) ∧ x_GM c has ke f h) := by
  have a1 := hI 0 (by decide) (k - 1)
  have a2 := hI 0 (by decide) k
  have a3 := hI 1 (by decide) k
  have a4 := hI 1 (by decide) (k + 1)
  refine mm_TC.of (M := kq_108) rfl rfl ?_
  by_cases hk : k < 0 ∨ 3 < k
  · skip
    refine mm_T.s rfl rfl rfl (fun _ => rfl) ?_
    refine mm_T.ic rfl rfl rfl rfl rfl (x_isD0 hk) ?_
    refine mm_T.s rfl rfl rfl (fun _ => rfl) ?_
    refine mm_T.s rfl rfl rfl (fun _ => rfl) ?_
    exact mm_T.ret rfl rfl rfl (⟨⟨_, rfl⟩, _, _, _, _, _, _, _, _, _, _, _, _, rfl⟩)
  · by_cases hs : x_si has f
    · skip
      refine mm_T.s rfl rfl rfl (fun _ => rfl) ?_
      refine mm_T.ic rfl rfl rfl rfl rfl (x_isD1 (fun q => hk (Or.inl q)) (fun q => hk (Or.inr q))) ?_
      refine mm_T.s rfl rfl rfl (fun _ => rfl) ?_
      refine mm_T.s rfl rfl rfl (fun _ => rfl) ?_
      refine mm_T.iv rfl rfl rfl rfl rfl rfl (g_si1 rfl rfl rfl hf hs) ?_
      refine mm_T.s rfl rfl rfl (fun _ => rfl) ?_
      refine mm_T.s rfl rfl rfl (fun _ => rfl) ?_
      refine mm_T.s rfl rfl rfl (fun _ => rfl) ?_
      refine mm_T.s rfl rfl rfl (fun _ => rfl) ?_
      refine mm_T.s rfl rfl rfl (fun _ => rfl) ?_
      refine mm_T.s rfl rfl rfl (fun _ => rfl) ?_
      refine mm_T.iv rfl rfl rfl rfl rfl rfl (g_many (n := 0) rfl rfl (by decide) (k - 1)) ?_
      refine mm_T.s rfl rfl rfl (fun _ => rfl) ?_
      refine mm_T.s rfl rfl rfl (fun _ => rfl) ?_
      refine mm_T.s rfl rfl rfl (fun _ => rfl) ?_
      refine mm_T.s rfl rfl rfl (fun _ => rfl) ?_
      refine mm_T.iv rfl rfl rfl rfl rfl rfl (g_many (n := 0) rfl rfl (by decide) k) ?_
      refine mm_T.s rfl rfl rfl (fun _ => rfl) ?_
      refine mm_T.s rfl rfl rfl (fun _ => rfl) ?_
      refine mm_T.s rfl rfl rfl (fun _ => rfl) ?_
      refine mm_T.s rfl rfl rfl (fun _ => rfl) ?_
      refine mm_T.ivw rfl rfl rfl rfl rfl rfl (m_br (n := 0) hI (by decide) k) ?_
      rintro _ _ ⟨⟨x1, rfl⟩, ma1, wo1, ro1, co1, rfl⟩
      refine mm_T.s rfl rfl rfl (fun _ => rfl) ?_
      refine mm_T.s rfl rfl rfl (fun _ => rfl) ?_
      refine mm_T.s rfl rfl rfl (fun _ => rfl) ?_
      refine mm_T.s rfl rfl rfl (fun _ => rfl) ?_
      refine mm_T.s rfl rfl rfl (fun _ => rfl) ?_
      refine mm_T.ivw rfl rfl rfl rfl rfl rfl (m_br (n := 1) hI (by decide) (k + 1)) ?_
      rintro _ _ ⟨⟨x2, rfl⟩, ma2, wo2, ro2, co2, rfl⟩
      refine mm_T.s rfl rfl rfl (fun _ => rfl) ?_
      refine mm_T.s rfl rfl rfl (fun _ => rfl) ?_
      refine mm_T.s rfl rfl rfl (fun _ => rfl) ?_
      refine mm_T.s rfl rfl rfl (fun _ => rfl) ?_
      refine mm_T.s rfl rfl rfl (fun _ => rfl) ?_
      refine mm_T.s rfl rfl rfl (fun _ => rfl) ?_
      refine mm_T.s rfl rfl rfl (fun _ => rfl) ?_
      refine mm_T.iv rfl rfl rfl rfl rfl rfl (g_many (n := 1) rfl rfl (by decide) k) ?_
      refine mm_T.s rfl rfl rfl (fun _ => rfl) ?_
      refine mm_T.ti _ (nI_add _ _) ?_
      refine mm_T.s rfl rfl rfl (fun _ => rfl) ?_
      refine mm_T.s rfl rfl rfl (fun _ => rfl) ?_
      refine mm_T.s rfl rfl rfl (fun _ => rfl) ?_
      refine mm_T.s rfl rfl rfl (fun _ => rfl) ?_
      refine mm_T.s rfl rfl rfl (fun _ => rfl) ?_
      refine mm_T.s rfl rfl rfl (fun _ => rfl) ?_
      refine mm_T.iv rfl rfl rfl rfl rfl rfl (g_many (n := 1) rfl rfl (by decide) (k + 1)) ?_
      refine mm_T.s rfl rfl rfl (fun _ => rfl) ?_
      refine mm_T.ti _ (nI_add _ _) ?_
      refine mm_T.ivw rfl rfl rfl rfl rfl rfl (m_shape _ _) ?_
      rintro _ _ ⟨rfl, ma3, hz3, rfl⟩
      refine mm_T.s rfl rfl rfl (fun _ => rfl) ?_
      refine mm_T.s rfl rfl rfl (fun _ => rfl) ?_
      refine mm_T.s rfl rfl rfl (fun _ => rfl) ?_
      refine mm_T.s rfl rfl rfl (fun _ => rfl) ?_
      refine mm_T.s rfl rfl rfl (fun _ => rfl) ?_
      refine mm_T.ivw rfl rfl rfl rfl rfl rfl (m_pb (n := 0) (row := 0) (col := 0) (by decide) k (by omega) (by omega)) ?_
      rintro _ _ ⟨rfl, ma4, hpb4, rfl⟩
      refine mm_T.s rfl rfl rfl (fun _ => rfl) ?_
      refine mm_T.s rfl rfl rfl (fun _ => rfl) ?_
      refine mm_T.s rfl rfl rfl (fun _ => rfl) ?_
      refine mm_T.ivw rfl rfl rfl rfl rfl rfl (m_pm k (by omega) (by omega)) ?_
      rintro _ _ ⟨rfl, ma5, rfl⟩
      refine mm_T.s rfl rfl rfl (fun _ => rfl) ?_
      refine mm_T.s rfl rfl rfl (fun _ => rfl) ?_
      refine mm_T.s rfl rfl rfl (fun _ => rfl) ?_
      refine mm_T.s rfl rfl rfl (fun _ => rfl) ?_
      refine mm_T.s rfl rfl rfl (fun _ => rfl) ?_
      refine mm_T.s rfl rfl rfl (fun _ => rfl) ?_
      refine mm_T.s rfl rfl rfl (fun _ => rfl) ?_
      refine mm_T.ivw rfl rfl rfl rfl rfl rfl (m_pb (n := 1) (by decide) (k + 1) (by rw [x_k2]; omega) (by omega)) ?_
      rintro _ _ ⟨rfl, ma6, hpb6, rfl⟩
      refine mm_T.s rfl rfl rfl (fun _ => rfl) ?_
      refine mm_T.ivw rfl rfl rfl rfl rfl rfl (m_ra (by omega) (by omega)) ?_
      rintro _ _ ⟨⟨x3, rfl⟩, wo3, rfl⟩
      refine mm_T.s rfl rfl rfl (fun _ => rfl) ?_
      refine mm_T.s rfl rfl rfl (fun _ => rfl) ?_
      exact mm_T.ret rfl rfl rfl (⟨⟨_, rfl⟩, _, _, _, _, _, _, _, _, _, _, _, _, rfl⟩)
    · skip
      refine mm_T.s rfl rfl rfl (fun _ => rfl) ?_
      refine mm_T.ic rfl rfl rfl rfl rfl (x_isD1 (fun q => hk (Or.inl q)) (fun q => hk (Or.inr q))) ?_
      refine mm_T.s rfl rfl rfl (fun _ => rfl) ?_
      refine mm_T.s rfl rfl rfl (fun _ => rfl) ?_
      refine mm_T.iv rfl rfl rfl rfl rfl rfl (g_si0 rfl rfl rfl hf hs) ?_
      refine mm_T.s rfl rfl rfl (fun _ => rfl) ?_
      refine mm_T.s rfl rfl rfl (fun _ => rfl) ?_
      exact mm_T.ret rfl rfl rfl (⟨⟨_, rfl⟩, _, _, _, _, _, _, _, _, _, _, _, _, rfl⟩)
theorem m_ext {c : Nat → mm_C} {has ke f cy sp e1 e2 e3 : Nat → Int32} {ma wo dv : Nat → Int64} {ro co di tr : Int32} (cnt s : Int32) : mm_TC kM 110 [.ref 25, .int cnt, .int s] (kD c has ke f ma wo dv cy sp e1 e2 e3 ro co di tr) (fun v h => (∃ x, v = some (.int x)) ∧ ∃ sp1, h = (kD c has ke f ma wo dv cy sp1 e1 e2 e3 ro co di tr)) := by
  refine mm_TC.of (M := kq_110) rfl rfl ?_
  refine mm_T.s rfl rfl rfl (fun _ => rfl) ?_
  refine mm_T.s rfl rfl rfl (fun _ => rfl) ?_
  refine mm_T.s rfl rfl rfl (fun _ => rfl) ?_
  refine mm_T.s rfl rfl rfl (fun _ => rfl) ?_
  refine mm_T.up (n := 24) (P := fun i L h => ∃ x3 x4, (i < 24 → x4 = nI (23 - i)) ∧ (i = 24 → x4 = -1) ∧ L = [some (.ref 25), some (.int cnt), some (.int s), some (.int x3), some (.int x4)] ∧ h = (kD c has ke f ma wo dv cy sp e1 e2 e3 ro co di tr)) ?_ ?_ 0 (Nat.zero_le _) _ _ ⟨_, _, fun _ => rfl, fun q => absurd q (by decide), rfl, rfl⟩
  · skip
    rintro i _ _ hi ⟨x3, x4, hx, -, rfl, rfl⟩ K
    have hx := hx hi
    subst hx
    have hd1 : i + 1 < 24 → nI (23 - i) + Int32.ofInt (-1) = nI (23 - (i + 1)) := fun q => by
      have e : 23 - i = 23 - (i + 1) + 1 := by omega
      rw [e]
      exact x_dnw _
    have hd2 : i + 1 = 24 → nI (23 - i) + Int32.ofInt (-1) = -1 := fun q => by
      have e : 23 - i = 0 := by omega
      rw [e]
      rfl
    refine mm_T.s rfl rfl rfl (fun _ => rfl) ?_
    refine mm_T.s rfl rfl rfl (fun _ => if_neg (nI_pos (by omega))) ?_
    refine mm_T.s rfl rfl rfl (fun _ => rfl) ?_
    refine mm_T.s rfl rfl rfl (fun _ => rfl) ?_
    refine mm_T.s rfl rfl rfl (fun _ => rfl) ?_
    refine mm_T.s rfl rfl rfl (fun _ => rfl) ?_
    refine mm_T.s rfl rfl rfl (fun _ => rfl) ?_
    refine mm_T.s rfl rfl rfl (fun _ => rfl) ?_
    refine mm_T.ci rfl rfl (fun hb18 => ?_) (fun hb18 => ?_)
    · skip
      refine mm_T.s rfl rfl rfl (fun _ => rfl) ?_
      refine mm_T.s rfl rfl rfl (fun _ => rfl) ?_
      exact K _ _ ⟨_, _, hd1, hd2, rfl, rfl⟩
    · skip
      refine mm_T.s rfl rfl rfl (fun _ => rfl) ?_
      refine mm_T.gf rfl rfl rfl rfl rfl ?_
      refine mm_T.s rfl rfl rfl (fun _ => rfl) ?_
      refine mm_T.iaN rfl rfl rfl (by omega) (by decide) rfl ?_
      refine mm_T.cz rfl rfl (fun hb28 => ?_) (fun hb28 => ?_)
      · skip
        refine mm_T.s rfl rfl rfl (fun _ => rfl) ?_
        refine mm_T.s rfl rfl rfl (fun _ => rfl) ?_
        refine mm_T.gf rfl rfl rfl rfl rfl ?_
        refine mm_T.s rfl rfl rfl (fun _ => rfl) ?_
        refine mm_T.iaN rfl rfl rfl (by omega) (by decide) rfl ?_
        refine mm_T.s rfl rfl rfl (fun _ => rfl) ?_
        refine mm_T.s rfl rfl rfl (fun _ => rfl) ?_
        refine mm_T.s rfl rfl rfl (fun _ => rfl) ?_
        refine mm_T.s rfl rfl rfl (fun _ => rfl) ?_
        exact K _ _ ⟨_, _, hd1, hd2, rfl, rfl⟩
      · skip
        refine mm_T.s rfl rfl rfl (fun _ => rfl) ?_
        refine mm_T.gf rfl rfl rfl rfl rfl ?_
        refine mm_T.s rfl rfl rfl (fun _ => rfl) ?_
        refine mm_T.s rfl rfl rfl (fun _ => rfl) ?_
        refine mm_T.isN rfl rfl rfl (by omega) (by decide) rfl ?_
        refine mm_T.s rfl rfl rfl (fun _ => rfl) ?_
        refine mm_T.s rfl rfl rfl (fun _ => rfl) ?_
        refine mm_T.s rfl rfl rfl (fun _ => rfl) ?_
        exact mm_T.ret rfl rfl rfl (⟨⟨_, rfl⟩, _, rfl⟩)
  · skip
    rintro _ _ ⟨x3, x4, -, hx, rfl, rfl⟩
    have hx := hx rfl
    subst hx
    refine mm_T.s rfl rfl rfl (fun _ => rfl) ?_
    refine mm_T.s rfl rfl rfl (fun _ => rfl) ?_
    refine mm_T.s rfl rfl rfl (fun _ => rfl) ?_
    exact mm_T.ret rfl rfl rfl (⟨⟨_, rfl⟩, _, rfl⟩)
/-- bit j of s is not set -/
abbrev x_nb0 (s j : Nat) : Prop := nI s &&& nI (2 ^ j) = 0
abbrev x_lh (s j0 j1 : Nat) : Prop := j0 < 8 ∧ j1 < 8 ∧ ¬ x_nb0 s j0 ∧ ¬ x_nb0 s j1 ∧ (∀ i, i < j0 → x_nb0 s i) ∧ (∀ i, i < 8 → j1 < i → x_nb0 s i) ∧ 2 ^ j0 + 2 ^ j1 < 256 ∧ 2 ^ j1 < s ∧ 2 ^ j0 < s
theorem x_lhT : ((List.range 256).all fun s => !(decide (x_sz8 (nI s) 8 = 3)) || ((List.range 8).any fun a => (List.range 8).any fun b => decide (x_lh s a b))) = true := by decide +kernel
theorem x_lh_ok {s : Nat} (hs : s < 256) (h3 : x_sz8 (nI s) 8 = 3) : ∃ j0 j1, x_lh s j0 j1 := by
  have h1 := List.all_eq_true.mp x_lhT s (List.mem_range.mpr hs)
  simp only [Bool.or_eq_true, Bool.not_eq_true', decide_eq_true_eq, decide_eq_false_iff_not, List.any_eq_true] at h1
  obtain ⟨a, _, b, _, h⟩ := h1.resolve_left (fun q => q h3)
  exact ⟨a, b, h⟩
theorem x_hf : ∀ j, j < 7 → nI (2 ^ (j + 1)) / 2 = nI (2 ^ j) := by decide
theorem x_db (j : Nat) : (2 : Int32) * nI (2 ^ j) = nI (2 ^ (j + 1)) := by
  rw [show (2 : Int32) = nI 2 from rfl, pk_mul, Nat.pow_succ, Nat.mul_comm]
theorem m_note {c : Nat → mm_C} {has ke f cy sp e1 e2 e3 : Nat → Int32} {ma wo dv : Nat → Int64} {ro co di tr : Int32} (hI : x_MI has) {n : Nat} (hn : n < 2) : mm_TC kM 111 [.ref 25, .int (nI n)] (kD c has ke f ma wo dv cy sp e1 e2 e3 ro co di tr) (fun v h => v = none ∧ ∃ a1 a2 a3, h = (kD c has ke f ma wo dv cy sp a1 a2 a3 ro co di (nI (x_mn has n 2 255)))) := by
  have m2 := hI n hn 2
  refine mm_TC.of (M := kq_111) rfl rfl ?_
  refine mm_T.s rfl rfl rfl (fun _ => rfl) ?_
  refine mm_T.s rfl rfl rfl (fun _ => rfl) ?_
  refine mm_T.pfi rfl rfl rfl rfl rfl rfl ?_
  refine mm_T.s rfl rfl rfl (fun _ => rfl) ?_
  refine mm_T.s rfl rfl rfl (fun _ => rfl) ?_
  refine mm_T.up (n := 255) (P := fun i L h => ∃ x2 y3 y4 a1 a2 a3 t1, x2 = nI (i + 1) ∧ t1 = nI (x_mn has n 2 i) ∧ L = [some (.ref 25), some (.int (nI n)), some (.int x2), y3, y4] ∧ h = (kD c has ke f ma wo dv cy sp a1 a2 a3 ro co di t1)) ?_ ?_ 0 (Nat.zero_le _) _ _ ⟨_, _, _, _, _, _, _, rfl, rfl, rfl, rfl⟩
  · skip
    rintro i _ _ hi ⟨x2, y3, y4, a1, a2, a3, t1, rfl, rfl, rfl, rfl⟩ K
    refine mm_T.s rfl rfl rfl (fun _ => rfl) ?_
    refine mm_T.s rfl rfl rfl (fun _ => rfl) ?_
    refine mm_T.s rfl rfl rfl (fun _ => if_neg (nI_ge (a := i + 1) (b := 256) (by omega) (by decide))) ?_
    refine mm_T.s rfl rfl rfl (fun _ => rfl) ?_
    refine mm_T.gf rfl rfl rfl rfl rfl ?_
    refine mm_T.s rfl rfl rfl (fun _ => rfl) ?_
    refine mm_T.s rfl rfl rfl (fun _ => rfl) ?_
    refine mm_T.s rfl rfl rfl (fun _ => rfl) ?_
    refine mm_T.s rfl rfl rfl (fun _ => rfl) ?_
    refine mm_T.s rfl rfl rfl (fun _ => rfl) ?_
    refine mm_T.ti _ (x_ix _ _) ?_
    refine mm_T.zaN rfl rfl rfl (by omega) (by decide) rfl ?_
    refine mm_T.cz rfl rfl (fun hb26 => ?_) (fun hb26 => ?_)
    · skip
      have e9 : nI (x_mn has n 2 i) = nI (x_mn has n 2 (i + 1)) := by rw [x_mn_n (fun q => q.1 hb26)]
      refine mm_T.s rfl rfl rfl (fun _ => rfl) ?_
      refine mm_T.s rfl rfl rfl (fun _ => rfl) ?_
      exact K _ _ ⟨_, _, _, _, _, _, _, nI_1 (i + 1), e9, rfl, rfl⟩
    · skip
      refine mm_T.s rfl rfl rfl (fun _ => rfl) ?_
      refine mm_T.ic rfl rfl rfl rfl rfl (x_size _) ?_
      refine mm_T.s rfl rfl rfl (fun _ => rfl) ?_
      refine mm_T.ci rfl rfl (fun hb34 => ?_) (fun hb34 => ?_)
      · skip
        have e9 : nI (x_mn has n 2 i) = nI (x_mn has n 2 (i + 1)) := by rw [x_mn_n (fun q => hb34 q.2)]
        refine mm_T.s rfl rfl rfl (fun _ => rfl) ?_
        refine mm_T.s rfl rfl rfl (fun _ => rfl) ?_
        exact K _ _ ⟨_, _, _, _, _, _, _, nI_1 (i + 1), e9, rfl, rfl⟩
      · skip
        have hcd : x_cd has n 2 (i + 1) := ⟨hb26, Classical.not_not.mp hb34⟩
        have e9 : nI (x_mn has n 2 i) + 1 = nI (x_mn has n 2 (i + 1)) := by rw [x_mn_y hcd, nI_1]
        have l9 := x_mn_lt (q := i + 1) (t := 255) (by omega) hcd (by omega)
        rw [Nat.add_sub_cancel] at l9
        obtain ⟨j0, j1, hl1, hl2, hl3, hl4, hl5, hl6, hl7, hl8, hl9⟩ := x_lh_ok (s := i + 1) (by omega) (Classical.not_not.mp hb34)
        have p0 : 0 < 2 ^ j0 := Nat.two_pow_pos _
        have p1 : 0 < 2 ^ j1 := Nat.two_pow_pos _
        refine mm_T.s rfl rfl rfl (fun _ => rfl) ?_
        refine mm_T.s rfl rfl rfl (fun _ => rfl) ?_
        refine mm_T.up (n := j0) (P := fun j L h => ∃ x3, x3 = nI (2 ^ j) ∧ L = [some (.ref 25), some (.int (nI n)), some (.int (nI (i + 1))), some (.int x3), y4] ∧ h = (kD c has ke f ma wo dv cy sp a1 a2 a3 ro co di (nI (x_mn has n 2 i)))) ?_ ?_ 0 (Nat.zero_le _) _ _ ⟨_, rfl, rfl, rfl⟩
        · skip
          rintro j _ _ hj ⟨x3, rfl, rfl, rfl⟩ K2
          refine mm_T.s rfl rfl rfl (fun _ => rfl) ?_
          refine mm_T.s rfl rfl rfl (fun _ => rfl) ?_
          refine mm_T.s rfl rfl rfl (fun _ => rfl) ?_
          refine mm_T.s rfl rfl rfl (fun _ => if_pos (hl5 j hj)) ?_
          refine mm_T.s rfl rfl rfl (fun _ => rfl) ?_
          refine mm_T.s rfl rfl rfl (fun _ => rfl) ?_
          refine mm_T.s rfl rfl rfl (fun _ => rfl) ?_
          refine mm_T.ti _ (x_db j) ?_
          refine mm_T.s rfl rfl rfl (fun _ => rfl) ?_
          refine mm_T.s rfl rfl rfl (fun _ => rfl) ?_
          exact K2 _ _ ⟨_, rfl, rfl, rfl⟩
        · skip
          rintro _ _ ⟨x3, rfl, rfl, rfl⟩
          refine mm_T.s rfl rfl rfl (fun _ => rfl) ?_
          refine mm_T.s rfl rfl rfl (fun _ => rfl) ?_
          refine mm_T.s rfl rfl rfl (fun _ => rfl) ?_
          refine mm_T.s rfl rfl rfl (fun _ => if_neg hl3) ?_
          refine mm_T.s rfl rfl rfl (fun _ => rfl) ?_
          refine mm_T.s rfl rfl rfl (fun _ => rfl) ?_
          refine mm_T.up (n := 7 - j1) (P := fun j L h => ∃ x4, x4 = nI (2 ^ (7 - j)) ∧ L = [some (.ref 25), some (.int (nI n)), some (.int (nI (i + 1))), some (.int (nI (2 ^ j0))), some (.int x4)] ∧ h = (kD c has ke f ma wo dv cy sp a1 a2 a3 ro co di (nI (x_mn has n 2 i)))) ?_ ?_ 0 (Nat.zero_le _) _ _ ⟨_, rfl, rfl, rfl⟩
          · skip
            rintro j _ _ hj ⟨x4, rfl, rfl, rfl⟩ K3
            have e7 : nI (2 ^ (7 - j)) / 2 = nI (2 ^ (7 - (j + 1))) := by
              have e : 7 - j = 7 - (j + 1) + 1 := by omega
              rw [e]
              exact x_hf _ (by omega)
            refine mm_T.s rfl rfl rfl (fun _ => rfl) ?_
            refine mm_T.s rfl rfl rfl (fun _ => rfl) ?_
            refine mm_T.s rfl rfl rfl (fun _ => rfl) ?_
            refine mm_T.s rfl rfl rfl (fun _ => if_pos (hl6 (7 - j) (by omega) (by omega))) ?_
            refine mm_T.s rfl rfl rfl (fun _ => rfl) ?_
            refine mm_T.s rfl rfl rfl (fun _ => rfl) ?_
            refine mm_T.s rfl rfl rfl (fun _ => rfl) ?_
            refine mm_T.s rfl rfl rfl (fun _ => rfl) ?_
            refine mm_T.s rfl rfl rfl (fun _ => rfl) ?_
            exact K3 _ _ ⟨_, e7, rfl, rfl⟩
          · skip
            rw [show 7 - (7 - j1) = j1 by omega]
            rintro _ _ ⟨x4, rfl, rfl, rfl⟩
            refine mm_T.s rfl rfl rfl (fun _ => rfl) ?_
            refine mm_T.s rfl rfl rfl (fun _ => rfl) ?_
            refine mm_T.s rfl rfl rfl (fun _ => rfl) ?_
            refine mm_T.s rfl rfl rfl (fun _ => if_neg hl4) ?_
            refine mm_T.s rfl rfl rfl (fun _ => rfl) ?_
            refine mm_T.gf rfl rfl rfl rfl rfl ?_
            refine mm_T.s rfl rfl rfl (fun _ => rfl) ?_
            refine mm_T.gf rfl rfl rfl rfl rfl ?_
            refine mm_T.s rfl rfl rfl (fun _ => rfl) ?_
            refine mm_T.s rfl rfl rfl (fun _ => rfl) ?_
            refine mm_T.s rfl rfl rfl (fun _ => rfl) ?_
            refine mm_T.s rfl rfl rfl (fun _ => rfl) ?_
            refine mm_T.s rfl rfl rfl (fun _ => rfl) ?_
            refine mm_T.ti _ (x_nsub (by omega)) ?_
            refine mm_T.iv rfl rfl rfl rfl rfl rfl (g_num rfl rfl hn (by omega) (by omega)) ?_
            refine mm_T.isN rfl rfl rfl (by omega) (by decide) rfl ?_
            refine mm_T.s rfl rfl rfl (fun _ => rfl) ?_
            refine mm_T.gf rfl rfl rfl rfl rfl ?_
            refine mm_T.s rfl rfl rfl (fun _ => rfl) ?_
            refine mm_T.gf rfl rfl rfl rfl rfl ?_
            refine mm_T.s rfl rfl rfl (fun _ => rfl) ?_
            refine mm_T.s rfl rfl rfl (fun _ => rfl) ?_
            refine mm_T.s rfl rfl rfl (fun _ => rfl) ?_
            refine mm_T.s rfl rfl rfl (fun _ => rfl) ?_
            refine mm_T.s rfl rfl rfl (fun _ => rfl) ?_
            refine mm_T.ti _ (x_nsub (by omega)) ?_
            refine mm_T.iv rfl rfl rfl rfl rfl rfl (g_num rfl rfl hn (by omega) (by omega)) ?_
            refine mm_T.isN rfl rfl rfl (by omega) (by decide) rfl ?_
            refine mm_T.s rfl rfl rfl (fun _ => rfl) ?_
            refine mm_T.gf rfl rfl rfl rfl rfl ?_
            refine mm_T.s rfl rfl rfl (fun _ => rfl) ?_
            refine mm_T.gf rfl rfl rfl rfl rfl ?_
            refine mm_T.s rfl rfl rfl (fun _ => rfl) ?_
            refine mm_T.s rfl rfl rfl (fun _ => rfl) ?_
            refine mm_T.s rfl rfl rfl (fun _ => rfl) ?_
            refine mm_T.s rfl rfl rfl (fun _ => rfl) ?_
            refine mm_T.s rfl rfl rfl (fun _ => rfl) ?_
            refine mm_T.ti _ (nI_add _ _) ?_
            refine mm_T.iv rfl rfl rfl rfl rfl rfl (g_num rfl rfl hn (by omega) (by omega)) ?_
            refine mm_T.isN rfl rfl rfl (by omega) (by decide) rfl ?_
            refine mm_T.s rfl rfl rfl (fun _ => rfl) ?_
            refine mm_T.s rfl rfl rfl (fun _ => rfl) ?_
            refine mm_T.gf rfl rfl rfl rfl rfl ?_
            refine mm_T.s rfl rfl rfl (fun _ => rfl) ?_
            refine mm_T.s rfl rfl rfl (fun _ => rfl) ?_
            refine mm_T.pfi rfl rfl rfl rfl rfl rfl ?_
            refine mm_T.s rfl rfl rfl (fun _ => rfl) ?_
            refine mm_T.s rfl rfl rfl (fun _ => rfl) ?_
            exact K _ _ ⟨_, _, _, _, _, _, _, nI_1 (i + 1), e9, rfl, rfl⟩
  · skip
    rintro _ _ ⟨x2, y3, y4, a1, a2, a3, t1, rfl, rfl, rfl, rfl⟩
    refine mm_T.s rfl rfl rfl (fun _ => rfl) ?_
    refine mm_T.s rfl rfl rfl (fun _ => rfl) ?_
    refine mm_T.s rfl rfl rfl (fun _ => rfl) ?_
    exact mm_T.ret rfl rfl rfl (⟨rfl, _, _, _, rfl⟩)
theorem m_cob {c : Nat → mm_C} {has ke f cy sp e1 e2 e3 : Nat → Int32} {ma wo dv : Nat → Int64} {ro co di : Int32} {tn : Nat} (ht : tn ≤ 24) (x : Int32) : mm_TC kM 112 [.ref 25, .int x] (kD c has ke f ma wo dv cy sp e1 e2 e3 ro co di (nI tn)) (fun v h => (∃ x, v = some (.int x)) ∧ h = (kD c has ke f ma wo dv cy sp e1 e2 e3 ro co di (nI tn))) := by
  refine mm_TC.of (M := kq_112) rfl rfl ?_
  refine mm_T.s rfl rfl rfl (fun _ => rfl) ?_
  refine mm_T.s rfl rfl rfl (fun _ => rfl) ?_
  refine mm_T.s rfl rfl rfl (fun _ => rfl) ?_
  refine mm_T.s rfl rfl rfl (fun _ => rfl) ?_
  refine mm_T.up (n := tn) (P := fun i L h => ∃ x2 x3 y4, x3 = nI i ∧ L = [some (.ref 25), some (.int x), some (.int x2), some (.int x3), y4] ∧ h = (kD c has ke f ma wo dv cy sp e1 e2 e3 ro co di (nI tn))) ?_ ?_ 0 (Nat.zero_le _) _ _ ⟨_, _, _, rfl, rfl, rfl⟩
  · skip
    rintro i _ _ hi ⟨x2, x3, y4, rfl, rfl, rfl⟩ K
    refine mm_T.s rfl rfl rfl (fun _ => rfl) ?_
    refine mm_T.s rfl rfl rfl (fun _ => rfl) ?_
    refine mm_T.gf rfl rfl rfl rfl rfl ?_
    refine mm_T.s rfl rfl rfl (fun _ => if_neg (nI_ge hi (by omega))) ?_
    refine mm_T.s rfl rfl rfl (fun _ => rfl) ?_
    refine mm_T.s rfl rfl rfl (fun _ => rfl) ?_
    refine mm_T.gf rfl rfl rfl rfl rfl ?_
    refine mm_T.s rfl rfl rfl (fun _ => rfl) ?_
    refine mm_T.iaN rfl rfl rfl (by omega) (by decide) rfl ?_
    refine mm_T.s rfl rfl rfl (fun _ => rfl) ?_
    refine mm_T.s rfl rfl rfl (fun _ => rfl) ?_
    refine mm_T.s rfl rfl rfl (fun _ => rfl) ?_
    refine mm_T.gf rfl rfl rfl rfl rfl ?_
    refine mm_T.s rfl rfl rfl (fun _ => rfl) ?_
    refine mm_T.iaN rfl rfl rfl (by omega) (by decide) rfl ?_
    refine mm_T.s rfl rfl rfl (fun _ => rfl) ?_
    refine mm_T.s rfl rfl rfl (fun _ => rfl) ?_
    refine mm_T.s rfl rfl rfl (fun _ => rfl) ?_
    refine mm_T.s rfl rfl rfl (fun _ => rfl) ?_
    refine mm_T.gf rfl rfl rfl rfl rfl ?_
    refine mm_T.s rfl rfl rfl (fun _ => rfl) ?_
    refine mm_T.iaN rfl rfl rfl (by omega) (by decide) rfl ?_
    refine mm_T.s rfl rfl rfl (fun _ => rfl) ?_
    refine mm_T.s rfl rfl rfl (fun _ => rfl) ?_
    refine mm_T.s rfl rfl rfl (fun _ => rfl) ?_
    refine mm_T.s rfl rfl rfl (fun _ => rfl) ?_
    refine mm_T.s rfl rfl rfl (fun _ => rfl) ?_
    refine mm_T.s rfl rfl rfl (fun _ => rfl) ?_
    refine mm_T.s rfl rfl rfl (fun _ => rfl) ?_
    refine mm_T.s rfl rfl rfl (fun _ => rfl) ?_
    refine mm_T.s rfl rfl rfl (fun _ => rfl) ?_
    refine mm_T.s rfl rfl rfl (fun _ => rfl) ?_
    refine mm_T.s rfl rfl rfl (fun _ => rfl) ?_
    refine mm_T.s rfl rfl rfl (fun _ => rfl) ?_
    refine mm_T.s rfl rfl rfl (fun _ => rfl) ?_
    exact K _ _ ⟨_, _, _, nI_1 i, rfl, rfl⟩
  · skip
    rintro _ _ ⟨x2, x3, y4, rfl, rfl, rfl⟩
    refine mm_T.s rfl rfl rfl (fun _ => rfl) ?_
    refine mm_T.s rfl rfl rfl (fun _ => rfl) ?_
    refine mm_T.gf rfl rfl rfl rfl rfl ?_
    refine mm_T.s rfl rfl rfl (fun _ => if_pos (nI_le (Nat.le_refl _) (by omega))) ?_
    refine mm_T.s rfl rfl rfl (fun _ => rfl) ?_
    exact mm_T.ret rfl rfl rfl (⟨⟨_, rfl⟩, rfl⟩)
theorem m_prod {c : Nat → mm_C} {has ke f cy sp e1 e2 e3 : Nat → Int32} {ma wo dv : Nat → Int64} {ro co di : Int32} {tn : Nat} (ht : tn ≤ 24) (x y : Int32) : mm_TC kM 114 [.ref 25, .int x, .int y] (kD c has ke f ma wo dv cy sp e1 e2 e3 ro co di (nI tn)) (fun v h => (∃ x, v = some (.int x)) ∧ h = (kD c has ke f ma wo dv cy sp e1 e2 e3 ro co di (nI tn))) := by
  refine mm_TC.of (M := kq_114) rfl rfl ?_
  refine mm_T.s rfl rfl rfl (fun _ => rfl) ?_
  refine mm_T.s rfl rfl rfl (fun _ => rfl) ?_
  refine mm_T.s rfl rfl rfl (fun _ => rfl) ?_
  refine mm_T.s rfl rfl rfl (fun _ => rfl) ?_
  refine mm_T.up (n := tn) (P := fun i L h => ∃ x3 x4, x4 = nI i ∧ L = [some (.ref 25), some (.int x), some (.int y), some (.int x3), some (.int x4)] ∧ h = (kD c has ke f ma wo dv cy sp e1 e2 e3 ro co di (nI tn))) ?_ ?_ 0 (Nat.zero_le _) _ _ ⟨_, _, rfl, rfl, rfl⟩
  · skip
    rintro i _ _ hi ⟨x3, x4, rfl, rfl, rfl⟩ K
    refine mm_T.s rfl rfl rfl (fun _ => rfl) ?_
    refine mm_T.s rfl rfl rfl (fun _ => rfl) ?_
    refine mm_T.gf rfl rfl rfl rfl rfl ?_
    refine mm_T.s rfl rfl rfl (fun _ => if_neg (nI_ge hi (by omega))) ?_
    refine mm_T.s rfl rfl rfl (fun _ => rfl) ?_
    refine mm_T.s rfl rfl rfl (fun _ => rfl) ?_
    refine mm_T.s rfl rfl rfl (fun _ => rfl) ?_
    refine mm_T.gf rfl rfl rfl rfl rfl ?_
    refine mm_T.s rfl rfl rfl (fun _ => rfl) ?_
    refine mm_T.iaN rfl rfl rfl (by omega) (by decide) rfl ?_
    refine mm_T.s rfl rfl rfl (fun _ => rfl) ?_
    refine mm_T.s rfl rfl rfl (fun _ => rfl) ?_
    refine mm_T.s rfl rfl rfl (fun _ => rfl) ?_
    refine mm_T.gf rfl rfl rfl rfl rfl ?_
    refine mm_T.s rfl rfl rfl (fun _ => rfl) ?_
    refine mm_T.iaN rfl rfl rfl (by omega) (by decide) rfl ?_
    refine mm_T.s rfl rfl rfl (fun _ => rfl) ?_
    refine mm_T.s rfl rfl rfl (fun _ => rfl) ?_
    refine mm_T.s rfl rfl rfl (fun _ => rfl) ?_
    refine mm_T.s rfl rfl rfl (fun _ => rfl) ?_
    refine mm_T.s rfl rfl rfl (fun _ => rfl) ?_
    refine mm_T.s rfl rfl rfl (fun _ => rfl) ?_
    refine mm_T.s rfl rfl rfl (fun _ => rfl) ?_
    refine mm_T.s rfl rfl rfl (fun _ => rfl) ?_
    refine mm_T.s rfl rfl rfl (fun _ => rfl) ?_
    refine mm_T.s rfl rfl rfl (fun _ => rfl) ?_
    exact K _ _ ⟨_, _, nI_1 i, rfl, rfl⟩
  · skip
    rintro _ _ ⟨x3, x4, rfl, rfl, rfl⟩
    refine mm_T.s rfl rfl rfl (fun _ => rfl) ?_
    refine mm_T.s rfl rfl rfl (fun _ => rfl) ?_
    refine mm_T.gf rfl rfl rfl rfl rfl ?_
    refine mm_T.s rfl rfl rfl (fun _ => if_pos (nI_le (Nat.le_refl _) (by omega))) ?_
    refine mm_T.s rfl rfl rfl (fun _ => rfl) ?_
    exact mm_T.ret rfl rfl rfl (⟨⟨_, rfl⟩, rfl⟩)
theorem m_coc {c : Nat → mm_C} {has ke f cy sp e1 e2 e3 : Nat → Int32} {ma wo dv : Nat → Int64} {ro co di : Int32} {tn : Nat} (ht : tn ≤ 24) {n : Nat} (hn : n ≤ 24) : mm_TC kM 113 [.ref 25, .int (nI n)] (kD c has ke f ma wo dv cy sp e1 e2 e3 ro co di (nI tn)) (fun v h => (∃ l, l ≤ n ∧ v = some (.int (nI l))) ∧ ∃ cy1, h = (kD c has ke f ma wo dv cy1 sp e1 e2 e3 ro co di (nI tn))) := by
  refine mm_TC.of (M := kq_113) rfl rfl ?_
  refine mm_T.s rfl rfl rfl (fun _ => rfl) ?_
  refine mm_T.s rfl rfl rfl (fun _ => rfl) ?_
  refine mm_T.up (n := n) (P := fun i L h => ∃ x2 cy1, x2 = nI i ∧ L = [some (.ref 25), some (.int (nI n)), some (.int x2), none, none, none, none] ∧ h = (kD c has ke f ma wo dv cy1 sp e1 e2 e3 ro co di (nI tn))) ?_ ?_ 0 (Nat.zero_le _) _ _ ⟨_, _, rfl, rfl, rfl⟩
  · skip
    rintro i _ _ hi ⟨x2, cy1, rfl, rfl, rfl⟩ K
    refine mm_T.s rfl rfl rfl (fun _ => rfl) ?_
    refine mm_T.s rfl rfl rfl (fun _ => rfl) ?_
    refine mm_T.s rfl rfl rfl (fun _ => if_neg (nI_ge hi (by omega))) ?_
    refine mm_T.s rfl rfl rfl (fun _ => rfl) ?_
    refine mm_T.gf rfl rfl rfl rfl rfl ?_
    refine mm_T.s rfl rfl rfl (fun _ => rfl) ?_
    refine mm_T.s rfl rfl rfl (fun _ => rfl) ?_
    refine mm_T.s rfl rfl rfl (fun _ => rfl) ?_
    refine mm_T.s rfl rfl rfl (fun _ => rfl) ?_
    refine mm_T.isN rfl rfl rfl (by omega) (by decide) rfl ?_
    refine mm_T.s rfl rfl rfl (fun _ => rfl) ?_
    refine mm_T.s rfl rfl rfl (fun _ => rfl) ?_
    exact K _ _ ⟨_, _, nI_1 i, rfl, rfl⟩
  · skip
    rintro _ _ ⟨x2, cy1, rfl, rfl, rfl⟩
    refine mm_T.s rfl rfl rfl (fun _ => rfl) ?_
    refine mm_T.s rfl rfl rfl (fun _ => rfl) ?_
    refine mm_T.s rfl rfl rfl (fun _ => if_pos (nI_le (Nat.le_refl _) (by omega))) ?_
    refine mm_T.s rfl rfl rfl (fun _ => rfl) ?_
    refine mm_T.s rfl rfl rfl (fun _ => rfl) ?_
    refine mm_T.s rfl rfl rfl (fun _ => rfl) ?_
    refine mm_T.s rfl rfl rfl (fun _ => rfl) ?_
    refine mm_T.up (n := tn) (P := fun i L h => ∃ l x2 x3 y4 y5 y6 cy1, l ≤ n ∧ x2 = nI l ∧ x3 = nI i ∧ L = [some (.ref 25), some (.int (nI n)), some (.int x2), some (.int x3), y4, y5, y6] ∧ h = (kD c has ke f ma wo dv cy1 sp e1 e2 e3 ro co di (nI tn))) ?_ ?_ 0 (Nat.zero_le _) _ _ ⟨n, _, _, _, _, _, _, Nat.le_refl _, rfl, rfl, rfl, rfl⟩
    · skip
      rintro i0 _ _ hi0 ⟨l, x2, x3, y4, y5, y6, cy1, hl, rfl, rfl, rfl, rfl⟩ K
      refine mm_T.s rfl rfl rfl (fun _ => rfl) ?_
      refine mm_T.s rfl rfl rfl (fun _ => rfl) ?_
      refine mm_T.gf rfl rfl rfl rfl rfl ?_
      refine mm_T.s rfl rfl rfl (fun _ => if_neg (nI_ge hi0 (by omega))) ?_
      refine mm_T.s rfl rfl rfl (fun _ => rfl) ?_
      refine mm_T.s rfl rfl rfl (fun _ => rfl) ?_
      refine mm_T.s rfl rfl rfl (fun _ => rfl) ?_
      refine mm_T.s rfl rfl rfl (fun _ => rfl) ?_
      refine mm_T.up (n := l) (P := fun i L h => ∃ x4 x5 y6 cy2, x5 = nI i ∧ (x4 = -1 ∨ ∃ j, j < i ∧ x4 = nI j) ∧ L = [some (.ref 25), some (.int (nI n)), some (.int (nI l)), some (.int (nI i0)), some (.int x4), some (.int x5), y6] ∧ h = (kD c has ke f ma wo dv cy2 sp e1 e2 e3 ro co di (nI tn))) ?_ ?_ 0 (Nat.zero_le _) _ _ ⟨_, _, _, _, rfl, Or.inl rfl, rfl, rfl⟩
      · skip
        rintro i _ _ hi ⟨x4, x5, y6, cy2, rfl, hx4, rfl, rfl⟩ K2
        rcases hx4 with rfl | ⟨j, hj, rfl⟩
        · skip
          refine mm_T.s rfl rfl rfl (fun _ => rfl) ?_
          refine mm_T.s rfl rfl rfl (fun _ => rfl) ?_
          refine mm_T.s rfl rfl rfl (fun _ => if_neg (nI_ge hi (by omega))) ?_
          refine mm_T.s rfl rfl rfl (fun _ => rfl) ?_
          refine mm_T.s rfl rfl rfl (fun _ => rfl) ?_
          refine mm_T.gf rfl rfl rfl rfl rfl ?_
          refine mm_T.s rfl rfl rfl (fun _ => rfl) ?_
          refine mm_T.iaN rfl rfl rfl (by omega) (by decide) rfl ?_
          refine mm_T.ivw rfl rfl rfl rfl rfl rfl (m_cob ht _) ?_
          rintro _ _ ⟨⟨xx, rfl⟩, rfl⟩
          refine mm_T.s rfl rfl rfl (fun _ => rfl) ?_
          refine mm_T.s rfl rfl rfl (fun _ => rfl) ?_
          refine mm_T.s rfl rfl rfl (fun _ => rfl) ?_
          refine mm_T.s rfl rfl rfl (fun _ => rfl) ?_
          refine mm_T.s rfl rfl rfl (fun _ => rfl) ?_
          refine mm_T.ci rfl rfl (fun hb62 => ?_) (fun hb62 => ?_)
          · skip
            refine mm_T.s rfl rfl rfl (fun _ => rfl) ?_
            refine mm_T.s rfl rfl rfl (fun _ => rfl) ?_
            refine mm_T.s rfl rfl rfl (fun _ => rfl) ?_
            refine mm_T.s rfl rfl rfl (fun _ => rfl) ?_
            refine mm_T.s rfl rfl rfl (fun _ => rfl) ?_
            refine mm_T.s rfl rfl rfl (fun _ => rfl) ?_
            refine mm_T.s rfl rfl rfl (fun _ => rfl) ?_
            refine mm_T.s rfl rfl rfl (fun _ => rfl) ?_
            refine mm_T.s rfl rfl rfl (fun _ => rfl) ?_
            refine mm_T.s rfl rfl rfl (fun _ => rfl) ?_
            exact K2 _ _ ⟨_, _, _, _, nI_1 i, Or.inl rfl, rfl, rfl⟩
          · skip
            refine mm_T.s rfl rfl rfl (fun _ => rfl) ?_
            refine mm_T.s rfl rfl rfl (fun _ => rfl) ?_
            refine mm_T.s rfl rfl rfl (fun _ => rfl) ?_
            refine mm_T.s rfl rfl rfl (fun _ => rfl) ?_
            refine mm_T.s rfl rfl rfl (fun _ => rfl) ?_
            refine mm_T.s rfl rfl rfl (fun _ => rfl) ?_
            refine mm_T.s rfl rfl rfl (fun _ => rfl) ?_
            refine mm_T.s rfl rfl rfl (fun _ => rfl) ?_
            refine mm_T.s rfl rfl rfl (fun _ => rfl) ?_
            refine mm_T.s rfl rfl rfl (fun _ => rfl) ?_
            refine mm_T.s rfl rfl rfl (fun _ => rfl) ?_
            refine mm_T.s rfl rfl rfl (fun _ => rfl) ?_
            refine mm_T.s rfl rfl rfl (fun _ => rfl) ?_
            refine mm_T.s rfl rfl rfl (fun _ => rfl) ?_
            refine mm_T.s rfl rfl rfl (fun _ => rfl) ?_
            refine mm_T.s rfl rfl rfl (fun _ => rfl) ?_
            exact K2 _ _ ⟨_, _, _, _, nI_1 i, Or.inr ⟨i, by omega, rfl⟩, rfl, rfl⟩
        · skip
          refine mm_T.s rfl rfl rfl (fun _ => rfl) ?_
          refine mm_T.s rfl rfl rfl (fun _ => rfl) ?_
          refine mm_T.s rfl rfl rfl (fun _ => if_neg (nI_ge hi (by omega))) ?_
          refine mm_T.s rfl rfl rfl (fun _ => rfl) ?_
          refine mm_T.s rfl rfl rfl (fun _ => rfl) ?_
          refine mm_T.gf rfl rfl rfl rfl rfl ?_
          refine mm_T.s rfl rfl rfl (fun _ => rfl) ?_
          refine mm_T.iaN rfl rfl rfl (by omega) (by decide) rfl ?_
          refine mm_T.ivw rfl rfl rfl rfl rfl rfl (m_cob ht _) ?_
          rintro _ _ ⟨⟨xx, rfl⟩, rfl⟩
          refine mm_T.s rfl rfl rfl (fun _ => rfl) ?_
          refine mm_T.s rfl rfl rfl (fun _ => rfl) ?_
          refine mm_T.s rfl rfl rfl (fun _ => rfl) ?_
          refine mm_T.s rfl rfl rfl (fun _ => rfl) ?_
          refine mm_T.s rfl rfl rfl (fun _ => rfl) ?_
          refine mm_T.ci rfl rfl (fun hb62 => ?_) (fun hb62 => ?_)
          · skip
            refine mm_T.s rfl rfl rfl (fun _ => rfl) ?_
            refine mm_T.s rfl rfl rfl (fun _ => rfl) ?_
            refine mm_T.s rfl rfl rfl (fun _ => rfl) ?_
            refine mm_T.s rfl rfl rfl (fun _ => rfl) ?_
            refine mm_T.s rfl rfl rfl (fun _ => rfl) ?_
            refine mm_T.s rfl rfl rfl (fun _ => rfl) ?_
            refine mm_T.s rfl rfl rfl (fun _ => rfl) ?_
            refine mm_T.s rfl rfl rfl (fun _ => rfl) ?_
            refine mm_T.s rfl rfl rfl (fun _ => rfl) ?_
            refine mm_T.s rfl rfl rfl (fun _ => rfl) ?_
            exact K2 _ _ ⟨_, _, _, _, nI_1 i, Or.inr ⟨j, by omega, rfl⟩, rfl, rfl⟩
          · skip
            refine mm_T.s rfl rfl rfl (fun _ => rfl) ?_
            refine mm_T.s rfl rfl rfl (fun _ => rfl) ?_
            refine mm_T.s rfl rfl rfl (fun _ => rfl) ?_
            refine mm_T.s rfl rfl rfl (fun _ => rfl) ?_
            refine mm_T.s rfl rfl rfl (fun _ => rfl) ?_
            refine mm_T.s rfl rfl rfl (fun _ => rfl) ?_
            refine mm_T.s rfl rfl rfl (fun _ => if_neg (nI_pos (by omega))) ?_
            refine mm_T.s rfl rfl rfl (fun _ => rfl) ?_
            refine mm_T.gf rfl rfl rfl rfl rfl ?_
            refine mm_T.s rfl rfl rfl (fun _ => rfl) ?_
            refine mm_T.s rfl rfl rfl (fun _ => rfl) ?_
            refine mm_T.gf rfl rfl rfl rfl rfl ?_
            refine mm_T.s rfl rfl rfl (fun _ => rfl) ?_
            refine mm_T.iaN rfl rfl rfl (by omega) (by decide) rfl ?_
            refine mm_T.s rfl rfl rfl (fun _ => rfl) ?_
            refine mm_T.gf rfl rfl rfl rfl rfl ?_
            refine mm_T.s rfl rfl rfl (fun _ => rfl) ?_
            refine mm_T.iaN rfl rfl rfl (by omega) (by decide) rfl ?_
            refine mm_T.s rfl rfl rfl (fun _ => rfl) ?_
            refine mm_T.isN rfl rfl rfl (by omega) (by decide) rfl ?_
            refine mm_T.s rfl rfl rfl (fun _ => rfl) ?_
            refine mm_T.s rfl rfl rfl (fun _ => rfl) ?_
            refine mm_T.s rfl rfl rfl (fun _ => rfl) ?_
            refine mm_T.s rfl rfl rfl (fun _ => if_pos (nI_le (a := 0) (Nat.zero_le _) (by omega))) ?_
            refine mm_T.s rfl rfl rfl (fun _ => rfl) ?_
            refine mm_T.s rfl rfl rfl (fun _ => rfl) ?_
            refine mm_T.s rfl rfl rfl (fun _ => rfl) ?_
            refine mm_T.s rfl rfl rfl (fun _ => rfl) ?_
            exact K2 _ _ ⟨_, _, _, _, nI_1 i, Or.inr ⟨j, by omega, rfl⟩, rfl, rfl⟩
      · skip
        rintro _ _ ⟨x4, x5, y6, cy2, rfl, hx4, rfl, rfl⟩
        rcases hx4 with rfl | ⟨j, hj, rfl⟩
        · skip
          refine mm_T.s rfl rfl rfl (fun _ => rfl) ?_
          refine mm_T.s rfl rfl rfl (fun _ => rfl) ?_
          refine mm_T.s rfl rfl rfl (fun _ => if_pos (nI_le (Nat.le_refl _) (by omega))) ?_
          refine mm_T.s rfl rfl rfl (fun _ => rfl) ?_
          refine mm_T.s rfl rfl rfl (fun _ => rfl) ?_
          refine mm_T.s rfl rfl rfl (fun _ => rfl) ?_
          refine mm_T.s rfl rfl rfl (fun _ => rfl) ?_
          exact K _ _ ⟨l, _, _, _, _, _, _, hl, rfl, nI_1 i0, rfl, rfl⟩
        · obtain ⟨l2, rfl⟩ : ∃ l2, l = l2 + 1 := ⟨l - 1, by omega⟩
          refine mm_T.s rfl rfl rfl (fun _ => rfl) ?_
          refine mm_T.s rfl rfl rfl (fun _ => rfl) ?_
          refine mm_T.s rfl rfl rfl (fun _ => if_pos (nI_le (Nat.le_refl _) (by omega))) ?_
          refine mm_T.s rfl rfl rfl (fun _ => rfl) ?_
          refine mm_T.s rfl rfl rfl (fun _ => if_neg (nI_pos (by omega))) ?_
          refine mm_T.s rfl rfl rfl (fun _ => rfl) ?_
          refine mm_T.lc (L' := [some (.ref 25), some (.int (nI n)), some (.int (nI l2)), some (.int (nI i0)), some (.int (nI j)), some (.int (nI (l2 + 1))), y6]) (by rw [← x_dnw l2]) ?_
          refine mm_T.s rfl rfl rfl (fun _ => rfl) ?_
          refine mm_T.gf rfl rfl rfl rfl rfl ?_
          refine mm_T.s rfl rfl rfl (fun _ => rfl) ?_
          refine mm_T.s rfl rfl rfl (fun _ => rfl) ?_
          refine mm_T.gf rfl rfl rfl rfl rfl ?_
          refine mm_T.s rfl rfl rfl (fun _ => rfl) ?_
          refine mm_T.iaN rfl rfl rfl (by omega) (by decide) rfl ?_
          refine mm_T.isN rfl rfl rfl (by omega) (by decide) rfl ?_
          refine mm_T.s rfl rfl rfl (fun _ => rfl) ?_
          refine mm_T.s rfl rfl rfl (fun _ => rfl) ?_
          exact K _ _ ⟨l2, _, _, _, _, _, _, by omega, rfl, nI_1 i0, rfl, rfl⟩
    · skip
      rintro _ _ ⟨l, x2, x3, y4, y5, y6, cy1, hl, rfl, rfl, rfl, rfl⟩
      refine mm_T.s rfl rfl rfl (fun _ => rfl) ?_
      refine mm_T.s rfl rfl rfl (fun _ => rfl) ?_
      refine mm_T.gf rfl rfl rfl rfl rfl ?_
      refine mm_T.s rfl rfl rfl (fun _ => if_pos (nI_le (Nat.le_refl _) (by omega))) ?_
      refine mm_T.s rfl rfl rfl (fun _ => rfl) ?_
      exact mm_T.ret rfl rfl rfl (⟨⟨l, hl, rfl⟩, _, rfl⟩)
theorem m_products {c : Nat → mm_C} {has ke f cy sp e1 e2 e3 : Nat → Int32} {ma wo dv : Nat → Int64} {ro co di tr : Int32} (hI : x_MI has) (b : Int32) : mm_TC kM 115 [.ref 25, .int b] (kD c has ke f ma wo dv cy sp e1 e2 e3 ro co di tr) (fun v h => (∃ x, v = some (.int x)) ∧ x_GM c has ke f h) := by
  refine mm_TC.of (M := kq_115) rfl rfl ?_
  by_cases hb : b = 0 ∨ b = 1
  · obtain ⟨n, hn, rfl⟩ := x_01 hb
    have m1 := hI n hn 1
    have m2 := hI n hn 2
    refine mm_T.s rfl rfl rfl (fun _ => rfl) ?_
    refine mm_T.ic rfl rfl rfl rfl rfl (x_isC1 hb) ?_
    refine mm_T.s rfl rfl rfl (fun _ => rfl) ?_
    refine mm_T.s rfl rfl rfl (fun _ => rfl) ?_
    refine mm_T.s rfl rfl rfl (fun _ => rfl) ?_
    refine mm_T.up (n := 24) (P := fun i L h => ∃ x2 sp1, x2 = nI i ∧ L = [some (.ref 25), some (.int (nI n)), some (.int x2), none, none, none, none, none] ∧ h = (kD c has ke f ma wo dv cy sp1 e1 e2 e3 ro co di tr)) ?_ ?_ 0 (Nat.zero_le _) _ _ ⟨_, _, rfl, rfl, rfl⟩
    · skip
      rintro i _ _ hi ⟨x2, sp1, rfl, rfl, rfl⟩ K
      refine mm_T.s rfl rfl rfl (fun _ => rfl) ?_
      refine mm_T.s rfl rfl rfl (fun _ => rfl) ?_
      refine mm_T.s rfl rfl rfl (fun _ => if_neg (nI_ge (b := 24) hi (by decide))) ?_
      refine mm_T.s rfl rfl rfl (fun _ => rfl) ?_
      refine mm_T.gf rfl rfl rfl rfl rfl ?_
      refine mm_T.s rfl rfl rfl (fun _ => rfl) ?_
      refine mm_T.s rfl rfl rfl (fun _ => rfl) ?_
      refine mm_T.isN rfl rfl rfl (by omega) (by decide) rfl ?_
      refine mm_T.s rfl rfl rfl (fun _ => rfl) ?_
      refine mm_T.s rfl rfl rfl (fun _ => rfl) ?_
      exact K _ _ ⟨_, _, nI_1 i, rfl, rfl⟩
    · skip
      rintro _ _ ⟨x2, sp1, rfl, rfl, rfl⟩
      refine mm_T.s rfl rfl rfl (fun _ => rfl) ?_
      refine mm_T.s rfl rfl rfl (fun _ => rfl) ?_
      refine mm_T.s rfl rfl rfl (fun _ => rfl) ?_
      refine mm_T.s rfl rfl rfl (fun _ => rfl) ?_
      refine mm_T.s rfl rfl rfl (fun _ => rfl) ?_
      refine mm_T.ivw rfl rfl rfl rfl rfl rfl (m_note hI hn) ?_
      rintro _ _ ⟨rfl, a1, a2, a3, rfl⟩
      refine mm_T.s rfl rfl rfl (fun _ => rfl) ?_
      refine mm_T.s rfl rfl rfl (fun _ => rfl) ?_
      refine mm_T.s rfl rfl rfl (fun _ => rfl) ?_
      refine mm_T.s rfl rfl rfl (fun _ => rfl) ?_
      refine mm_T.s rfl rfl rfl (fun _ => rfl) ?_
      refine mm_T.iv rfl rfl rfl rfl rfl rfl (g_many rfl rfl hn 1) ?_
      refine mm_T.s rfl rfl rfl (fun _ => rfl) ?_
      refine mm_T.s rfl rfl rfl (fun _ => rfl) ?_
      refine mm_T.s rfl rfl rfl (fun _ => rfl) ?_
      refine mm_T.up (n := (x_mn has n 1 255)) (P := fun i L h => ∃ x2 x4 sp1, x4 = nI i ∧ L = [some (.ref 25), some (.int (nI n)), some (.int x2), some (.int (nI (x_mn has n 1 255))), some (.int x4), none, none, none] ∧ h = (kD c has ke f ma wo dv cy sp1 a1 a2 a3 ro co di (nI (x_mn has n 2 255)))) ?_ ?_ 0 (Nat.zero_le _) _ _ ⟨_, _, _, rfl, rfl, rfl⟩
      · skip
        rintro i _ _ hi ⟨x2, x4, sp1, rfl, rfl, rfl⟩ K
        refine mm_T.s rfl rfl rfl (fun _ => rfl) ?_
        refine mm_T.s rfl rfl rfl (fun _ => rfl) ?_
        refine mm_T.s rfl rfl rfl (fun _ => if_neg (nI_ge hi (by omega))) ?_
        refine mm_T.s rfl rfl rfl (fun _ => rfl) ?_
        refine mm_T.s rfl rfl rfl (fun _ => rfl) ?_
        refine mm_T.s rfl rfl rfl (fun _ => rfl) ?_
        refine mm_T.s rfl rfl rfl (fun _ => rfl) ?_
        refine mm_T.s rfl rfl rfl (fun _ => rfl) ?_
        refine mm_T.s rfl rfl rfl (fun _ => rfl) ?_
        refine mm_T.ivw rfl rfl rfl rfl rfl rfl (m_cob m2 _) ?_
        rintro _ _ ⟨⟨xx, rfl⟩, rfl⟩
        refine mm_T.ivw rfl rfl rfl rfl rfl rfl (m_ext _ _) ?_
        rintro _ _ ⟨⟨xy, rfl⟩, sp2, rfl⟩
        refine mm_T.s rfl rfl rfl (fun _ => rfl) ?_
        refine mm_T.s rfl rfl rfl (fun _ => rfl) ?_
        refine mm_T.s rfl rfl rfl (fun _ => rfl) ?_
        exact K _ _ ⟨_, _, _, nI_1 i, rfl, rfl⟩
      · skip
        rintro _ _ ⟨x2, x4, sp1, rfl, rfl, rfl⟩
        refine mm_T.s rfl rfl rfl (fun _ => rfl) ?_
        refine mm_T.s rfl rfl rfl (fun _ => rfl) ?_
        refine mm_T.s rfl rfl rfl (fun _ => if_pos (nI_le (Nat.le_refl _) (by omega))) ?_
        refine mm_T.s rfl rfl rfl (fun _ => rfl) ?_
        refine mm_T.s rfl rfl rfl (fun _ => rfl) ?_
        refine mm_T.s rfl rfl rfl (fun _ => rfl) ?_
        refine mm_T.s rfl rfl rfl (fun _ => rfl) ?_
        refine mm_T.ivw rfl rfl rfl rfl rfl rfl (m_coc m2 m1) ?_
        rintro _ _ ⟨⟨l, hl, rfl⟩, cy1, rfl⟩
        refine mm_T.s rfl rfl rfl (fun _ => rfl) ?_
        refine mm_T.s rfl rfl rfl (fun _ => rfl) ?_
        refine mm_T.s rfl rfl rfl (fun _ => rfl) ?_
        refine mm_T.up (n := l) (P := fun i L h => ∃ xq x2 x6 y7 sp1, x6 = nI i ∧ L = [some (.ref 25), some (.int (nI n)), some (.int x2), some (.int (nI (x_mn has n 1 255))), some (.int xq), some (.int (nI l)), some (.int x6), y7] ∧ h = (kD c has ke f ma wo dv cy1 sp1 a1 a2 a3 ro co di (nI (x_mn has n 2 255)))) ?_ ?_ 0 (Nat.zero_le _) _ _ ⟨_, _, _, _, _, rfl, rfl, rfl⟩
        · skip
          rintro i0 _ _ hi0 ⟨xq, x2, x6, y7, sp1, rfl, rfl, rfl⟩ K
          refine mm_T.s rfl rfl rfl (fun _ => rfl) ?_
          refine mm_T.s rfl rfl rfl (fun _ => rfl) ?_
          refine mm_T.s rfl rfl rfl (fun _ => if_neg (nI_ge hi0 (by omega))) ?_
          refine mm_T.s rfl rfl rfl (fun _ => rfl) ?_
          refine mm_T.s rfl rfl rfl (fun _ => rfl) ?_
          refine mm_T.up (n := l) (P := fun i L h => ∃ x2 x7 sp1, x7 = nI i ∧ L = [some (.ref 25), some (.int (nI n)), some (.int x2), some (.int (nI (x_mn has n 1 255))), some (.int xq), some (.int (nI l)), some (.int (nI i0)), some (.int x7)] ∧ h = (kD c has ke f ma wo dv cy1 sp1 a1 a2 a3 ro co di (nI (x_mn has n 2 255)))) ?_ ?_ 0 (Nat.zero_le _) _ _ ⟨_, _, _, rfl, rfl, rfl⟩
          · skip
            rintro i _ _ hi ⟨x2, x7, sp1, rfl, rfl, rfl⟩ K2
            refine mm_T.s rfl rfl rfl (fun _ => rfl) ?_
            refine mm_T.s rfl rfl rfl (fun _ => rfl) ?_
            refine mm_T.s rfl rfl rfl (fun _ => if_neg (nI_ge hi (by omega))) ?_
            refine mm_T.s rfl rfl rfl (fun _ => rfl) ?_
            refine mm_T.s rfl rfl rfl (fun _ => rfl) ?_
            refine mm_T.s rfl rfl rfl (fun _ => rfl) ?_
            refine mm_T.s rfl rfl rfl (fun _ => rfl) ?_
            refine mm_T.gf rfl rfl rfl rfl rfl ?_
            refine mm_T.s rfl rfl rfl (fun _ => rfl) ?_
            refine mm_T.iaN rfl rfl rfl (by omega) (by decide) rfl ?_
            refine mm_T.s rfl rfl rfl (fun _ => rfl) ?_
            refine mm_T.gf rfl rfl rfl rfl rfl ?_
            refine mm_T.s rfl rfl rfl (fun _ => rfl) ?_
            refine mm_T.iaN rfl rfl rfl (by omega) (by decide) rfl ?_
            refine mm_T.ivw rfl rfl rfl rfl rfl rfl (m_prod m2 _ _) ?_
            rintro _ _ ⟨⟨xx, rfl⟩, rfl⟩
            refine mm_T.ivw rfl rfl rfl rfl rfl rfl (m_ext _ _) ?_
            rintro _ _ ⟨⟨xy, rfl⟩, sp2, rfl⟩
            refine mm_T.s rfl rfl rfl (fun _ => rfl) ?_
            refine mm_T.s rfl rfl rfl (fun _ => rfl) ?_
            refine mm_T.s rfl rfl rfl (fun _ => rfl) ?_
            exact K2 _ _ ⟨_, _, _, nI_1 i, rfl, rfl⟩
          · skip
            rintro _ _ ⟨x2, x7, sp1, rfl, rfl, rfl⟩
            refine mm_T.s rfl rfl rfl (fun _ => rfl) ?_
            refine mm_T.s rfl rfl rfl (fun _ => rfl) ?_
            refine mm_T.s rfl rfl rfl (fun _ => if_pos (nI_le (Nat.le_refl _) (by omega))) ?_
            refine mm_T.s rfl rfl rfl (fun _ => rfl) ?_
            refine mm_T.s rfl rfl rfl (fun _ => rfl) ?_
            exact K _ _ ⟨_, _, _, _, _, nI_1 i0, rfl, rfl⟩
        · skip
          rintro _ _ ⟨xq, x2, x6, y7, sp1, rfl, rfl, rfl⟩
          refine mm_T.s rfl rfl rfl (fun _ => rfl) ?_
          refine mm_T.s rfl rfl rfl (fun _ => rfl) ?_
          refine mm_T.s rfl rfl rfl (fun _ => if_pos (nI_le (Nat.le_refl _) (by omega))) ?_
          refine mm_T.s rfl rfl rfl (fun _ => rfl) ?_
          refine mm_T.s rfl rfl rfl (fun _ => rfl) ?_
          refine mm_T.s rfl rfl rfl (fun _ => rfl) ?_
          exact mm_T.ret rfl rfl rfl (⟨⟨_, rfl⟩, _, _, _, _, _, _, _, _, _, _, _, _, rfl⟩)
  · skip
    refine mm_T.s rfl rfl rfl (fun _ => rfl) ?_
    refine mm_T.ic rfl rfl rfl rfl rfl (x_isC0 hb) ?_
    refine mm_T.s rfl rfl rfl (fun _ => rfl) ?_
    refine mm_T.s rfl rfl rfl (fun _ => rfl) ?_
    exact mm_T.ret rfl rfl rfl (⟨⟨_, rfl⟩, _, _, _, _, _, _, _, _, _, _, _, _, rfl⟩)
