/-! SPANS: the counter's methods over edges and triangles, exact -/
theorem f2_1s {i : Nat} (h : i < 31) : (1 : Int32) <<< (nI i &&& 31) = nI (1 * 2 ^ i) := f2_ish (a := 1) h (by
  have z : 2 ^ i < 2 ^ 32 := Nat.pow_lt_pow_right (by decide) (by omega)
  omega)
theorem q_cob0 {pl0 ke0 sz0 se0 gr0 pl1 ke1 sz1 se1 gr1 im ce wo pv fa pm pw fr ba : Nat → Int32} {rw : Nat → Int64} {ro co mo : Int32} {mi : Int64} {ki : Int32} {M : mm_H} (hI : x_CI pl0 sz0 se0) {e : Nat} (he : e < (x_ct pl0 1 255)) : mm_TC kM 14 [.ref 1, .int (nI e)] (kC pl0 ke0 sz0 se0 gr0 pl1 ke1 sz1 se1 gr1 im ce wo pv fa pm pw fr ba rw ro co mo mi ki M) (fun v h => v = some (.int (nI ((f2_d (x_tA pl0 se0) (x_tB pl0 se0) (x_tC pl0 se0) (x_ct pl0 2 255)) (2 ^ e)))) ∧ h = (kC pl0 ke0 sz0 se0 gr0 pl1 ke1 sz1 se1 gr1 im ce wo pv fa pm pw fr ba rw ro co mo mi ki M)) := by
  have S2 : mm_EC kM 4 [.ref 1, .int (nI 2)] (kC pl0 ke0 sz0 se0 gr0 pl1 ke1 sz1 se1 gr1 im ce wo pv fa pm pw fr ba rw ro co mo mi ki M) (some (.int (nI (x_ct pl0 2 255))), (kC pl0 ke0 sz0 se0 gr0 pl1 ke1 sz1 se1 gr1 im ce wo pv fa pm pw fr ba rw ro co mo mi ki M)) := by
    rw [← x_m_a (a := 2) (by decide)]
    exact v_sz0 hI (nI 2)
  have hle := hI.le (k := 2) (by decide)
  have hle1 := hI.le (k := 1) (by decide)
  refine mm_TC.of (M := kq_14) rfl rfl ?_
  refine mm_T.s rfl rfl rfl (fun _ => rfl) ?_
  refine mm_T.s rfl rfl rfl (fun _ => rfl) ?_
  refine mm_T.s rfl rfl rfl (fun _ => rfl) ?_
  refine mm_T.iv rfl rfl rfl rfl rfl rfl (v_setAt0 (a := 1) (j := e) (by omega)) ?_
  refine mm_T.s rfl rfl rfl (fun _ => rfl) ?_
  refine mm_T.s rfl rfl rfl (fun _ => rfl) ?_
  refine mm_T.s rfl rfl rfl (fun _ => rfl) ?_
  refine mm_T.s rfl rfl rfl (fun _ => rfl) ?_
  refine mm_T.s rfl rfl rfl (fun _ => rfl) ?_
  refine mm_T.up (n := (x_ct pl0 2 255)) (P := fun i L h => ∃ x3 x4 : Int32, x4 = nI i ∧ x3 = nI (f2_b (fun t => ((2 ^ e).testBit ((x_tA pl0 se0) t)).xor (((2 ^ e).testBit ((x_tB pl0 se0) t)).xor ((2 ^ e).testBit ((x_tC pl0 se0) t)))) i) ∧ L = [some (.ref 1), some (.int (nI e)), some (.int (se0 (1 * 24 + e))), some (.int x3), some (.int x4)] ∧ h = (kC pl0 ke0 sz0 se0 gr0 pl1 ke1 sz1 se1 gr1 im ce wo pv fa pm pw fr ba rw ro co mo mi ki M)) ?_ ?_ 0 (Nat.zero_le _) _ _ ⟨_, _, rfl, rfl, rfl, rfl⟩
  · skip
    rintro i _ _ hi ⟨x3, x4, rfl, rfl, rfl, rfl⟩ K
    obtain ⟨h1, h2, h3, h4, h5, h6⟩ := x_tS_ok hI hi
    have hc := x_tc hI hi he
    have E2 : mm_EC kM 5 [.ref 1, .int (nI 2), .int (nI i)] (kC pl0 ke0 sz0 se0 gr0 pl1 ke1 sz1 se1 gr1 im ce wo pv fa pm pw fr ba rw ro co mo mi ki M) (some (.int (nI (x_tS se0 i))), (kC pl0 ke0 sz0 se0 gr0 pl1 ke1 sz1 se1 gr1 im ce wo pv fa pm pw fr ba rw ro co mo mi ki M)) := by
      rw [← h3]
      exact v_setAt0 (a := 2) (by omega)
    refine mm_T.s rfl rfl rfl (fun _ => rfl) ?_
    refine mm_T.s rfl rfl rfl (fun _ => rfl) ?_
    refine mm_T.s rfl rfl rfl (fun _ => rfl) ?_
    refine mm_T.iv rfl rfl rfl rfl rfl rfl S2 ?_
    refine mm_T.s rfl rfl rfl (fun _ => if_neg (nI_ge hi (by omega))) ?_
    refine mm_T.s rfl rfl rfl (fun _ => rfl) ?_
    refine mm_T.s rfl rfl rfl (fun _ => rfl) ?_
    refine mm_T.s rfl rfl rfl (fun _ => rfl) ?_
    refine mm_T.iv rfl rfl rfl rfl rfl rfl E2 ?_
    refine mm_T.s rfl rfl rfl (fun _ => rfl) ?_
    refine mm_T.s rfl rfl rfl (fun _ => rfl) ?_
    refine mm_T.s rfl rfl rfl (fun _ => rfl) ?_
    refine mm_T.ci rfl rfl (fun hb32 => ?_) (fun hb32 => ?_)
    · skip
      have hz : (fun t => ((2 ^ e).testBit ((x_tA pl0 se0) t)).xor (((2 ^ e).testBit ((x_tB pl0 se0) t)).xor ((2 ^ e).testBit ((x_tC pl0 se0) t)))) i = false := Bool.eq_false_iff.mpr (fun q => hb32 (hc.mpr q))
      have hnx : nI (f2_b (fun t => ((2 ^ e).testBit ((x_tA pl0 se0) t)).xor (((2 ^ e).testBit ((x_tB pl0 se0) t)).xor ((2 ^ e).testBit ((x_tC pl0 se0) t)))) i) = nI (f2_b (fun t => ((2 ^ e).testBit ((x_tA pl0 se0) t)).xor (((2 ^ e).testBit ((x_tB pl0 se0) t)).xor ((2 ^ e).testBit ((x_tC pl0 se0) t)))) (i + 1)) := congrArg nI (f2_b0 hz).symm
      refine mm_T.s rfl rfl rfl (fun _ => rfl) ?_
      refine mm_T.s rfl rfl rfl (fun _ => rfl) ?_
      exact K _ _ ⟨_, _, nI_1 i, hnx, rfl, rfl⟩
    · skip
      have hz : (fun t => ((2 ^ e).testBit ((x_tA pl0 se0) t)).xor (((2 ^ e).testBit ((x_tB pl0 se0) t)).xor ((2 ^ e).testBit ((x_tC pl0 se0) t)))) i = true := hc.mp (Classical.not_not.mp hb32)
      have hnx : nI (f2_b (fun t => ((2 ^ e).testBit ((x_tA pl0 se0) t)).xor (((2 ^ e).testBit ((x_tB pl0 se0) t)).xor ((2 ^ e).testBit ((x_tC pl0 se0) t)))) (i + 1)) = nI (f2_b (fun t => ((2 ^ e).testBit ((x_tA pl0 se0) t)).xor (((2 ^ e).testBit ((x_tB pl0 se0) t)).xor ((2 ^ e).testBit ((x_tC pl0 se0) t)))) (i + 1)) := rfl
      refine mm_T.s rfl rfl rfl (fun _ => rfl) ?_
      refine mm_T.s rfl rfl rfl (fun _ => rfl) ?_
      refine mm_T.s rfl rfl rfl (fun _ => rfl) ?_
      refine mm_T.s rfl rfl rfl (fun _ => rfl) ?_
      refine mm_T.ti _ (f2_1s (by omega)) ?_
      refine mm_T.s rfl rfl rfl (fun _ => rfl) ?_
      refine mm_T.ti (nI (f2_b (fun t => ((2 ^ e).testBit ((x_tA pl0 se0) t)).xor (((2 ^ e).testBit ((x_tB pl0 se0) t)).xor ((2 ^ e).testBit ((x_tC pl0 se0) t)))) (i + 1))) (by rw [f2_b1 hz]; exact x_or _ _) ?_
      refine mm_T.s rfl rfl rfl (fun _ => rfl) ?_
      refine mm_T.s rfl rfl rfl (fun _ => rfl) ?_
      refine mm_T.s rfl rfl rfl (fun _ => rfl) ?_
      exact K _ _ ⟨_, _, nI_1 i, hnx, rfl, rfl⟩
  · skip
    rintro _ _ ⟨x3, x4, rfl, rfl, rfl, rfl⟩
    refine mm_T.s rfl rfl rfl (fun _ => rfl) ?_
    refine mm_T.s rfl rfl rfl (fun _ => rfl) ?_
    refine mm_T.s rfl rfl rfl (fun _ => rfl) ?_
    refine mm_T.iv rfl rfl rfl rfl rfl rfl S2 ?_
    refine mm_T.s rfl rfl rfl (fun _ => if_pos (nI_le (Nat.le_refl _) (by omega))) ?_
    refine mm_T.s rfl rfl rfl (fun _ => rfl) ?_
    exact mm_T.ret rfl rfl rfl (⟨rfl, rfl⟩)
theorem q_triF0 {pl0 ke0 sz0 se0 gr0 pl1 ke1 sz1 se1 gr1 im ce wo pv fa pm pw fr ba : Nat → Int32} {rw : Nat → Int64} {ro co mo : Int32} {mi : Int64} {ki : Int32} {M : mm_H} (hI : x_CI pl0 sz0 se0) {z : Nat} (hz0 : z < 2 ^ 24) : mm_TC kM 15 [.ref 1, .int (nI z), .int 1] (kC pl0 ke0 sz0 se0 gr0 pl1 ke1 sz1 se1 gr1 im ce wo pv fa pm pw fr ba rw ro co mo mi ki M) (fun v h => v = some (.int (nI (f2_F (x_tA pl0 se0) (x_ct pl0 2 255) z))) ∧ h = (kC pl0 ke0 sz0 se0 gr0 pl1 ke1 sz1 se1 gr1 im ce wo pv fa pm pw fr ba rw ro co mo mi ki M)) := by
  have S2 : mm_EC kM 4 [.ref 1, .int (nI 2)] (kC pl0 ke0 sz0 se0 gr0 pl1 ke1 sz1 se1 gr1 im ce wo pv fa pm pw fr ba rw ro co mo mi ki M) (some (.int (nI (x_ct pl0 2 255))), (kC pl0 ke0 sz0 se0 gr0 pl1 ke1 sz1 se1 gr1 im ce wo pv fa pm pw fr ba rw ro co mo mi ki M)) := by
    rw [← x_m_a (a := 2) (by decide)]
    exact v_sz0 hI (nI 2)
  have hle := hI.le (k := 2) (by decide)
  have hle1 := hI.le (k := 1) (by decide)
  refine mm_TC.of (M := kq_15) rfl rfl ?_
  refine mm_T.s rfl rfl rfl (fun _ => rfl) ?_
  refine mm_T.s rfl rfl rfl (fun _ => rfl) ?_
  refine mm_T.s rfl rfl rfl (fun _ => rfl) ?_
  refine mm_T.s rfl rfl rfl (fun _ => rfl) ?_
  refine mm_T.up (n := (x_ct pl0 2 255)) (P := fun i L h => ∃ (x3 x4 : Int32) (y5 y6 y7 y8 : Option Value), x4 = nI i ∧ x3 = nI (f2_b (fun t => z.testBit ((x_tA pl0 se0) t)) i) ∧ L = [some (.ref 1), some (.int (nI z)), some (.int 1), some (.int x3), some (.int x4), y5, y6, y7, y8] ∧ h = (kC pl0 ke0 sz0 se0 gr0 pl1 ke1 sz1 se1 gr1 im ce wo pv fa pm pw fr ba rw ro co mo mi ki M)) ?_ ?_ 0 (Nat.zero_le _) _ _ ⟨_, _, _, _, _, _, rfl, rfl, rfl, rfl⟩
  · skip
    rintro i _ _ hi ⟨x3, x4, y5, y6, y7, y8, rfl, rfl, rfl, rfl⟩ K
    obtain ⟨h1, h2, h3, h4, h5, h6⟩ := x_tS_ok hI hi
    obtain ⟨g1, g2, g3, ⟨a1, a2, a3, a4⟩, ⟨b1, b2, b3, b4⟩, -, -, -, -⟩ := t_p h2 h4
    obtain ⟨⟨pA, -, lA⟩, ⟨pB, -, lB⟩, -⟩ := x_t3 hI hi
    have E2 : mm_EC kM 5 [.ref 1, .int (nI 2), .int (nI i)] (kC pl0 ke0 sz0 se0 gr0 pl1 ke1 sz1 se1 gr1 im ce wo pv fa pm pw fr ba rw ro co mo mi ki M) (some (.int (nI (x_tS se0 i))), (kC pl0 ke0 sz0 se0 gr0 pl1 ke1 sz1 se1 gr1 im ce wo pv fa pm pw fr ba rw ro co mo mi ki M)) := by
      rw [← h3]
      exact v_setAt0 (a := 2) (by omega)
    have hv : (nI z >>> (pl0 (t_f (x_tS se0 i)) &&& 31)) &&& 1 = nI (if z.testBit ((x_tA pl0 se0) i) then 1 else 0) := by
      rw [pA]
      exact f2_it1 (by omega) (by omega)
    refine mm_T.s rfl rfl rfl (fun _ => rfl) ?_
    refine mm_T.s rfl rfl rfl (fun _ => rfl) ?_
    refine mm_T.s rfl rfl rfl (fun _ => rfl) ?_
    refine mm_T.iv rfl rfl rfl rfl rfl rfl S2 ?_
    refine mm_T.s rfl rfl rfl (fun _ => if_neg (nI_ge hi (by omega))) ?_
    refine mm_T.s rfl rfl rfl (fun _ => rfl) ?_
    refine mm_T.s rfl rfl rfl (fun _ => rfl) ?_
    refine mm_T.s rfl rfl rfl (fun _ => rfl) ?_
    refine mm_T.iv rfl rfl rfl rfl rfl rfl E2 ?_
    refine mm_T.s rfl rfl rfl (fun _ => rfl) ?_
    refine mm_T.s rfl rfl rfl (fun _ => rfl) ?_
    refine mm_T.s rfl rfl rfl (fun _ => rfl) ?_
    refine mm_T.s rfl rfl rfl (fun _ => rfl) ?_
    refine mm_T.s rfl rfl rfl (fun _ => rfl) ?_
    refine mm_T.s rfl rfl rfl (fun _ => rfl) ?_
    refine mm_T.ti _ g1 ?_
    refine mm_T.s rfl rfl rfl (fun _ => rfl) ?_
    refine mm_T.s rfl rfl rfl (fun _ => rfl) ?_
    refine mm_T.s rfl rfl rfl (fun _ => rfl) ?_
    refine mm_T.s rfl rfl rfl (fun _ => rfl) ?_
    refine mm_T.s rfl rfl rfl (fun _ => rfl) ?_
    refine mm_T.ti _ g2 ?_
    refine mm_T.s rfl rfl rfl (fun _ => rfl) ?_
    refine mm_T.s rfl rfl rfl (fun _ => rfl) ?_
    refine mm_T.s rfl rfl rfl (fun _ => rfl) ?_
    refine mm_T.s rfl rfl rfl (fun _ => rfl) ?_
    refine mm_T.s rfl rfl rfl (fun _ => rfl) ?_
    refine mm_T.s rfl rfl rfl (fun _ => rfl) ?_
    refine mm_T.s rfl rfl rfl (fun _ => rfl) ?_
    refine mm_T.s rfl rfl rfl (fun _ => rfl) ?_
    refine mm_T.s rfl rfl rfl (fun _ => rfl) ?_
    refine mm_T.s rfl rfl rfl (fun _ => rfl) ?_
    refine mm_T.ti _ g3 ?_
    refine mm_T.s rfl rfl rfl (fun _ => rfl) ?_
    refine mm_T.s rfl rfl rfl (fun _ => rfl) ?_
    refine mm_T.s rfl rfl rfl (fun _ => rfl) ?_
    refine mm_T.s rfl rfl rfl (fun _ => rfl) ?_
    refine mm_T.gf rfl rfl rfl rfl rfl ?_
    refine mm_T.s rfl rfl rfl (fun _ => rfl) ?_
    refine mm_T.iaN rfl rfl rfl (by omega) (by decide) rfl ?_
    refine mm_T.s rfl rfl rfl (fun _ => rfl) ?_
    refine mm_T.s rfl rfl rfl (fun _ => rfl) ?_
    refine mm_T.s rfl rfl rfl (fun _ => rfl) ?_
    refine mm_T.ti _ hv ?_
    refine mm_T.cz rfl rfl (fun hb72 => ?_) (fun hb72 => ?_)
    · skip
      have hz : (fun t => z.testBit ((x_tA pl0 se0) t)) i = false := Bool.eq_false_iff.mpr (fun q => absurd hb72 (show ¬ _ = _ from by rw [show z.testBit ((x_tA pl0 se0) i) = true from q]; decide))
      have hnx : nI (f2_b (fun t => z.testBit ((x_tA pl0 se0) t)) i) = nI (f2_b (fun t => z.testBit ((x_tA pl0 se0) t)) (i + 1)) := congrArg nI (f2_b0 (f := (fun t => z.testBit ((x_tA pl0 se0) t))) (t := i) hz).symm
      refine mm_T.s rfl rfl rfl (fun _ => rfl) ?_
      refine mm_T.s rfl rfl rfl (fun _ => rfl) ?_
      exact K _ _ ⟨_, _, _, _, _, _, nI_1 i, hnx, rfl, rfl⟩
    · skip
      have hz : (fun t => z.testBit ((x_tA pl0 se0) t)) i = true := eq_true_of_ne_false (fun q => hb72 (show _ = _ from by rw [show z.testBit ((x_tA pl0 se0) i) = false from q]; rfl))
      have hnx : nI (f2_b (fun t => z.testBit ((x_tA pl0 se0) t)) (i + 1)) = nI (f2_b (fun t => z.testBit ((x_tA pl0 se0) t)) (i + 1)) := rfl
      refine mm_T.s rfl rfl rfl (fun _ => rfl) ?_
      refine mm_T.s rfl rfl rfl (fun _ => rfl) ?_
      refine mm_T.s rfl rfl rfl (fun _ => rfl) ?_
      refine mm_T.s rfl rfl rfl (fun _ => rfl) ?_
      refine mm_T.ti _ (f2_1s (by omega)) ?_
      refine mm_T.s rfl rfl rfl (fun _ => rfl) ?_
      refine mm_T.ti (nI (f2_b (fun t => z.testBit ((x_tA pl0 se0) t)) (i + 1))) (by rw [f2_b1 (f := (fun t => z.testBit ((x_tA pl0 se0) t))) (t := i) hz]; exact x_or _ _) ?_
      refine mm_T.s rfl rfl rfl (fun _ => rfl) ?_
      refine mm_T.s rfl rfl rfl (fun _ => rfl) ?_
      refine mm_T.s rfl rfl rfl (fun _ => rfl) ?_
      exact K _ _ ⟨_, _, _, _, _, _, nI_1 i, hnx, rfl, rfl⟩
  · skip
    rintro _ _ ⟨x3, x4, y5, y6, y7, y8, rfl, rfl, rfl, rfl⟩
    refine mm_T.s rfl rfl rfl (fun _ => rfl) ?_
    refine mm_T.s rfl rfl rfl (fun _ => rfl) ?_
    refine mm_T.s rfl rfl rfl (fun _ => rfl) ?_
    refine mm_T.iv rfl rfl rfl rfl rfl rfl S2 ?_
    refine mm_T.s rfl rfl rfl (fun _ => if_pos (nI_le (Nat.le_refl _) (by omega))) ?_
    refine mm_T.s rfl rfl rfl (fun _ => rfl) ?_
    exact mm_T.ret rfl rfl rfl (⟨rfl, rfl⟩)
theorem q_triB0 {pl0 ke0 sz0 se0 gr0 pl1 ke1 sz1 se1 gr1 im ce wo pv fa pm pw fr ba : Nat → Int32} {rw : Nat → Int64} {ro co mo : Int32} {mi : Int64} {ki : Int32} {M : mm_H} (hI : x_CI pl0 sz0 se0) {z : Nat} (hz0 : z < 2 ^ 24) : mm_TC kM 15 [.ref 1, .int (nI z), .int 0] (kC pl0 ke0 sz0 se0 gr0 pl1 ke1 sz1 se1 gr1 im ce wo pv fa pm pw fr ba rw ro co mo mi ki M) (fun v h => v = some (.int (nI (f2_F (x_tB pl0 se0) (x_ct pl0 2 255) z))) ∧ h = (kC pl0 ke0 sz0 se0 gr0 pl1 ke1 sz1 se1 gr1 im ce wo pv fa pm pw fr ba rw ro co mo mi ki M)) := by
  have S2 : mm_EC kM 4 [.ref 1, .int (nI 2)] (kC pl0 ke0 sz0 se0 gr0 pl1 ke1 sz1 se1 gr1 im ce wo pv fa pm pw fr ba rw ro co mo mi ki M) (some (.int (nI (x_ct pl0 2 255))), (kC pl0 ke0 sz0 se0 gr0 pl1 ke1 sz1 se1 gr1 im ce wo pv fa pm pw fr ba rw ro co mo mi ki M)) := by
    rw [← x_m_a (a := 2) (by decide)]
    exact v_sz0 hI (nI 2)
  have hle := hI.le (k := 2) (by decide)
  have hle1 := hI.le (k := 1) (by decide)
  refine mm_TC.of (M := kq_15) rfl rfl ?_
  refine mm_T.s rfl rfl rfl (fun _ => rfl) ?_
  refine mm_T.s rfl rfl rfl (fun _ => rfl) ?_
  refine mm_T.s rfl rfl rfl (fun _ => rfl) ?_
  refine mm_T.s rfl rfl rfl (fun _ => rfl) ?_
  refine mm_T.up (n := (x_ct pl0 2 255)) (P := fun i L h => ∃ (x3 x4 : Int32) (y5 y6 y7 y8 : Option Value), x4 = nI i ∧ x3 = nI (f2_b (fun t => z.testBit ((x_tB pl0 se0) t)) i) ∧ L = [some (.ref 1), some (.int (nI z)), some (.int 0), some (.int x3), some (.int x4), y5, y6, y7, y8] ∧ h = (kC pl0 ke0 sz0 se0 gr0 pl1 ke1 sz1 se1 gr1 im ce wo pv fa pm pw fr ba rw ro co mo mi ki M)) ?_ ?_ 0 (Nat.zero_le _) _ _ ⟨_, _, _, _, _, _, rfl, rfl, rfl, rfl⟩
  · skip
    rintro i _ _ hi ⟨x3, x4, y5, y6, y7, y8, rfl, rfl, rfl, rfl⟩ K
    obtain ⟨h1, h2, h3, h4, h5, h6⟩ := x_tS_ok hI hi
    obtain ⟨g1, g2, g3, ⟨a1, a2, a3, a4⟩, ⟨b1, b2, b3, b4⟩, -, -, -, -⟩ := t_p h2 h4
    obtain ⟨⟨pA, -, lA⟩, ⟨pB, -, lB⟩, -⟩ := x_t3 hI hi
    have E2 : mm_EC kM 5 [.ref 1, .int (nI 2), .int (nI i)] (kC pl0 ke0 sz0 se0 gr0 pl1 ke1 sz1 se1 gr1 im ce wo pv fa pm pw fr ba rw ro co mo mi ki M) (some (.int (nI (x_tS se0 i))), (kC pl0 ke0 sz0 se0 gr0 pl1 ke1 sz1 se1 gr1 im ce wo pv fa pm pw fr ba rw ro co mo mi ki M)) := by
      rw [← h3]
      exact v_setAt0 (a := 2) (by omega)
    have hv : (nI z >>> (pl0 (t_b (x_tS se0 i)) &&& 31)) &&& 1 = nI (if z.testBit ((x_tB pl0 se0) i) then 1 else 0) := by
      rw [pB]
      exact f2_it1 (by omega) (by omega)
    refine mm_T.s rfl rfl rfl (fun _ => rfl) ?_
    refine mm_T.s rfl rfl rfl (fun _ => rfl) ?_
    refine mm_T.s rfl rfl rfl (fun _ => rfl) ?_
    refine mm_T.iv rfl rfl rfl rfl rfl rfl S2 ?_
    refine mm_T.s rfl rfl rfl (fun _ => if_neg (nI_ge hi (by omega))) ?_
    refine mm_T.s rfl rfl rfl (fun _ => rfl) ?_
    refine mm_T.s rfl rfl rfl (fun _ => rfl) ?_
    refine mm_T.s rfl rfl rfl (fun _ => rfl) ?_
    refine mm_T.iv rfl rfl rfl rfl rfl rfl E2 ?_
    refine mm_T.s rfl rfl rfl (fun _ => rfl) ?_
    refine mm_T.s rfl rfl rfl (fun _ => rfl) ?_
    refine mm_T.s rfl rfl rfl (fun _ => rfl) ?_
    refine mm_T.s rfl rfl rfl (fun _ => rfl) ?_
    refine mm_T.s rfl rfl rfl (fun _ => rfl) ?_
    refine mm_T.s rfl rfl rfl (fun _ => rfl) ?_
    refine mm_T.ti _ g1 ?_
    refine mm_T.s rfl rfl rfl (fun _ => rfl) ?_
    refine mm_T.s rfl rfl rfl (fun _ => rfl) ?_
    refine mm_T.s rfl rfl rfl (fun _ => rfl) ?_
    refine mm_T.s rfl rfl rfl (fun _ => rfl) ?_
    refine mm_T.s rfl rfl rfl (fun _ => rfl) ?_
    refine mm_T.ti _ g2 ?_
    refine mm_T.s rfl rfl rfl (fun _ => rfl) ?_
    refine mm_T.s rfl rfl rfl (fun _ => rfl) ?_
    refine mm_T.s rfl rfl rfl (fun _ => rfl) ?_
    refine mm_T.s rfl rfl rfl (fun _ => rfl) ?_
    refine mm_T.s rfl rfl rfl (fun _ => rfl) ?_
    refine mm_T.s rfl rfl rfl (fun _ => rfl) ?_
    refine mm_T.s rfl rfl rfl (fun _ => rfl) ?_
    refine mm_T.gf rfl rfl rfl rfl rfl ?_
    refine mm_T.s rfl rfl rfl (fun _ => rfl) ?_
    refine mm_T.iaN rfl rfl rfl (by omega) (by decide) rfl ?_
    refine mm_T.s rfl rfl rfl (fun _ => rfl) ?_
    refine mm_T.s rfl rfl rfl (fun _ => rfl) ?_
    refine mm_T.s rfl rfl rfl (fun _ => rfl) ?_
    refine mm_T.ti _ hv ?_
    refine mm_T.cz rfl rfl (fun hb72 => ?_) (fun hb72 => ?_)
    · skip
      have hz : (fun t => z.testBit ((x_tB pl0 se0) t)) i = false := Bool.eq_false_iff.mpr (fun q => absurd hb72 (show ¬ _ = _ from by rw [show z.testBit ((x_tB pl0 se0) i) = true from q]; decide))
      have hnx : nI (f2_b (fun t => z.testBit ((x_tB pl0 se0) t)) i) = nI (f2_b (fun t => z.testBit ((x_tB pl0 se0) t)) (i + 1)) := congrArg nI (f2_b0 (f := (fun t => z.testBit ((x_tB pl0 se0) t))) (t := i) hz).symm
      refine mm_T.s rfl rfl rfl (fun _ => rfl) ?_
      refine mm_T.s rfl rfl rfl (fun _ => rfl) ?_
      exact K _ _ ⟨_, _, _, _, _, _, nI_1 i, hnx, rfl, rfl⟩
    · skip
      have hz : (fun t => z.testBit ((x_tB pl0 se0) t)) i = true := eq_true_of_ne_false (fun q => hb72 (show _ = _ from by rw [show z.testBit ((x_tB pl0 se0) i) = false from q]; rfl))
      have hnx : nI (f2_b (fun t => z.testBit ((x_tB pl0 se0) t)) (i + 1)) = nI (f2_b (fun t => z.testBit ((x_tB pl0 se0) t)) (i + 1)) := rfl
      refine mm_T.s rfl rfl rfl (fun _ => rfl) ?_
      refine mm_T.s rfl rfl rfl (fun _ => rfl) ?_
      refine mm_T.s rfl rfl rfl (fun _ => rfl) ?_
      refine mm_T.s rfl rfl rfl (fun _ => rfl) ?_
      refine mm_T.ti _ (f2_1s (by omega)) ?_
      refine mm_T.s rfl rfl rfl (fun _ => rfl) ?_
      refine mm_T.ti (nI (f2_b (fun t => z.testBit ((x_tB pl0 se0) t)) (i + 1))) (by rw [f2_b1 (f := (fun t => z.testBit ((x_tB pl0 se0) t))) (t := i) hz]; exact x_or _ _) ?_
      refine mm_T.s rfl rfl rfl (fun _ => rfl) ?_
      refine mm_T.s rfl rfl rfl (fun _ => rfl) ?_
      refine mm_T.s rfl rfl rfl (fun _ => rfl) ?_
      exact K _ _ ⟨_, _, _, _, _, _, nI_1 i, hnx, rfl, rfl⟩
  · skip
    rintro _ _ ⟨x3, x4, y5, y6, y7, y8, rfl, rfl, rfl, rfl⟩
    refine mm_T.s rfl rfl rfl (fun _ => rfl) ?_
    refine mm_T.s rfl rfl rfl (fun _ => rfl) ?_
    refine mm_T.s rfl rfl rfl (fun _ => rfl) ?_
    refine mm_T.iv rfl rfl rfl rfl rfl rfl S2 ?_
    refine mm_T.s rfl rfl rfl (fun _ => if_pos (nI_le (Nat.le_refl _) (by omega))) ?_
    refine mm_T.s rfl rfl rfl (fun _ => rfl) ?_
    exact mm_T.ret rfl rfl rfl (⟨rfl, rfl⟩)
theorem q_fc0 {pl0 ke0 sz0 se0 gr0 pl1 ke1 sz1 se1 gr1 im ce wo pv fa pm pw fr ba : Nat → Int32} {rw : Nat → Int64} {ro co mo : Int32} {mi : Int64} {ki : Int32} {M : mm_H} (hI : x_CI pl0 sz0 se0) : mm_TC kM 64 [.ref 0, .ref 1] (kC pl0 ke0 sz0 se0 gr0 pl1 ke1 sz1 se1 gr1 im ce wo pv fa pm pw fr ba rw ro co mo mi ki M) (fun v h => v = some (.int (nI (f2_c (f2_d (x_tA pl0 se0) (x_tB pl0 se0) (x_tC pl0 se0) (x_ct pl0 2 255)) (x_ct pl0 1 255)).2.length)) ∧ ∃ fr1 ba1 rw2, f2_R rw2 (f2_c (f2_d (x_tA pl0 se0) (x_tB pl0 se0) (x_tC pl0 se0) (x_ct pl0 2 255)) (x_ct pl0 1 255)).1 ∧ (∀ j, j < (f2_c (f2_d (x_tA pl0 se0) (x_tB pl0 se0) (x_tC pl0 se0) (x_ct pl0 2 255)) (x_ct pl0 1 255)).2.length → fr1 j = nI (f2_F (x_tA pl0 se0) (x_ct pl0 2 255) (f2_g (f2_c (f2_d (x_tA pl0 se0) (x_tB pl0 se0) (x_tC pl0 se0) (x_ct pl0 2 255)) (x_ct pl0 1 255)).2 j)) ∧ ba1 j = nI (f2_F (x_tB pl0 se0) (x_ct pl0 2 255) (f2_g (f2_c (f2_d (x_tA pl0 se0) (x_tB pl0 se0) (x_tC pl0 se0) (x_ct pl0 2 255)) (x_ct pl0 1 255)).2 j))) ∧ h = (kC pl0 ke0 sz0 se0 gr0 pl1 ke1 sz1 se1 gr1 im ce wo pv fa pm pw fr1 ba1 rw2 ro co mo mi ki M)) := by
  have hle := hI.le (k := 1) (by decide)
  have hle2 := hI.le (k := 2) (by decide)
  refine mm_TC.of (M := kq_64) rfl rfl ?_
  refine mm_T.s rfl rfl rfl (fun _ => rfl) ?_
  refine mm_T.gf rfl rfl rfl rfl rfl ?_
  refine mm_T.ivw rfl rfl rfl rfl rfl rfl q_drop ?_
  rintro _ _ ⟨rfl, rw1, hR1, rfl⟩
  refine mm_T.s rfl rfl rfl (fun _ => rfl) ?_
  refine mm_T.s rfl rfl rfl (fun _ => rfl) ?_
  refine mm_T.s rfl rfl rfl (fun _ => rfl) ?_
  refine mm_T.s rfl rfl rfl (fun _ => rfl) ?_
  refine mm_T.up (n := (x_ct pl0 1 255)) (P := fun i L h => ∃ (x2 x3 : Int32) (y4 y5 y6 : Option Value) (fr1 ba1 : Nat → Int32) (rw2 : Nat → Int64), x2 = nI (f2_c (f2_d (x_tA pl0 se0) (x_tB pl0 se0) (x_tC pl0 se0) (x_ct pl0 2 255)) i).2.length ∧ x3 = nI i ∧ f2_R rw2 (f2_c (f2_d (x_tA pl0 se0) (x_tB pl0 se0) (x_tC pl0 se0) (x_ct pl0 2 255)) i).1 ∧ (∀ j, j < (f2_c (f2_d (x_tA pl0 se0) (x_tB pl0 se0) (x_tC pl0 se0) (x_ct pl0 2 255)) i).2.length → fr1 j = nI (f2_F (x_tA pl0 se0) (x_ct pl0 2 255) (f2_g (f2_c (f2_d (x_tA pl0 se0) (x_tB pl0 se0) (x_tC pl0 se0) (x_ct pl0 2 255)) i).2 j)) ∧ ba1 j = nI (f2_F (x_tB pl0 se0) (x_ct pl0 2 255) (f2_g (f2_c (f2_d (x_tA pl0 se0) (x_tB pl0 se0) (x_tC pl0 se0) (x_ct pl0 2 255)) i).2 j))) ∧ L = [some (.ref 0), some (.ref 1), some (.int x2), some (.int x3), y4, y5, y6] ∧ h = (kC pl0 ke0 sz0 se0 gr0 pl1 ke1 sz1 se1 gr1 im ce wo pv fa pm pw fr1 ba1 rw2 ro co mo mi ki M)) ?_ ?_ 0 (Nat.zero_le _) _ _ ⟨_, _, _, _, _, _, _, _, rfl, rfl, hR1, fun j hj => absurd hj (Nat.not_lt_zero j), rfl, rfl⟩
  · skip
    rintro i _ _ hi ⟨x2, x3, y4, y5, y6, fr1, ba1, rw2, rfl, rfl, hR, hF, rfl, rfl⟩ K
    have hd : (f2_d (x_tA pl0 se0) (x_tB pl0 se0) (x_tC pl0 se0) (x_ct pl0 2 255)) (2 ^ i) < 2 ^ 24 := f2_24 (f2_d_lt _ _ _ _ _) hle2
    have hp : 2 ^ i < 2 ^ 24 := Nat.pow_lt_pow_right (by decide) (by omega)
    have hp2 : 2 ^ (24 + i) < 2 ^ 62 := Nat.pow_lt_pow_right (by decide) (by omega)
    have hx : ((f2_d (x_tA pl0 se0) (x_tB pl0 se0) (x_tC pl0 se0) (x_ct pl0 2 255)) (2 ^ i) + 2 ^ 24 * 2 ^ i) < 2 ^ 60 := by omega
    have hlen := f2_c_len (f2_d (x_tA pl0 se0) (x_tB pl0 se0) (x_tC pl0 se0) (x_ct pl0 2 255)) i
    have c3 := (f2_c_ok (D := (f2_d (x_tA pl0 se0) (x_tB pl0 se0) (x_tC pl0 se0) (x_ct pl0 2 255))) (f2_d_0 _ _ _ _) (f2_d_x _ _ _ _) (fun x => f2_24 (f2_d_lt _ _ _ _ _) hle2) (i + 1)).2.2.1
    have S1 : mm_EC kM 4 [.ref 1, .int (nI 1)] (kC pl0 ke0 sz0 se0 gr0 pl1 ke1 sz1 se1 gr1 im ce wo pv fa pm pw fr1 ba1 rw2 ro co mo mi ki M) (some (.int (nI (x_ct pl0 1 255))), (kC pl0 ke0 sz0 se0 gr0 pl1 ke1 sz1 se1 gr1 im ce wo pv fa pm pw fr1 ba1 rw2 ro co mo mi ki M)) := by
      rw [← x_m_a (a := 1) (by decide)]
      exact v_sz0 hI (nI 1)
    refine mm_T.s rfl rfl rfl (fun _ => rfl) ?_
    refine mm_T.s rfl rfl rfl (fun _ => rfl) ?_
    refine mm_T.s rfl rfl rfl (fun _ => rfl) ?_
    refine mm_T.iv rfl rfl rfl rfl rfl rfl S1 ?_
    refine mm_T.s rfl rfl rfl (fun _ => if_neg (nI_ge hi (by omega))) ?_
    refine mm_T.s rfl rfl rfl (fun _ => rfl) ?_
    refine mm_T.s rfl rfl rfl (fun _ => rfl) ?_
    refine mm_T.ivw rfl rfl rfl rfl rfl rfl (q_cob0 hI hi) ?_
    rintro _ _ ⟨rfl, rfl⟩
    refine mm_T.s rfl rfl rfl (fun _ => rfl) ?_
    refine mm_T.tl (f2_i2l (by omega)) ?_
    refine mm_T.s rfl rfl rfl (fun _ => rfl) ?_
    refine mm_T.s rfl rfl rfl (fun _ => rfl) ?_
    refine mm_T.s rfl rfl rfl (fun _ => rfl) ?_
    refine mm_T.s rfl rfl rfl (fun _ => rfl) ?_
    refine mm_T.ti (nI (24 + i)) (by rw [show (Int8.ofInt 24).toInt32 = nI 24 from rfl]; exact nI_add _ _) ?_
    refine mm_T.s rfl rfl rfl (fun _ => rfl) ?_
    refine mm_T.tl (f2_l1s (24 + i) (by omega)) ?_
    refine mm_T.s rfl rfl rfl (fun _ => rfl) ?_
    refine mm_T.tl (y := lN ((f2_d (x_tA pl0 se0) (x_tB pl0 se0) (x_tC pl0 se0) (x_ct pl0 2 255)) (2 ^ i) + 2 ^ 24 * 2 ^ i)) (show lN ((f2_d (x_tA pl0 se0) (x_tB pl0 se0) (x_tC pl0 se0) (x_ct pl0 2 255)) (2 ^ i)) ||| lN (2 ^ (24 + i)) = _ from by rw [f2_lor (by omega) hp2, f2_tgv hd]) ?_
    refine mm_T.s rfl rfl rfl (fun _ => rfl) ?_
    refine mm_T.s rfl rfl rfl (fun _ => rfl) ?_
    refine mm_T.gf rfl rfl rfl rfl rfl ?_
    refine mm_T.s rfl rfl rfl (fun _ => rfl) ?_
    refine mm_T.ivw rfl rfl rfl rfl rfl rfl (q_take hR hx) ?_
    rintro _ _ ⟨rfl, rw3, hR3, rfl⟩
    refine mm_T.cz rfl rfl (fun hb44 => ?_) (fun hb44 => ?_)
    · skip
      have hc2 := f2_c_y (D := (f2_d (x_tA pl0 se0) (x_tB pl0 se0) (x_tC pl0 se0) (x_ct pl0 2 255))) (e := i) (fun q => hb44 (by rw [q]; rfl))
      have hl2 : nI (f2_c (f2_d (x_tA pl0 se0) (x_tB pl0 se0) (x_tC pl0 se0) (x_ct pl0 2 255)) i).2.length = nI (f2_c (f2_d (x_tA pl0 se0) (x_tB pl0 se0) (x_tC pl0 se0) (x_ct pl0 2 255)) (i + 1)).2.length := by rw [hc2]
      have hR4 : f2_R rw3 (f2_c (f2_d (x_tA pl0 se0) (x_tB pl0 se0) (x_tC pl0 se0) (x_ct pl0 2 255)) (i + 1)).1 := by
        rw [hc2]
        exact hR3
      have hF2 : (∀ j, j < (f2_c (f2_d (x_tA pl0 se0) (x_tB pl0 se0) (x_tC pl0 se0) (x_ct pl0 2 255)) (i + 1)).2.length → fr1 j = nI (f2_F (x_tA pl0 se0) (x_ct pl0 2 255) (f2_g (f2_c (f2_d (x_tA pl0 se0) (x_tB pl0 se0) (x_tC pl0 se0) (x_ct pl0 2 255)) (i + 1)).2 j)) ∧ ba1 j = nI (f2_F (x_tB pl0 se0) (x_ct pl0 2 255) (f2_g (f2_c (f2_d (x_tA pl0 se0) (x_tB pl0 se0) (x_tC pl0 se0) (x_ct pl0 2 255)) (i + 1)).2 j))) := by
        rw [hc2]
        exact hF
      refine mm_T.s rfl rfl rfl (fun _ => rfl) ?_
      refine mm_T.s rfl rfl rfl (fun _ => rfl) ?_
      exact K _ _ ⟨_, _, _, _, _, _, _, _, hl2, nI_1 i, hR4, hF2, rfl, rfl⟩
    · skip
      have h0 : (f2_t (f2_c (f2_d (x_tA pl0 se0) (x_tB pl0 se0) (x_tC pl0 se0) (x_ct pl0 2 255)) i).1 ((f2_d (x_tA pl0 se0) (x_tB pl0 se0) (x_tC pl0 se0) (x_ct pl0 2 255)) (2 ^ i) + 2 ^ 24 * 2 ^ i)).2 = 0 := (f2_t_01 _ _).resolve_right (fun q => hb44 (show ¬ _ = _ from by rw [q]; decide))
      rw [f2_t_r h0] at hR3
      have hc2 := f2_c_n (D := (f2_d (x_tA pl0 se0) (x_tB pl0 se0) (x_tC pl0 se0) (x_ct pl0 2 255))) (e := i) h0
      have hz24 : (f2_r (f2_c (f2_d (x_tA pl0 se0) (x_tB pl0 se0) (x_tC pl0 se0) (x_ct pl0 2 255)) i).1 24 0 ((f2_d (x_tA pl0 se0) (x_tB pl0 se0) (x_tC pl0 se0) (x_ct pl0 2 255)) (2 ^ i) + 2 ^ 24 * 2 ^ i) / 2 ^ 24) < 2 ^ 24 := by
        have w := (c3 (f2_r (f2_c (f2_d (x_tA pl0 se0) (x_tB pl0 se0) (x_tC pl0 se0) (x_ct pl0 2 255)) i).1 24 0 ((f2_d (x_tA pl0 se0) (x_tB pl0 se0) (x_tC pl0 se0) (x_ct pl0 2 255)) (2 ^ i) + 2 ^ 24 * 2 ^ i) / 2 ^ 24) (by rw [hc2]; exact List.mem_append_right _ (List.mem_singleton.mpr rfl))).2
        exact Nat.lt_of_lt_of_le w (Nat.pow_le_pow_right (by decide) (by omega))
      have hy := f2_r_lt hR3 24 0 ((f2_d (x_tA pl0 se0) (x_tB pl0 se0) (x_tC pl0 se0) (x_ct pl0 2 255)) (2 ^ i) + 2 ^ 24 * 2 ^ i) rfl hx
      have hl2 : nI (f2_c (f2_d (x_tA pl0 se0) (x_tB pl0 se0) (x_tC pl0 se0) (x_ct pl0 2 255)) i).2.length + 1 = nI (f2_c (f2_d (x_tA pl0 se0) (x_tB pl0 se0) (x_tC pl0 se0) (x_ct pl0 2 255)) (i + 1)).2.length := by
        rw [hc2]
        show _ = nI ((f2_c (f2_d (x_tA pl0 se0) (x_tB pl0 se0) (x_tC pl0 se0) (x_ct pl0 2 255)) i).2 ++ [_]).length
        rw [List.length_append]
        exact nI_1 _
      have hR4 : f2_R rw3 (f2_c (f2_d (x_tA pl0 se0) (x_tB pl0 se0) (x_tC pl0 se0) (x_ct pl0 2 255)) (i + 1)).1 := by
        rw [hc2]
        exact hR3
      have hF2 : (∀ j, j < (f2_c (f2_d (x_tA pl0 se0) (x_tB pl0 se0) (x_tC pl0 se0) (x_ct pl0 2 255)) (i + 1)).2.length → (upd fr1 (f2_c (f2_d (x_tA pl0 se0) (x_tB pl0 se0) (x_tC pl0 se0) (x_ct pl0 2 255)) i).2.length (nI (f2_F (x_tA pl0 se0) (x_ct pl0 2 255) (f2_r (f2_c (f2_d (x_tA pl0 se0) (x_tB pl0 se0) (x_tC pl0 se0) (x_ct pl0 2 255)) i).1 24 0 ((f2_d (x_tA pl0 se0) (x_tB pl0 se0) (x_tC pl0 se0) (x_ct pl0 2 255)) (2 ^ i) + 2 ^ 24 * 2 ^ i) / 2 ^ 24)))) j = nI (f2_F (x_tA pl0 se0) (x_ct pl0 2 255) (f2_g (f2_c (f2_d (x_tA pl0 se0) (x_tB pl0 se0) (x_tC pl0 se0) (x_ct pl0 2 255)) (i + 1)).2 j)) ∧ (upd ba1 (f2_c (f2_d (x_tA pl0 se0) (x_tB pl0 se0) (x_tC pl0 se0) (x_ct pl0 2 255)) i).2.length (nI (f2_F (x_tB pl0 se0) (x_ct pl0 2 255) (f2_r (f2_c (f2_d (x_tA pl0 se0) (x_tB pl0 se0) (x_tC pl0 se0) (x_ct pl0 2 255)) i).1 24 0 ((f2_d (x_tA pl0 se0) (x_tB pl0 se0) (x_tC pl0 se0) (x_ct pl0 2 255)) (2 ^ i) + 2 ^ 24 * 2 ^ i) / 2 ^ 24)))) j = nI (f2_F (x_tB pl0 se0) (x_ct pl0 2 255) (f2_g (f2_c (f2_d (x_tA pl0 se0) (x_tB pl0 se0) (x_tC pl0 se0) (x_ct pl0 2 255)) (i + 1)).2 j))) := by
        rw [hc2]
        intro j hj
        have hj : j < ((f2_c (f2_d (x_tA pl0 se0) (x_tB pl0 se0) (x_tC pl0 se0) (x_ct pl0 2 255)) i).2 ++ [(f2_r (f2_c (f2_d (x_tA pl0 se0) (x_tB pl0 se0) (x_tC pl0 se0) (x_ct pl0 2 255)) i).1 24 0 ((f2_d (x_tA pl0 se0) (x_tB pl0 se0) (x_tC pl0 se0) (x_ct pl0 2 255)) (2 ^ i) + 2 ^ 24 * 2 ^ i) / 2 ^ 24)]).length := hj
        rw [List.length_append] at hj
        have hj : j < (f2_c (f2_d (x_tA pl0 se0) (x_tB pl0 se0) (x_tC pl0 se0) (x_ct pl0 2 255)) i).2.length + 1 := hj
        show upd _ _ _ j = nI (f2_F _ _ (f2_g ((f2_c (f2_d (x_tA pl0 se0) (x_tB pl0 se0) (x_tC pl0 se0) (x_ct pl0 2 255)) i).2 ++ [(f2_r (f2_c (f2_d (x_tA pl0 se0) (x_tB pl0 se0) (x_tC pl0 se0) (x_ct pl0 2 255)) i).1 24 0 ((f2_d (x_tA pl0 se0) (x_tB pl0 se0) (x_tC pl0 se0) (x_ct pl0 2 255)) (2 ^ i) + 2 ^ 24 * 2 ^ i) / 2 ^ 24)]) j)) ∧ upd _ _ _ j = nI (f2_F _ _ (f2_g ((f2_c (f2_d (x_tA pl0 se0) (x_tB pl0 se0) (x_tC pl0 se0) (x_ct pl0 2 255)) i).2 ++ [(f2_r (f2_c (f2_d (x_tA pl0 se0) (x_tB pl0 se0) (x_tC pl0 se0) (x_ct pl0 2 255)) i).1 24 0 ((f2_d (x_tA pl0 se0) (x_tB pl0 se0) (x_tC pl0 se0) (x_ct pl0 2 255)) (2 ^ i) + 2 ^ 24 * 2 ^ i) / 2 ^ 24)]) j))
        rw [x_ui, x_ui]
        by_cases q : j = (f2_c (f2_d (x_tA pl0 se0) (x_tB pl0 se0) (x_tC pl0 se0) (x_ct pl0 2 255)) i).2.length
        · rw [if_pos q, if_pos q, q, f2_g_r]
          exact ⟨rfl, rfl⟩
        · rw [if_neg q, if_neg q, f2_g_l _ _ _ (by omega)]
          exact hF j (by omega)
      refine mm_T.s rfl rfl rfl (fun _ => rfl) ?_
      refine mm_T.gf rfl rfl rfl rfl rfl ?_
      refine mm_T.s rfl rfl rfl (fun _ => rfl) ?_
      refine mm_T.ivw rfl rfl rfl rfl rfl rfl (q_red hR3 hx) ?_
      rintro _ _ ⟨rfl, rfl⟩
      refine mm_T.s rfl rfl rfl (fun _ => rfl) ?_
      refine mm_T.s rfl rfl rfl (fun _ => rfl) ?_
      refine mm_T.tl (y := lN (f2_r (f2_c (f2_d (x_tA pl0 se0) (x_tB pl0 se0) (x_tC pl0 se0) (x_ct pl0 2 255)) i).1 24 0 ((f2_d (x_tA pl0 se0) (x_tB pl0 se0) (x_tC pl0 se0) (x_ct pl0 2 255)) (2 ^ i) + 2 ^ 24 * 2 ^ i) / 2 ^ 24)) (f2_ls (b := 24) (by omega) (by decide)) ?_
      refine mm_T.s rfl rfl rfl (fun _ => rfl) ?_
      refine mm_T.ti _ (f2_l2i (by omega)) ?_
      refine mm_T.s rfl rfl rfl (fun _ => rfl) ?_
      refine mm_T.s rfl rfl rfl (fun _ => rfl) ?_
      refine mm_T.gf rfl rfl rfl rfl rfl ?_
      refine mm_T.s rfl rfl rfl (fun _ => rfl) ?_
      refine mm_T.s rfl rfl rfl (fun _ => rfl) ?_
      refine mm_T.s rfl rfl rfl (fun _ => rfl) ?_
      refine mm_T.s rfl rfl rfl (fun _ => rfl) ?_
      refine mm_T.ivw rfl rfl rfl rfl rfl rfl (q_triF0 hI hz24) ?_
      rintro _ _ ⟨rfl, rfl⟩
      refine mm_T.isN rfl rfl rfl (by omega) (by decide) rfl ?_
      refine mm_T.s rfl rfl rfl (fun _ => rfl) ?_
      refine mm_T.gf rfl rfl rfl rfl rfl ?_
      refine mm_T.s rfl rfl rfl (fun _ => rfl) ?_
      refine mm_T.s rfl rfl rfl (fun _ => rfl) ?_
      refine mm_T.s rfl rfl rfl (fun _ => rfl) ?_
      refine mm_T.s rfl rfl rfl (fun _ => rfl) ?_
      refine mm_T.ivw rfl rfl rfl rfl rfl rfl (q_triB0 hI hz24) ?_
      rintro _ _ ⟨rfl, rfl⟩
      refine mm_T.isN rfl rfl rfl (by omega) (by decide) rfl ?_
      refine mm_T.s rfl rfl rfl (fun _ => rfl) ?_
      refine mm_T.s rfl rfl rfl (fun _ => rfl) ?_
      refine mm_T.s rfl rfl rfl (fun _ => rfl) ?_
      exact K _ _ ⟨_, _, _, _, _, _, _, _, hl2, nI_1 i, hR4, hF2, rfl, rfl⟩
  · skip
    rintro _ _ ⟨x2, x3, y4, y5, y6, fr1, ba1, rw2, rfl, rfl, hR, hF, rfl, rfl⟩
    have S1 : mm_EC kM 4 [.ref 1, .int (nI 1)] (kC pl0 ke0 sz0 se0 gr0 pl1 ke1 sz1 se1 gr1 im ce wo pv fa pm pw fr1 ba1 rw2 ro co mo mi ki M) (some (.int (nI (x_ct pl0 1 255))), (kC pl0 ke0 sz0 se0 gr0 pl1 ke1 sz1 se1 gr1 im ce wo pv fa pm pw fr1 ba1 rw2 ro co mo mi ki M)) := by
      rw [← x_m_a (a := 1) (by decide)]
      exact v_sz0 hI (nI 1)
    refine mm_T.s rfl rfl rfl (fun _ => rfl) ?_
    refine mm_T.s rfl rfl rfl (fun _ => rfl) ?_
    refine mm_T.s rfl rfl rfl (fun _ => rfl) ?_
    refine mm_T.iv rfl rfl rfl rfl rfl rfl S1 ?_
    refine mm_T.s rfl rfl rfl (fun _ => if_pos (nI_le (Nat.le_refl _) (by omega))) ?_
    refine mm_T.s rfl rfl rfl (fun _ => rfl) ?_
    exact mm_T.ret rfl rfl rfl (⟨rfl, _, _, _, hR, hF, rfl⟩)
theorem q_products0 {pl0 ke0 sz0 se0 gr0 pl1 ke1 sz1 se1 gr1 im ce wo pv fa pm pw fr ba : Nat → Int32} {rw : Nat → Int64} {ro co mo : Int32} {mi : Int64} {ki : Int32} {M : mm_H} (hI : x_CI pl0 sz0 se0) : mm_TC kM 51 [.ref 0, .int 0] (kC pl0 ke0 sz0 se0 gr0 pl1 ke1 sz1 se1 gr1 im ce wo pv fa pm pw fr ba rw ro co mo mi ki M) (fun v h => (∃ o, f2_O (x_tA pl0 se0) (x_tB pl0 se0) (x_tC pl0 se0) (x_ct pl0 2 255) (x_ct pl0 1 255) o ∧ v = some (.int (nI o))) ∧ x_GR pl0 ke0 sz0 se0 gr0 pl1 ke1 sz1 se1 gr1 im M h) := by
  have hle := hI.le (k := 1) (by decide)
  have hle2 := hI.le (k := 2) (by decide)
  have hlen := f2_c_len (f2_d (x_tA pl0 se0) (x_tB pl0 se0) (x_tC pl0 se0) (x_ct pl0 2 255)) (x_ct pl0 1 255)
  have ck := f2_c_ok (D := (f2_d (x_tA pl0 se0) (x_tB pl0 se0) (x_tC pl0 se0) (x_ct pl0 2 255))) (f2_d_0 _ _ _ _) (f2_d_x _ _ _ _) (fun x => f2_24 (f2_d_lt _ _ _ _ _) hle2) (x_ct pl0 1 255)
  refine mm_TC.of (M := kq_51) rfl rfl ?_
  refine mm_T.s rfl rfl rfl (fun _ => rfl) ?_
  refine mm_T.s rfl rfl rfl (fun _ => rfl) ?_
  refine mm_T.iv rfl rfl rfl rfl rfl rfl v_cx0 ?_
  refine mm_T.s rfl rfl rfl (fun _ => rfl) ?_
  refine mm_T.s rfl rfl rfl (fun _ => rfl) ?_
  refine mm_T.s rfl rfl rfl (fun _ => rfl) ?_
  refine mm_T.s rfl rfl rfl (fun _ => rfl) ?_
  refine mm_T.s rfl rfl rfl (fun _ => rfl) ?_
  refine mm_T.ivw rfl rfl rfl rfl rfl rfl (q_fc0 hI) ?_
  rintro _ _ ⟨rfl, fr1, ba1, rw2, hR, hF, rfl⟩
  refine mm_T.s rfl rfl rfl (fun _ => rfl) ?_
  refine mm_T.s rfl rfl rfl (fun _ => rfl) ?_
  refine mm_T.s rfl rfl rfl (fun _ => rfl) ?_
  refine mm_T.s rfl rfl rfl (fun _ => rfl) ?_
  refine mm_T.s rfl rfl rfl (fun _ => rfl) ?_
  refine mm_T.up (n := (f2_c (f2_d (x_tA pl0 se0) (x_tB pl0 se0) (x_tC pl0 se0) (x_ct pl0 2 255)) (x_ct pl0 1 255)).2.length) (P := fun i L h => ∃ (x4 x5 : Int32) (y6 : Option Value) (rw3 : Nat → Int64) (o : Nat) (r : Nat → Nat), x4 = nI o ∧ x5 = nI i ∧ f2_R rw3 r ∧ f2_lo r ∧ f2_Y (f2_L (f2_w (f2_c (f2_d (x_tA pl0 se0) (x_tB pl0 se0) (x_tC pl0 se0) (x_ct pl0 2 255)) (x_ct pl0 1 255)).1) 24 0) (f2_c (f2_d (x_tA pl0 se0) (x_tB pl0 se0) (x_tC pl0 se0) (x_ct pl0 2 255)) (x_ct pl0 1 255)).2 (f2_p (x_tA pl0 se0) (x_tB pl0 se0) (x_ct pl0 2 255)) (f2_L (f2_w r) 24 0) o i 0 ∧ L = [some (.ref 0), some (.int 0), some (.ref 1), some (.int (nI (f2_c (f2_d (x_tA pl0 se0) (x_tB pl0 se0) (x_tC pl0 se0) (x_ct pl0 2 255)) (x_ct pl0 1 255)).2.length)), some (.int x4), some (.int x5), y6] ∧ h = (kC pl0 ke0 sz0 se0 gr0 pl1 ke1 sz1 se1 gr1 im ce wo pv fa pm pw fr1 ba1 rw3 ro co mo mi ki M)) ?_ ?_ 0 (Nat.zero_le _) _ _ ⟨_, _, _, _, 0, _, rfl, rfl, hR, ck.1, f2_Y_0 (f2_lo_i (f2_lo_w ck.1) 24 0 (Nat.le_refl _)), rfl, rfl⟩
  · skip
    rintro i _ _ hi ⟨x4, x5, y6, rw3, o, r, rfl, rfl, hR, hlo, hY, rfl, rfl⟩ K
    refine mm_T.s rfl rfl rfl (fun _ => rfl) ?_
    refine mm_T.s rfl rfl rfl (fun _ => rfl) ?_
    refine mm_T.s rfl rfl rfl (fun _ => if_neg (nI_ge hi (by omega))) ?_
    refine mm_T.s rfl rfl rfl (fun _ => rfl) ?_
    refine mm_T.s rfl rfl rfl (fun _ => rfl) ?_
    refine mm_T.up (n := (f2_c (f2_d (x_tA pl0 se0) (x_tB pl0 se0) (x_tC pl0 se0) (x_ct pl0 2 255)) (x_ct pl0 1 255)).2.length) (P := fun j L h => ∃ (x4 x6 : Int32) (rw3 : Nat → Int64) (o : Nat) (r : Nat → Nat), x4 = nI o ∧ x6 = nI j ∧ f2_R rw3 r ∧ f2_lo r ∧ f2_Y (f2_L (f2_w (f2_c (f2_d (x_tA pl0 se0) (x_tB pl0 se0) (x_tC pl0 se0) (x_ct pl0 2 255)) (x_ct pl0 1 255)).1) 24 0) (f2_c (f2_d (x_tA pl0 se0) (x_tB pl0 se0) (x_tC pl0 se0) (x_ct pl0 2 255)) (x_ct pl0 1 255)).2 (f2_p (x_tA pl0 se0) (x_tB pl0 se0) (x_ct pl0 2 255)) (f2_L (f2_w r) 24 0) o i j ∧ L = [some (.ref 0), some (.int 0), some (.ref 1), some (.int (nI (f2_c (f2_d (x_tA pl0 se0) (x_tB pl0 se0) (x_tC pl0 se0) (x_ct pl0 2 255)) (x_ct pl0 1 255)).2.length)), some (.int x4), some (.int (nI i)), some (.int x6)] ∧ h = (kC pl0 ke0 sz0 se0 gr0 pl1 ke1 sz1 se1 gr1 im ce wo pv fa pm pw fr1 ba1 rw3 ro co mo mi ki M)) ?_ ?_ 0 (Nat.zero_le _) _ _ ⟨_, _, _, _, _, rfl, rfl, hR, hlo, hY, rfl, rfl⟩
    · skip
      rintro j _ _ hj ⟨x4, x6, rw3, o, r, rfl, rfl, hR, hlo, hY, rfl, rfl⟩ K2
      have hx : ((f2_p (x_tA pl0 se0) (x_tB pl0 se0) (x_ct pl0 2 255)) (f2_g (f2_c (f2_d (x_tA pl0 se0) (x_tB pl0 se0) (x_tC pl0 se0) (x_ct pl0 2 255)) (x_ct pl0 1 255)).2 i) (f2_g (f2_c (f2_d (x_tA pl0 se0) (x_tB pl0 se0) (x_tC pl0 se0) (x_ct pl0 2 255)) (x_ct pl0 1 255)).2 j)) < 2 ^ 24 := f2_24 (f2_p_lt _ _ _ _ _) hle2
      have hand : fr1 i &&& ba1 j = nI ((f2_p (x_tA pl0 se0) (x_tB pl0 se0) (x_ct pl0 2 255)) (f2_g (f2_c (f2_d (x_tA pl0 se0) (x_tB pl0 se0) (x_tC pl0 se0) (x_ct pl0 2 255)) (x_ct pl0 1 255)).2 i) (f2_g (f2_c (f2_d (x_tA pl0 se0) (x_tB pl0 se0) (x_tC pl0 se0) (x_ct pl0 2 255)) (x_ct pl0 1 255)).2 j)) := by
        have u1 := f2_24 (f2_F_lt (x_tA pl0 se0) (x_ct pl0 2 255) (f2_g (f2_c (f2_d (x_tA pl0 se0) (x_tB pl0 se0) (x_tC pl0 se0) (x_ct pl0 2 255)) (x_ct pl0 1 255)).2 i)) hle2
        have u2 := f2_24 (f2_F_lt (x_tB pl0 se0) (x_ct pl0 2 255) (f2_g (f2_c (f2_d (x_tA pl0 se0) (x_tB pl0 se0) (x_tC pl0 se0) (x_ct pl0 2 255)) (x_ct pl0 1 255)).2 j)) hle2
        rw [(hF i hi).1, (hF j hj).2, f2_ia (by omega) (by omega), f2_FP]
      have tk := f2_t_ok hlo ((f2_p (x_tA pl0 se0) (x_tB pl0 se0) (x_ct pl0 2 255)) (f2_g (f2_c (f2_d (x_tA pl0 se0) (x_tB pl0 se0) (x_tC pl0 se0) (x_ct pl0 2 255)) (x_ct pl0 1 255)).2 i) (f2_g (f2_c (f2_d (x_tA pl0 se0) (x_tB pl0 se0) (x_tC pl0 se0) (x_ct pl0 2 255)) (x_ct pl0 1 255)).2 j))
      rw [Nat.mod_eq_of_lt hx] at tk
      have hY2 := f2_Y_s hY hi hj (f2_lo_i (f2_lo_w tk.1) 24 0 (Nat.le_refl _)) tk.2.1 tk.2.2
      refine mm_T.s rfl rfl rfl (fun _ => rfl) ?_
      refine mm_T.s rfl rfl rfl (fun _ => rfl) ?_
      refine mm_T.s rfl rfl rfl (fun _ => if_neg (nI_ge hj (by omega))) ?_
      refine mm_T.s rfl rfl rfl (fun _ => rfl) ?_
      refine mm_T.gf rfl rfl rfl rfl rfl ?_
      refine mm_T.s rfl rfl rfl (fun _ => rfl) ?_
      refine mm_T.gf rfl rfl rfl rfl rfl ?_
      refine mm_T.s rfl rfl rfl (fun _ => rfl) ?_
      refine mm_T.iaN rfl rfl rfl (by omega) (by decide) rfl ?_
      refine mm_T.s rfl rfl rfl (fun _ => rfl) ?_
      refine mm_T.gf rfl rfl rfl rfl rfl ?_
      refine mm_T.s rfl rfl rfl (fun _ => rfl) ?_
      refine mm_T.iaN rfl rfl rfl (by omega) (by decide) rfl ?_
      refine mm_T.s rfl rfl rfl (fun _ => rfl) ?_
      refine mm_T.ti _ hand ?_
      refine mm_T.s rfl rfl rfl (fun _ => rfl) ?_
      refine mm_T.tl (f2_i2l (by omega)) ?_
      refine mm_T.ivw rfl rfl rfl rfl rfl rfl (q_take hR (by omega)) ?_
      rintro _ _ ⟨rfl, rw4, hR4, rfl⟩
      refine mm_T.cz rfl rfl (fun hb62 => ?_) (fun hb62 => ?_)
      · skip
        have ho : (f2_t r ((f2_p (x_tA pl0 se0) (x_tB pl0 se0) (x_ct pl0 2 255)) (f2_g (f2_c (f2_d (x_tA pl0 se0) (x_tB pl0 se0) (x_tC pl0 se0) (x_ct pl0 2 255)) (x_ct pl0 1 255)).2 i) (f2_g (f2_c (f2_d (x_tA pl0 se0) (x_tB pl0 se0) (x_tC pl0 se0) (x_ct pl0 2 255)) (x_ct pl0 1 255)).2 j))).2 = 0 := (f2_t_01 _ _).resolve_right (fun q => absurd hb62 (show ¬ _ = _ from by rw [q]; decide))
        have ho2 : nI o = nI (o + (f2_t r ((f2_p (x_tA pl0 se0) (x_tB pl0 se0) (x_ct pl0 2 255)) (f2_g (f2_c (f2_d (x_tA pl0 se0) (x_tB pl0 se0) (x_tC pl0 se0) (x_ct pl0 2 255)) (x_ct pl0 1 255)).2 i) (f2_g (f2_c (f2_d (x_tA pl0 se0) (x_tB pl0 se0) (x_tC pl0 se0) (x_ct pl0 2 255)) (x_ct pl0 1 255)).2 j))).2) := by rw [ho]; rfl
        refine mm_T.s rfl rfl rfl (fun _ => rfl) ?_
        refine mm_T.s rfl rfl rfl (fun _ => rfl) ?_
        exact K2 _ _ ⟨_, _, _, _, _, ho2, nI_1 j, hR4, tk.1, hY2, rfl, rfl⟩
      · skip
        have ho : (f2_t r ((f2_p (x_tA pl0 se0) (x_tB pl0 se0) (x_ct pl0 2 255)) (f2_g (f2_c (f2_d (x_tA pl0 se0) (x_tB pl0 se0) (x_tC pl0 se0) (x_ct pl0 2 255)) (x_ct pl0 1 255)).2 i) (f2_g (f2_c (f2_d (x_tA pl0 se0) (x_tB pl0 se0) (x_tC pl0 se0) (x_ct pl0 2 255)) (x_ct pl0 1 255)).2 j))).2 = 1 := (f2_t_01 _ _).resolve_left (fun q => hb62 (show _ = _ from by rw [q]; rfl))
        have ho2 : nI o + 1 = nI (o + (f2_t r ((f2_p (x_tA pl0 se0) (x_tB pl0 se0) (x_ct pl0 2 255)) (f2_g (f2_c (f2_d (x_tA pl0 se0) (x_tB pl0 se0) (x_tC pl0 se0) (x_ct pl0 2 255)) (x_ct pl0 1 255)).2 i) (f2_g (f2_c (f2_d (x_tA pl0 se0) (x_tB pl0 se0) (x_tC pl0 se0) (x_ct pl0 2 255)) (x_ct pl0 1 255)).2 j))).2) := by rw [ho]; exact nI_1 o
        refine mm_T.s rfl rfl rfl (fun _ => rfl) ?_
        refine mm_T.s rfl rfl rfl (fun _ => rfl) ?_
        refine mm_T.s rfl rfl rfl (fun _ => rfl) ?_
        exact K2 _ _ ⟨_, _, _, _, _, ho2, nI_1 j, hR4, tk.1, hY2, rfl, rfl⟩
    · skip
      rintro _ _ ⟨x4, x6, rw3, o, r, rfl, rfl, hR, hlo, hY, rfl, rfl⟩
      refine mm_T.s rfl rfl rfl (fun _ => rfl) ?_
      refine mm_T.s rfl rfl rfl (fun _ => rfl) ?_
      refine mm_T.s rfl rfl rfl (fun _ => if_pos (nI_le (Nat.le_refl _) (by omega))) ?_
      refine mm_T.s rfl rfl rfl (fun _ => rfl) ?_
      refine mm_T.s rfl rfl rfl (fun _ => rfl) ?_
      exact K _ _ ⟨_, _, _, _, _, _, rfl, nI_1 i, hR, hlo, f2_Y_n hY, rfl, rfl⟩
  · skip
    rintro _ _ ⟨x4, x5, y6, rw3, o, r, rfl, rfl, hR, hlo, hY, rfl, rfl⟩
    refine mm_T.s rfl rfl rfl (fun _ => rfl) ?_
    refine mm_T.s rfl rfl rfl (fun _ => rfl) ?_
    refine mm_T.s rfl rfl rfl (fun _ => if_pos (nI_le (Nat.le_refl _) (by omega))) ?_
    refine mm_T.s rfl rfl rfl (fun _ => rfl) ?_
    exact mm_T.ret rfl rfl rfl (⟨⟨o, ⟨_, _, _, hY, f2_lo_i (f2_lo_w ck.1) 24 0 (Nat.le_refl _), ck.2.2.2.2, ck.2.2.1, fun z hz hd => f2_c_all (f2_d_0 _ _ _ _) (f2_d_x _ _ _ _) (fun x => f2_24 (f2_d_lt _ _ _ _ _) hle2) hz hd⟩, rfl⟩, _, _, _, _, _, _, _, _, _, _, _, _, _, _, rfl⟩)
theorem q_cob1 {pl0 ke0 sz0 se0 gr0 pl1 ke1 sz1 se1 gr1 im ce wo pv fa pm pw fr ba : Nat → Int32} {rw : Nat → Int64} {ro co mo : Int32} {mi : Int64} {ki : Int32} {M : mm_H} (hI : x_CI pl1 sz1 se1) {e : Nat} (he : e < (x_ct pl1 1 255)) : mm_TC kM 14 [.ref 7, .int (nI e)] (kC pl0 ke0 sz0 se0 gr0 pl1 ke1 sz1 se1 gr1 im ce wo pv fa pm pw fr ba rw ro co mo mi ki M) (fun v h => v = some (.int (nI ((f2_d (x_tA pl1 se1) (x_tB pl1 se1) (x_tC pl1 se1) (x_ct pl1 2 255)) (2 ^ e)))) ∧ h = (kC pl0 ke0 sz0 se0 gr0 pl1 ke1 sz1 se1 gr1 im ce wo pv fa pm pw fr ba rw ro co mo mi ki M)) := by
  have S2 : mm_EC kM 4 [.ref 7, .int (nI 2)] (kC pl0 ke0 sz0 se0 gr0 pl1 ke1 sz1 se1 gr1 im ce wo pv fa pm pw fr ba rw ro co mo mi ki M) (some (.int (nI (x_ct pl1 2 255))), (kC pl0 ke0 sz0 se0 gr0 pl1 ke1 sz1 se1 gr1 im ce wo pv fa pm pw fr ba rw ro co mo mi ki M)) := by
    rw [← x_m_a (a := 2) (by decide)]
    exact v_sz1 hI (nI 2)
  have hle := hI.le (k := 2) (by decide)
  have hle1 := hI.le (k := 1) (by decide)
  refine mm_TC.of (M := kq_14) rfl rfl ?_
  refine mm_T.s rfl rfl rfl (fun _ => rfl) ?_
  refine mm_T.s rfl rfl rfl (fun _ => rfl) ?_
  refine mm_T.s rfl rfl rfl (fun _ => rfl) ?_
  refine mm_T.iv rfl rfl rfl rfl rfl rfl (v_setAt1 (a := 1) (j := e) (by omega)) ?_
  refine mm_T.s rfl rfl rfl (fun _ => rfl) ?_
  refine mm_T.s rfl rfl rfl (fun _ => rfl) ?_
  refine mm_T.s rfl rfl rfl (fun _ => rfl) ?_
  refine mm_T.s rfl rfl rfl (fun _ => rfl) ?_
  refine mm_T.s rfl rfl rfl (fun _ => rfl) ?_
  refine mm_T.up (n := (x_ct pl1 2 255)) (P := fun i L h => ∃ x3 x4 : Int32, x4 = nI i ∧ x3 = nI (f2_b (fun t => ((2 ^ e).testBit ((x_tA pl1 se1) t)).xor (((2 ^ e).testBit ((x_tB pl1 se1) t)).xor ((2 ^ e).testBit ((x_tC pl1 se1) t)))) i) ∧ L = [some (.ref 7), some (.int (nI e)), some (.int (se1 (1 * 24 + e))), some (.int x3), some (.int x4)] ∧ h = (kC pl0 ke0 sz0 se0 gr0 pl1 ke1 sz1 se1 gr1 im ce wo pv fa pm pw fr ba rw ro co mo mi ki M)) ?_ ?_ 0 (Nat.zero_le _) _ _ ⟨_, _, rfl, rfl, rfl, rfl⟩
  · skip
    rintro i _ _ hi ⟨x3, x4, rfl, rfl, rfl, rfl⟩ K
    obtain ⟨h1, h2, h3, h4, h5, h6⟩ := x_tS_ok hI hi
    have hc := x_tc hI hi he
    have E2 : mm_EC kM 5 [.ref 7, .int (nI 2), .int (nI i)] (kC pl0 ke0 sz0 se0 gr0 pl1 ke1 sz1 se1 gr1 im ce wo pv fa pm pw fr ba rw ro co mo mi ki M) (some (.int (nI (x_tS se1 i))), (kC pl0 ke0 sz0 se0 gr0 pl1 ke1 sz1 se1 gr1 im ce wo pv fa pm pw fr ba rw ro co mo mi ki M)) := by
      rw [← h3]
      exact v_setAt1 (a := 2) (by omega)
    refine mm_T.s rfl rfl rfl (fun _ => rfl) ?_
    refine mm_T.s rfl rfl rfl (fun _ => rfl) ?_
    refine mm_T.s rfl rfl rfl (fun _ => rfl) ?_
    refine mm_T.iv rfl rfl rfl rfl rfl rfl S2 ?_
    refine mm_T.s rfl rfl rfl (fun _ => if_neg (nI_ge hi (by omega))) ?_
    refine mm_T.s rfl rfl rfl (fun _ => rfl) ?_
    refine mm_T.s rfl rfl rfl (fun _ => rfl) ?_
    refine mm_T.s rfl rfl rfl (fun _ => rfl) ?_
    refine mm_T.iv rfl rfl rfl rfl rfl rfl E2 ?_
    refine mm_T.s rfl rfl rfl (fun _ => rfl) ?_
    refine mm_T.s rfl rfl rfl (fun _ => rfl) ?_
    refine mm_T.s rfl rfl rfl (fun _ => rfl) ?_
    refine mm_T.ci rfl rfl (fun hb32 => ?_) (fun hb32 => ?_)
    · skip
      have hz : (fun t => ((2 ^ e).testBit ((x_tA pl1 se1) t)).xor (((2 ^ e).testBit ((x_tB pl1 se1) t)).xor ((2 ^ e).testBit ((x_tC pl1 se1) t)))) i = false := Bool.eq_false_iff.mpr (fun q => hb32 (hc.mpr q))
      have hnx : nI (f2_b (fun t => ((2 ^ e).testBit ((x_tA pl1 se1) t)).xor (((2 ^ e).testBit ((x_tB pl1 se1) t)).xor ((2 ^ e).testBit ((x_tC pl1 se1) t)))) i) = nI (f2_b (fun t => ((2 ^ e).testBit ((x_tA pl1 se1) t)).xor (((2 ^ e).testBit ((x_tB pl1 se1) t)).xor ((2 ^ e).testBit ((x_tC pl1 se1) t)))) (i + 1)) := congrArg nI (f2_b0 hz).symm
      refine mm_T.s rfl rfl rfl (fun _ => rfl) ?_
      refine mm_T.s rfl rfl rfl (fun _ => rfl) ?_
      exact K _ _ ⟨_, _, nI_1 i, hnx, rfl, rfl⟩
    · skip
      have hz : (fun t => ((2 ^ e).testBit ((x_tA pl1 se1) t)).xor (((2 ^ e).testBit ((x_tB pl1 se1) t)).xor ((2 ^ e).testBit ((x_tC pl1 se1) t)))) i = true := hc.mp (Classical.not_not.mp hb32)
      have hnx : nI (f2_b (fun t => ((2 ^ e).testBit ((x_tA pl1 se1) t)).xor (((2 ^ e).testBit ((x_tB pl1 se1) t)).xor ((2 ^ e).testBit ((x_tC pl1 se1) t)))) (i + 1)) = nI (f2_b (fun t => ((2 ^ e).testBit ((x_tA pl1 se1) t)).xor (((2 ^ e).testBit ((x_tB pl1 se1) t)).xor ((2 ^ e).testBit ((x_tC pl1 se1) t)))) (i + 1)) := rfl
      refine mm_T.s rfl rfl rfl (fun _ => rfl) ?_
      refine mm_T.s rfl rfl rfl (fun _ => rfl) ?_
      refine mm_T.s rfl rfl rfl (fun _ => rfl) ?_
      refine mm_T.s rfl rfl rfl (fun _ => rfl) ?_
      refine mm_T.ti _ (f2_1s (by omega)) ?_
      refine mm_T.s rfl rfl rfl (fun _ => rfl) ?_
      refine mm_T.ti (nI (f2_b (fun t => ((2 ^ e).testBit ((x_tA pl1 se1) t)).xor (((2 ^ e).testBit ((x_tB pl1 se1) t)).xor ((2 ^ e).testBit ((x_tC pl1 se1) t)))) (i + 1))) (by rw [f2_b1 hz]; exact x_or _ _) ?_
      refine mm_T.s rfl rfl rfl (fun _ => rfl) ?_
      refine mm_T.s rfl rfl rfl (fun _ => rfl) ?_
      refine mm_T.s rfl rfl rfl (fun _ => rfl) ?_
      exact K _ _ ⟨_, _, nI_1 i, hnx, rfl, rfl⟩
  · skip
    rintro _ _ ⟨x3, x4, rfl, rfl, rfl, rfl⟩
    refine mm_T.s rfl rfl rfl (fun _ => rfl) ?_
    refine mm_T.s rfl rfl rfl (fun _ => rfl) ?_
    refine mm_T.s rfl rfl rfl (fun _ => rfl) ?_
    refine mm_T.iv rfl rfl rfl rfl rfl rfl S2 ?_
    refine mm_T.s rfl rfl rfl (fun _ => if_pos (nI_le (Nat.le_refl _) (by omega))) ?_
    refine mm_T.s rfl rfl rfl (fun _ => rfl) ?_
    exact mm_T.ret rfl rfl rfl (⟨rfl, rfl⟩)
theorem q_triF1 {pl0 ke0 sz0 se0 gr0 pl1 ke1 sz1 se1 gr1 im ce wo pv fa pm pw fr ba : Nat → Int32} {rw : Nat → Int64} {ro co mo : Int32} {mi : Int64} {ki : Int32} {M : mm_H} (hI : x_CI pl1 sz1 se1) {z : Nat} (hz0 : z < 2 ^ 24) : mm_TC kM 15 [.ref 7, .int (nI z), .int 1] (kC pl0 ke0 sz0 se0 gr0 pl1 ke1 sz1 se1 gr1 im ce wo pv fa pm pw fr ba rw ro co mo mi ki M) (fun v h => v = some (.int (nI (f2_F (x_tA pl1 se1) (x_ct pl1 2 255) z))) ∧ h = (kC pl0 ke0 sz0 se0 gr0 pl1 ke1 sz1 se1 gr1 im ce wo pv fa pm pw fr ba rw ro co mo mi ki M)) := by
  have S2 : mm_EC kM 4 [.ref 7, .int (nI 2)] (kC pl0 ke0 sz0 se0 gr0 pl1 ke1 sz1 se1 gr1 im ce wo pv fa pm pw fr ba rw ro co mo mi ki M) (some (.int (nI (x_ct pl1 2 255))), (kC pl0 ke0 sz0 se0 gr0 pl1 ke1 sz1 se1 gr1 im ce wo pv fa pm pw fr ba rw ro co mo mi ki M)) := by
    rw [← x_m_a (a := 2) (by decide)]
    exact v_sz1 hI (nI 2)
  have hle := hI.le (k := 2) (by decide)
  have hle1 := hI.le (k := 1) (by decide)
  refine mm_TC.of (M := kq_15) rfl rfl ?_
  refine mm_T.s rfl rfl rfl (fun _ => rfl) ?_
  refine mm_T.s rfl rfl rfl (fun _ => rfl) ?_
  refine mm_T.s rfl rfl rfl (fun _ => rfl) ?_
  refine mm_T.s rfl rfl rfl (fun _ => rfl) ?_
  refine mm_T.up (n := (x_ct pl1 2 255)) (P := fun i L h => ∃ (x3 x4 : Int32) (y5 y6 y7 y8 : Option Value), x4 = nI i ∧ x3 = nI (f2_b (fun t => z.testBit ((x_tA pl1 se1) t)) i) ∧ L = [some (.ref 7), some (.int (nI z)), some (.int 1), some (.int x3), some (.int x4), y5, y6, y7, y8] ∧ h = (kC pl0 ke0 sz0 se0 gr0 pl1 ke1 sz1 se1 gr1 im ce wo pv fa pm pw fr ba rw ro co mo mi ki M)) ?_ ?_ 0 (Nat.zero_le _) _ _ ⟨_, _, _, _, _, _, rfl, rfl, rfl, rfl⟩
  · skip
    rintro i _ _ hi ⟨x3, x4, y5, y6, y7, y8, rfl, rfl, rfl, rfl⟩ K
    obtain ⟨h1, h2, h3, h4, h5, h6⟩ := x_tS_ok hI hi
    obtain ⟨g1, g2, g3, ⟨a1, a2, a3, a4⟩, ⟨b1, b2, b3, b4⟩, -, -, -, -⟩ := t_p h2 h4
    obtain ⟨⟨pA, -, lA⟩, ⟨pB, -, lB⟩, -⟩ := x_t3 hI hi
    have E2 : mm_EC kM 5 [.ref 7, .int (nI 2), .int (nI i)] (kC pl0 ke0 sz0 se0 gr0 pl1 ke1 sz1 se1 gr1 im ce wo pv fa pm pw fr ba rw ro co mo mi ki M) (some (.int (nI (x_tS se1 i))), (kC pl0 ke0 sz0 se0 gr0 pl1 ke1 sz1 se1 gr1 im ce wo pv fa pm pw fr ba rw ro co mo mi ki M)) := by
      rw [← h3]
      exact v_setAt1 (a := 2) (by omega)
    have hv : (nI z >>> (pl1 (t_f (x_tS se1 i)) &&& 31)) &&& 1 = nI (if z.testBit ((x_tA pl1 se1) i) then 1 else 0) := by
      rw [pA]
      exact f2_it1 (by omega) (by omega)
    refine mm_T.s rfl rfl rfl (fun _ => rfl) ?_
    refine mm_T.s rfl rfl rfl (fun _ => rfl) ?_
    refine mm_T.s rfl rfl rfl (fun _ => rfl) ?_
    refine mm_T.iv rfl rfl rfl rfl rfl rfl S2 ?_
    refine mm_T.s rfl rfl rfl (fun _ => if_neg (nI_ge hi (by omega))) ?_
    refine mm_T.s rfl rfl rfl (fun _ => rfl) ?_
    refine mm_T.s rfl rfl rfl (fun _ => rfl) ?_
    refine mm_T.s rfl rfl rfl (fun _ => rfl) ?_
    refine mm_T.iv rfl rfl rfl rfl rfl rfl E2 ?_
    refine mm_T.s rfl rfl rfl (fun _ => rfl) ?_
    refine mm_T.s rfl rfl rfl (fun _ => rfl) ?_
    refine mm_T.s rfl rfl rfl (fun _ => rfl) ?_
    refine mm_T.s rfl rfl rfl (fun _ => rfl) ?_
    refine mm_T.s rfl rfl rfl (fun _ => rfl) ?_
    refine mm_T.s rfl rfl rfl (fun _ => rfl) ?_
    refine mm_T.ti _ g1 ?_
    refine mm_T.s rfl rfl rfl (fun _ => rfl) ?_
    refine mm_T.s rfl rfl rfl (fun _ => rfl) ?_
    refine mm_T.s rfl rfl rfl (fun _ => rfl) ?_
    refine mm_T.s rfl rfl rfl (fun _ => rfl) ?_
    refine mm_T.s rfl rfl rfl (fun _ => rfl) ?_
    refine mm_T.ti _ g2 ?_
    refine mm_T.s rfl rfl rfl (fun _ => rfl) ?_
    refine mm_T.s rfl rfl rfl (fun _ => rfl) ?_
    refine mm_T.s rfl rfl rfl (fun _ => rfl) ?_
    refine mm_T.s rfl rfl rfl (fun _ => rfl) ?_
    refine mm_T.s rfl rfl rfl (fun _ => rfl) ?_
    refine mm_T.s rfl rfl rfl (fun _ => rfl) ?_
    refine mm_T.s rfl rfl rfl (fun _ => rfl) ?_
    refine mm_T.s rfl rfl rfl (fun _ => rfl) ?_
    refine mm_T.s rfl rfl rfl (fun _ => rfl) ?_
    refine mm_T.s rfl rfl rfl (fun _ => rfl) ?_
    refine mm_T.ti _ g3 ?_
    refine mm_T.s rfl rfl rfl (fun _ => rfl) ?_
    refine mm_T.s rfl rfl rfl (fun _ => rfl) ?_
    refine mm_T.s rfl rfl rfl (fun _ => rfl) ?_
    refine mm_T.s rfl rfl rfl (fun _ => rfl) ?_
    refine mm_T.gf rfl rfl rfl rfl rfl ?_
    refine mm_T.s rfl rfl rfl (fun _ => rfl) ?_
    refine mm_T.iaN rfl rfl rfl (by omega) (by decide) rfl ?_
    refine mm_T.s rfl rfl rfl (fun _ => rfl) ?_
    refine mm_T.s rfl rfl rfl (fun _ => rfl) ?_
    refine mm_T.s rfl rfl rfl (fun _ => rfl) ?_
    refine mm_T.ti _ hv ?_
    refine mm_T.cz rfl rfl (fun hb72 => ?_) (fun hb72 => ?_)
    · skip
      have hz : (fun t => z.testBit ((x_tA pl1 se1) t)) i = false := Bool.eq_false_iff.mpr (fun q => absurd hb72 (show ¬ _ = _ from by rw [show z.testBit ((x_tA pl1 se1) i) = true from q]; decide))
      have hnx : nI (f2_b (fun t => z.testBit ((x_tA pl1 se1) t)) i) = nI (f2_b (fun t => z.testBit ((x_tA pl1 se1) t)) (i + 1)) := congrArg nI (f2_b0 (f := (fun t => z.testBit ((x_tA pl1 se1) t))) (t := i) hz).symm
      refine mm_T.s rfl rfl rfl (fun _ => rfl) ?_
      refine mm_T.s rfl rfl rfl (fun _ => rfl) ?_
      exact K _ _ ⟨_, _, _, _, _, _, nI_1 i, hnx, rfl, rfl⟩
    · skip
      have hz : (fun t => z.testBit ((x_tA pl1 se1) t)) i = true := eq_true_of_ne_false (fun q => hb72 (show _ = _ from by rw [show z.testBit ((x_tA pl1 se1) i) = false from q]; rfl))
      have hnx : nI (f2_b (fun t => z.testBit ((x_tA pl1 se1) t)) (i + 1)) = nI (f2_b (fun t => z.testBit ((x_tA pl1 se1) t)) (i + 1)) := rfl
      refine mm_T.s rfl rfl rfl (fun _ => rfl) ?_
      refine mm_T.s rfl rfl rfl (fun _ => rfl) ?_
      refine mm_T.s rfl rfl rfl (fun _ => rfl) ?_
      refine mm_T.s rfl rfl rfl (fun _ => rfl) ?_
      refine mm_T.ti _ (f2_1s (by omega)) ?_
      refine mm_T.s rfl rfl rfl (fun _ => rfl) ?_
      refine mm_T.ti (nI (f2_b (fun t => z.testBit ((x_tA pl1 se1) t)) (i + 1))) (by rw [f2_b1 (f := (fun t => z.testBit ((x_tA pl1 se1) t))) (t := i) hz]; exact x_or _ _) ?_
      refine mm_T.s rfl rfl rfl (fun _ => rfl) ?_
      refine mm_T.s rfl rfl rfl (fun _ => rfl) ?_
      refine mm_T.s rfl rfl rfl (fun _ => rfl) ?_
      exact K _ _ ⟨_, _, _, _, _, _, nI_1 i, hnx, rfl, rfl⟩
  · skip
    rintro _ _ ⟨x3, x4, y5, y6, y7, y8, rfl, rfl, rfl, rfl⟩
    refine mm_T.s rfl rfl rfl (fun _ => rfl) ?_
    refine mm_T.s rfl rfl rfl (fun _ => rfl) ?_
    refine mm_T.s rfl rfl rfl (fun _ => rfl) ?_
    refine mm_T.iv rfl rfl rfl rfl rfl rfl S2 ?_
    refine mm_T.s rfl rfl rfl (fun _ => if_pos (nI_le (Nat.le_refl _) (by omega))) ?_
    refine mm_T.s rfl rfl rfl (fun _ => rfl) ?_
    exact mm_T.ret rfl rfl rfl (⟨rfl, rfl⟩)
theorem q_triB1 {pl0 ke0 sz0 se0 gr0 pl1 ke1 sz1 se1 gr1 im ce wo pv fa pm pw fr ba : Nat → Int32} {rw : Nat → Int64} {ro co mo : Int32} {mi : Int64} {ki : Int32} {M : mm_H} (hI : x_CI pl1 sz1 se1) {z : Nat} (hz0 : z < 2 ^ 24) : mm_TC kM 15 [.ref 7, .int (nI z), .int 0] (kC pl0 ke0 sz0 se0 gr0 pl1 ke1 sz1 se1 gr1 im ce wo pv fa pm pw fr ba rw ro co mo mi ki M) (fun v h => v = some (.int (nI (f2_F (x_tB pl1 se1) (x_ct pl1 2 255) z))) ∧ h = (kC pl0 ke0 sz0 se0 gr0 pl1 ke1 sz1 se1 gr1 im ce wo pv fa pm pw fr ba rw ro co mo mi ki M)) := by
  have S2 : mm_EC kM 4 [.ref 7, .int (nI 2)] (kC pl0 ke0 sz0 se0 gr0 pl1 ke1 sz1 se1 gr1 im ce wo pv fa pm pw fr ba rw ro co mo mi ki M) (some (.int (nI (x_ct pl1 2 255))), (kC pl0 ke0 sz0 se0 gr0 pl1 ke1 sz1 se1 gr1 im ce wo pv fa pm pw fr ba rw ro co mo mi ki M)) := by
    rw [← x_m_a (a := 2) (by decide)]
    exact v_sz1 hI (nI 2)
  have hle := hI.le (k := 2) (by decide)
  have hle1 := hI.le (k := 1) (by decide)
  refine mm_TC.of (M := kq_15) rfl rfl ?_
  refine mm_T.s rfl rfl rfl (fun _ => rfl) ?_
  refine mm_T.s rfl rfl rfl (fun _ => rfl) ?_
  refine mm_T.s rfl rfl rfl (fun _ => rfl) ?_
  refine mm_T.s rfl rfl rfl (fun _ => rfl) ?_
  refine mm_T.up (n := (x_ct pl1 2 255)) (P := fun i L h => ∃ (x3 x4 : Int32) (y5 y6 y7 y8 : Option Value), x4 = nI i ∧ x3 = nI (f2_b (fun t => z.testBit ((x_tB pl1 se1) t)) i) ∧ L = [some (.ref 7), some (.int (nI z)), some (.int 0), some (.int x3), some (.int x4), y5, y6, y7, y8] ∧ h = (kC pl0 ke0 sz0 se0 gr0 pl1 ke1 sz1 se1 gr1 im ce wo pv fa pm pw fr ba rw ro co mo mi ki M)) ?_ ?_ 0 (Nat.zero_le _) _ _ ⟨_, _, _, _, _, _, rfl, rfl, rfl, rfl⟩
  · skip
    rintro i _ _ hi ⟨x3, x4, y5, y6, y7, y8, rfl, rfl, rfl, rfl⟩ K
    obtain ⟨h1, h2, h3, h4, h5, h6⟩ := x_tS_ok hI hi
    obtain ⟨g1, g2, g3, ⟨a1, a2, a3, a4⟩, ⟨b1, b2, b3, b4⟩, -, -, -, -⟩ := t_p h2 h4
    obtain ⟨⟨pA, -, lA⟩, ⟨pB, -, lB⟩, -⟩ := x_t3 hI hi
    have E2 : mm_EC kM 5 [.ref 7, .int (nI 2), .int (nI i)] (kC pl0 ke0 sz0 se0 gr0 pl1 ke1 sz1 se1 gr1 im ce wo pv fa pm pw fr ba rw ro co mo mi ki M) (some (.int (nI (x_tS se1 i))), (kC pl0 ke0 sz0 se0 gr0 pl1 ke1 sz1 se1 gr1 im ce wo pv fa pm pw fr ba rw ro co mo mi ki M)) := by
      rw [← h3]
      exact v_setAt1 (a := 2) (by omega)
    have hv : (nI z >>> (pl1 (t_b (x_tS se1 i)) &&& 31)) &&& 1 = nI (if z.testBit ((x_tB pl1 se1) i) then 1 else 0) := by
      rw [pB]
      exact f2_it1 (by omega) (by omega)
    refine mm_T.s rfl rfl rfl (fun _ => rfl) ?_
    refine mm_T.s rfl rfl rfl (fun _ => rfl) ?_
    refine mm_T.s rfl rfl rfl (fun _ => rfl) ?_
    refine mm_T.iv rfl rfl rfl rfl rfl rfl S2 ?_
    refine mm_T.s rfl rfl rfl (fun _ => if_neg (nI_ge hi (by omega))) ?_
    refine mm_T.s rfl rfl rfl (fun _ => rfl) ?_
    refine mm_T.s rfl rfl rfl (fun _ => rfl) ?_
    refine mm_T.s rfl rfl rfl (fun _ => rfl) ?_
    refine mm_T.iv rfl rfl rfl rfl rfl rfl E2 ?_
    refine mm_T.s rfl rfl rfl (fun _ => rfl) ?_
    refine mm_T.s rfl rfl rfl (fun _ => rfl) ?_
    refine mm_T.s rfl rfl rfl (fun _ => rfl) ?_
    refine mm_T.s rfl rfl rfl (fun _ => rfl) ?_
    refine mm_T.s rfl rfl rfl (fun _ => rfl) ?_
    refine mm_T.s rfl rfl rfl (fun _ => rfl) ?_
    refine mm_T.ti _ g1 ?_
    refine mm_T.s rfl rfl rfl (fun _ => rfl) ?_
    refine mm_T.s rfl rfl rfl (fun _ => rfl) ?_
    refine mm_T.s rfl rfl rfl (fun _ => rfl) ?_
    refine mm_T.s rfl rfl rfl (fun _ => rfl) ?_
    refine mm_T.s rfl rfl rfl (fun _ => rfl) ?_
    refine mm_T.ti _ g2 ?_
    refine mm_T.s rfl rfl rfl (fun _ => rfl) ?_
    refine mm_T.s rfl rfl rfl (fun _ => rfl) ?_
    refine mm_T.s rfl rfl rfl (fun _ => rfl) ?_
    refine mm_T.s rfl rfl rfl (fun _ => rfl) ?_
    refine mm_T.s rfl rfl rfl (fun _ => rfl) ?_
    refine mm_T.s rfl rfl rfl (fun _ => rfl) ?_
    refine mm_T.s rfl rfl rfl (fun _ => rfl) ?_
    refine mm_T.gf rfl rfl rfl rfl rfl ?_
    refine mm_T.s rfl rfl rfl (fun _ => rfl) ?_
    refine mm_T.iaN rfl rfl rfl (by omega) (by decide) rfl ?_
    refine mm_T.s rfl rfl rfl (fun _ => rfl) ?_
    refine mm_T.s rfl rfl rfl (fun _ => rfl) ?_
    refine mm_T.s rfl rfl rfl (fun _ => rfl) ?_
    refine mm_T.ti _ hv ?_
    refine mm_T.cz rfl rfl (fun hb72 => ?_) (fun hb72 => ?_)
    · skip
      have hz : (fun t => z.testBit ((x_tB pl1 se1) t)) i = false := Bool.eq_false_iff.mpr (fun q => absurd hb72 (show ¬ _ = _ from by rw [show z.testBit ((x_tB pl1 se1) i) = true from q]; decide))
      have hnx : nI (f2_b (fun t => z.testBit ((x_tB pl1 se1) t)) i) = nI (f2_b (fun t => z.testBit ((x_tB pl1 se1) t)) (i + 1)) := congrArg nI (f2_b0 (f := (fun t => z.testBit ((x_tB pl1 se1) t))) (t := i) hz).symm
      refine mm_T.s rfl rfl rfl (fun _ => rfl) ?_
      refine mm_T.s rfl rfl rfl (fun _ => rfl) ?_
      exact K _ _ ⟨_, _, _, _, _, _, nI_1 i, hnx, rfl, rfl⟩
    · skip
      have hz : (fun t => z.testBit ((x_tB pl1 se1) t)) i = true := eq_true_of_ne_false (fun q => hb72 (show _ = _ from by rw [show z.testBit ((x_tB pl1 se1) i) = false from q]; rfl))
      have hnx : nI (f2_b (fun t => z.testBit ((x_tB pl1 se1) t)) (i + 1)) = nI (f2_b (fun t => z.testBit ((x_tB pl1 se1) t)) (i + 1)) := rfl
      refine mm_T.s rfl rfl rfl (fun _ => rfl) ?_
      refine mm_T.s rfl rfl rfl (fun _ => rfl) ?_
      refine mm_T.s rfl rfl rfl (fun _ => rfl) ?_
      refine mm_T.s rfl rfl rfl (fun _ => rfl) ?_
      refine mm_T.ti _ (f2_1s (by omega)) ?_
      refine mm_T.s rfl rfl rfl (fun _ => rfl) ?_
      refine mm_T.ti (nI (f2_b (fun t => z.testBit ((x_tB pl1 se1) t)) (i + 1))) (by rw [f2_b1 (f := (fun t => z.testBit ((x_tB pl1 se1) t))) (t := i) hz]; exact x_or _ _) ?_
      refine mm_T.s rfl rfl rfl (fun _ => rfl) ?_
      refine mm_T.s rfl rfl rfl (fun _ => rfl) ?_
      refine mm_T.s rfl rfl rfl (fun _ => rfl) ?_
      exact K _ _ ⟨_, _, _, _, _, _, nI_1 i, hnx, rfl, rfl⟩
  · skip
    rintro _ _ ⟨x3, x4, y5, y6, y7, y8, rfl, rfl, rfl, rfl⟩
    refine mm_T.s rfl rfl rfl (fun _ => rfl) ?_
    refine mm_T.s rfl rfl rfl (fun _ => rfl) ?_
    refine mm_T.s rfl rfl rfl (fun _ => rfl) ?_
    refine mm_T.iv rfl rfl rfl rfl rfl rfl S2 ?_
    refine mm_T.s rfl rfl rfl (fun _ => if_pos (nI_le (Nat.le_refl _) (by omega))) ?_
    refine mm_T.s rfl rfl rfl (fun _ => rfl) ?_
    exact mm_T.ret rfl rfl rfl (⟨rfl, rfl⟩)
theorem q_fc1 {pl0 ke0 sz0 se0 gr0 pl1 ke1 sz1 se1 gr1 im ce wo pv fa pm pw fr ba : Nat → Int32} {rw : Nat → Int64} {ro co mo : Int32} {mi : Int64} {ki : Int32} {M : mm_H} (hI : x_CI pl1 sz1 se1) : mm_TC kM 64 [.ref 0, .ref 7] (kC pl0 ke0 sz0 se0 gr0 pl1 ke1 sz1 se1 gr1 im ce wo pv fa pm pw fr ba rw ro co mo mi ki M) (fun v h => v = some (.int (nI (f2_c (f2_d (x_tA pl1 se1) (x_tB pl1 se1) (x_tC pl1 se1) (x_ct pl1 2 255)) (x_ct pl1 1 255)).2.length)) ∧ ∃ fr1 ba1 rw2, f2_R rw2 (f2_c (f2_d (x_tA pl1 se1) (x_tB pl1 se1) (x_tC pl1 se1) (x_ct pl1 2 255)) (x_ct pl1 1 255)).1 ∧ (∀ j, j < (f2_c (f2_d (x_tA pl1 se1) (x_tB pl1 se1) (x_tC pl1 se1) (x_ct pl1 2 255)) (x_ct pl1 1 255)).2.length → fr1 j = nI (f2_F (x_tA pl1 se1) (x_ct pl1 2 255) (f2_g (f2_c (f2_d (x_tA pl1 se1) (x_tB pl1 se1) (x_tC pl1 se1) (x_ct pl1 2 255)) (x_ct pl1 1 255)).2 j)) ∧ ba1 j = nI (f2_F (x_tB pl1 se1) (x_ct pl1 2 255) (f2_g (f2_c (f2_d (x_tA pl1 se1) (x_tB pl1 se1) (x_tC pl1 se1) (x_ct pl1 2 255)) (x_ct pl1 1 255)).2 j))) ∧ h = (kC pl0 ke0 sz0 se0 gr0 pl1 ke1 sz1 se1 gr1 im ce wo pv fa pm pw fr1 ba1 rw2 ro co mo mi ki M)) := by
  have hle := hI.le (k := 1) (by decide)
  have hle2 := hI.le (k := 2) (by decide)
  refine mm_TC.of (M := kq_64) rfl rfl ?_
  refine mm_T.s rfl rfl rfl (fun _ => rfl) ?_
  refine mm_T.gf rfl rfl rfl rfl rfl ?_
  refine mm_T.ivw rfl rfl rfl rfl rfl rfl q_drop ?_
  rintro _ _ ⟨rfl, rw1, hR1, rfl⟩
  refine mm_T.s rfl rfl rfl (fun _ => rfl) ?_
  refine mm_T.s rfl rfl rfl (fun _ => rfl) ?_
  refine mm_T.s rfl rfl rfl (fun _ => rfl) ?_
  refine mm_T.s rfl rfl rfl (fun _ => rfl) ?_
  refine mm_T.up (n := (x_ct pl1 1 255)) (P := fun i L h => ∃ (x2 x3 : Int32) (y4 y5 y6 : Option Value) (fr1 ba1 : Nat → Int32) (rw2 : Nat → Int64), x2 = nI (f2_c (f2_d (x_tA pl1 se1) (x_tB pl1 se1) (x_tC pl1 se1) (x_ct pl1 2 255)) i).2.length ∧ x3 = nI i ∧ f2_R rw2 (f2_c (f2_d (x_tA pl1 se1) (x_tB pl1 se1) (x_tC pl1 se1) (x_ct pl1 2 255)) i).1 ∧ (∀ j, j < (f2_c (f2_d (x_tA pl1 se1) (x_tB pl1 se1) (x_tC pl1 se1) (x_ct pl1 2 255)) i).2.length → fr1 j = nI (f2_F (x_tA pl1 se1) (x_ct pl1 2 255) (f2_g (f2_c (f2_d (x_tA pl1 se1) (x_tB pl1 se1) (x_tC pl1 se1) (x_ct pl1 2 255)) i).2 j)) ∧ ba1 j = nI (f2_F (x_tB pl1 se1) (x_ct pl1 2 255) (f2_g (f2_c (f2_d (x_tA pl1 se1) (x_tB pl1 se1) (x_tC pl1 se1) (x_ct pl1 2 255)) i).2 j))) ∧ L = [some (.ref 0), some (.ref 7), some (.int x2), some (.int x3), y4, y5, y6] ∧ h = (kC pl0 ke0 sz0 se0 gr0 pl1 ke1 sz1 se1 gr1 im ce wo pv fa pm pw fr1 ba1 rw2 ro co mo mi ki M)) ?_ ?_ 0 (Nat.zero_le _) _ _ ⟨_, _, _, _, _, _, _, _, rfl, rfl, hR1, fun j hj => absurd hj (Nat.not_lt_zero j), rfl, rfl⟩
  · skip
    rintro i _ _ hi ⟨x2, x3, y4, y5, y6, fr1, ba1, rw2, rfl, rfl, hR, hF, rfl, rfl⟩ K
    have hd : (f2_d (x_tA pl1 se1) (x_tB pl1 se1) (x_tC pl1 se1) (x_ct pl1 2 255)) (2 ^ i) < 2 ^ 24 := f2_24 (f2_d_lt _ _ _ _ _) hle2
    have hp : 2 ^ i < 2 ^ 24 := Nat.pow_lt_pow_right (by decide) (by omega)
    have hp2 : 2 ^ (24 + i) < 2 ^ 62 := Nat.pow_lt_pow_right (by decide) (by omega)
    have hx : ((f2_d (x_tA pl1 se1) (x_tB pl1 se1) (x_tC pl1 se1) (x_ct pl1 2 255)) (2 ^ i) + 2 ^ 24 * 2 ^ i) < 2 ^ 60 := by omega
    have hlen := f2_c_len (f2_d (x_tA pl1 se1) (x_tB pl1 se1) (x_tC pl1 se1) (x_ct pl1 2 255)) i
    have c3 := (f2_c_ok (D := (f2_d (x_tA pl1 se1) (x_tB pl1 se1) (x_tC pl1 se1) (x_ct pl1 2 255))) (f2_d_0 _ _ _ _) (f2_d_x _ _ _ _) (fun x => f2_24 (f2_d_lt _ _ _ _ _) hle2) (i + 1)).2.2.1
    have S1 : mm_EC kM 4 [.ref 7, .int (nI 1)] (kC pl0 ke0 sz0 se0 gr0 pl1 ke1 sz1 se1 gr1 im ce wo pv fa pm pw fr1 ba1 rw2 ro co mo mi ki M) (some (.int (nI (x_ct pl1 1 255))), (kC pl0 ke0 sz0 se0 gr0 pl1 ke1 sz1 se1 gr1 im ce wo pv fa pm pw fr1 ba1 rw2 ro co mo mi ki M)) := by
      rw [← x_m_a (a := 1) (by decide)]
      exact v_sz1 hI (nI 1)
    refine mm_T.s rfl rfl rfl (fun _ => rfl) ?_
    refine mm_T.s rfl rfl rfl (fun _ => rfl) ?_
    refine mm_T.s rfl rfl rfl (fun _ => rfl) ?_
    refine mm_T.iv rfl rfl rfl rfl rfl rfl S1 ?_
    refine mm_T.s rfl rfl rfl (fun _ => if_neg (nI_ge hi (by omega))) ?_
    refine mm_T.s rfl rfl rfl (fun _ => rfl) ?_
    refine mm_T.s rfl rfl rfl (fun _ => rfl) ?_
    refine mm_T.ivw rfl rfl rfl rfl rfl rfl (q_cob1 hI hi) ?_
    rintro _ _ ⟨rfl, rfl⟩
    refine mm_T.s rfl rfl rfl (fun _ => rfl) ?_
    refine mm_T.tl (f2_i2l (by omega)) ?_
    refine mm_T.s rfl rfl rfl (fun _ => rfl) ?_
    refine mm_T.s rfl rfl rfl (fun _ => rfl) ?_
    refine mm_T.s rfl rfl rfl (fun _ => rfl) ?_
    refine mm_T.s rfl rfl rfl (fun _ => rfl) ?_
    refine mm_T.ti (nI (24 + i)) (by rw [show (Int8.ofInt 24).toInt32 = nI 24 from rfl]; exact nI_add _ _) ?_
    refine mm_T.s rfl rfl rfl (fun _ => rfl) ?_
    refine mm_T.tl (f2_l1s (24 + i) (by omega)) ?_
    refine mm_T.s rfl rfl rfl (fun _ => rfl) ?_
    refine mm_T.tl (y := lN ((f2_d (x_tA pl1 se1) (x_tB pl1 se1) (x_tC pl1 se1) (x_ct pl1 2 255)) (2 ^ i) + 2 ^ 24 * 2 ^ i)) (show lN ((f2_d (x_tA pl1 se1) (x_tB pl1 se1) (x_tC pl1 se1) (x_ct pl1 2 255)) (2 ^ i)) ||| lN (2 ^ (24 + i)) = _ from by rw [f2_lor (by omega) hp2, f2_tgv hd]) ?_
    refine mm_T.s rfl rfl rfl (fun _ => rfl) ?_
    refine mm_T.s rfl rfl rfl (fun _ => rfl) ?_
    refine mm_T.gf rfl rfl rfl rfl rfl ?_
    refine mm_T.s rfl rfl rfl (fun _ => rfl) ?_
    refine mm_T.ivw rfl rfl rfl rfl rfl rfl (q_take hR hx) ?_
    rintro _ _ ⟨rfl, rw3, hR3, rfl⟩
    refine mm_T.cz rfl rfl (fun hb44 => ?_) (fun hb44 => ?_)
    · skip
      have hc2 := f2_c_y (D := (f2_d (x_tA pl1 se1) (x_tB pl1 se1) (x_tC pl1 se1) (x_ct pl1 2 255))) (e := i) (fun q => hb44 (by rw [q]; rfl))
      have hl2 : nI (f2_c (f2_d (x_tA pl1 se1) (x_tB pl1 se1) (x_tC pl1 se1) (x_ct pl1 2 255)) i).2.length = nI (f2_c (f2_d (x_tA pl1 se1) (x_tB pl1 se1) (x_tC pl1 se1) (x_ct pl1 2 255)) (i + 1)).2.length := by rw [hc2]
      have hR4 : f2_R rw3 (f2_c (f2_d (x_tA pl1 se1) (x_tB pl1 se1) (x_tC pl1 se1) (x_ct pl1 2 255)) (i + 1)).1 := by
        rw [hc2]
        exact hR3
      have hF2 : (∀ j, j < (f2_c (f2_d (x_tA pl1 se1) (x_tB pl1 se1) (x_tC pl1 se1) (x_ct pl1 2 255)) (i + 1)).2.length → fr1 j = nI (f2_F (x_tA pl1 se1) (x_ct pl1 2 255) (f2_g (f2_c (f2_d (x_tA pl1 se1) (x_tB pl1 se1) (x_tC pl1 se1) (x_ct pl1 2 255)) (i + 1)).2 j)) ∧ ba1 j = nI (f2_F (x_tB pl1 se1) (x_ct pl1 2 255) (f2_g (f2_c (f2_d (x_tA pl1 se1) (x_tB pl1 se1) (x_tC pl1 se1) (x_ct pl1 2 255)) (i + 1)).2 j))) := by
        rw [hc2]
        exact hF
      refine mm_T.s rfl rfl rfl (fun _ => rfl) ?_
      refine mm_T.s rfl rfl rfl (fun _ => rfl) ?_
      exact K _ _ ⟨_, _, _, _, _, _, _, _, hl2, nI_1 i, hR4, hF2, rfl, rfl⟩
    · skip
      have h0 : (f2_t (f2_c (f2_d (x_tA pl1 se1) (x_tB pl1 se1) (x_tC pl1 se1) (x_ct pl1 2 255)) i).1 ((f2_d (x_tA pl1 se1) (x_tB pl1 se1) (x_tC pl1 se1) (x_ct pl1 2 255)) (2 ^ i) + 2 ^ 24 * 2 ^ i)).2 = 0 := (f2_t_01 _ _).resolve_right (fun q => hb44 (show ¬ _ = _ from by rw [q]; decide))
      rw [f2_t_r h0] at hR3
      have hc2 := f2_c_n (D := (f2_d (x_tA pl1 se1) (x_tB pl1 se1) (x_tC pl1 se1) (x_ct pl1 2 255))) (e := i) h0
      have hz24 : (f2_r (f2_c (f2_d (x_tA pl1 se1) (x_tB pl1 se1) (x_tC pl1 se1) (x_ct pl1 2 255)) i).1 24 0 ((f2_d (x_tA pl1 se1) (x_tB pl1 se1) (x_tC pl1 se1) (x_ct pl1 2 255)) (2 ^ i) + 2 ^ 24 * 2 ^ i) / 2 ^ 24) < 2 ^ 24 := by
        have w := (c3 (f2_r (f2_c (f2_d (x_tA pl1 se1) (x_tB pl1 se1) (x_tC pl1 se1) (x_ct pl1 2 255)) i).1 24 0 ((f2_d (x_tA pl1 se1) (x_tB pl1 se1) (x_tC pl1 se1) (x_ct pl1 2 255)) (2 ^ i) + 2 ^ 24 * 2 ^ i) / 2 ^ 24) (by rw [hc2]; exact List.mem_append_right _ (List.mem_singleton.mpr rfl))).2
        exact Nat.lt_of_lt_of_le w (Nat.pow_le_pow_right (by decide) (by omega))
      have hy := f2_r_lt hR3 24 0 ((f2_d (x_tA pl1 se1) (x_tB pl1 se1) (x_tC pl1 se1) (x_ct pl1 2 255)) (2 ^ i) + 2 ^ 24 * 2 ^ i) rfl hx
      have hl2 : nI (f2_c (f2_d (x_tA pl1 se1) (x_tB pl1 se1) (x_tC pl1 se1) (x_ct pl1 2 255)) i).2.length + 1 = nI (f2_c (f2_d (x_tA pl1 se1) (x_tB pl1 se1) (x_tC pl1 se1) (x_ct pl1 2 255)) (i + 1)).2.length := by
        rw [hc2]
        show _ = nI ((f2_c (f2_d (x_tA pl1 se1) (x_tB pl1 se1) (x_tC pl1 se1) (x_ct pl1 2 255)) i).2 ++ [_]).length
        rw [List.length_append]
        exact nI_1 _
      have hR4 : f2_R rw3 (f2_c (f2_d (x_tA pl1 se1) (x_tB pl1 se1) (x_tC pl1 se1) (x_ct pl1 2 255)) (i + 1)).1 := by
        rw [hc2]
        exact hR3
      have hF2 : (∀ j, j < (f2_c (f2_d (x_tA pl1 se1) (x_tB pl1 se1) (x_tC pl1 se1) (x_ct pl1 2 255)) (i + 1)).2.length → (upd fr1 (f2_c (f2_d (x_tA pl1 se1) (x_tB pl1 se1) (x_tC pl1 se1) (x_ct pl1 2 255)) i).2.length (nI (f2_F (x_tA pl1 se1) (x_ct pl1 2 255) (f2_r (f2_c (f2_d (x_tA pl1 se1) (x_tB pl1 se1) (x_tC pl1 se1) (x_ct pl1 2 255)) i).1 24 0 ((f2_d (x_tA pl1 se1) (x_tB pl1 se1) (x_tC pl1 se1) (x_ct pl1 2 255)) (2 ^ i) + 2 ^ 24 * 2 ^ i) / 2 ^ 24)))) j = nI (f2_F (x_tA pl1 se1) (x_ct pl1 2 255) (f2_g (f2_c (f2_d (x_tA pl1 se1) (x_tB pl1 se1) (x_tC pl1 se1) (x_ct pl1 2 255)) (i + 1)).2 j)) ∧ (upd ba1 (f2_c (f2_d (x_tA pl1 se1) (x_tB pl1 se1) (x_tC pl1 se1) (x_ct pl1 2 255)) i).2.length (nI (f2_F (x_tB pl1 se1) (x_ct pl1 2 255) (f2_r (f2_c (f2_d (x_tA pl1 se1) (x_tB pl1 se1) (x_tC pl1 se1) (x_ct pl1 2 255)) i).1 24 0 ((f2_d (x_tA pl1 se1) (x_tB pl1 se1) (x_tC pl1 se1) (x_ct pl1 2 255)) (2 ^ i) + 2 ^ 24 * 2 ^ i) / 2 ^ 24)))) j = nI (f2_F (x_tB pl1 se1) (x_ct pl1 2 255) (f2_g (f2_c (f2_d (x_tA pl1 se1) (x_tB pl1 se1) (x_tC pl1 se1) (x_ct pl1 2 255)) (i + 1)).2 j))) := by
        rw [hc2]
        intro j hj
        have hj : j < ((f2_c (f2_d (x_tA pl1 se1) (x_tB pl1 se1) (x_tC pl1 se1) (x_ct pl1 2 255)) i).2 ++ [(f2_r (f2_c (f2_d (x_tA pl1 se1) (x_tB pl1 se1) (x_tC pl1 se1) (x_ct pl1 2 255)) i).1 24 0 ((f2_d (x_tA pl1 se1) (x_tB pl1 se1) (x_tC pl1 se1) (x_ct pl1 2 255)) (2 ^ i) + 2 ^ 24 * 2 ^ i) / 2 ^ 24)]).length := hj
        rw [List.length_append] at hj
        have hj : j < (f2_c (f2_d (x_tA pl1 se1) (x_tB pl1 se1) (x_tC pl1 se1) (x_ct pl1 2 255)) i).2.length + 1 := hj
        show upd _ _ _ j = nI (f2_F _ _ (f2_g ((f2_c (f2_d (x_tA pl1 se1) (x_tB pl1 se1) (x_tC pl1 se1) (x_ct pl1 2 255)) i).2 ++ [(f2_r (f2_c (f2_d (x_tA pl1 se1) (x_tB pl1 se1) (x_tC pl1 se1) (x_ct pl1 2 255)) i).1 24 0 ((f2_d (x_tA pl1 se1) (x_tB pl1 se1) (x_tC pl1 se1) (x_ct pl1 2 255)) (2 ^ i) + 2 ^ 24 * 2 ^ i) / 2 ^ 24)]) j)) ∧ upd _ _ _ j = nI (f2_F _ _ (f2_g ((f2_c (f2_d (x_tA pl1 se1) (x_tB pl1 se1) (x_tC pl1 se1) (x_ct pl1 2 255)) i).2 ++ [(f2_r (f2_c (f2_d (x_tA pl1 se1) (x_tB pl1 se1) (x_tC pl1 se1) (x_ct pl1 2 255)) i).1 24 0 ((f2_d (x_tA pl1 se1) (x_tB pl1 se1) (x_tC pl1 se1) (x_ct pl1 2 255)) (2 ^ i) + 2 ^ 24 * 2 ^ i) / 2 ^ 24)]) j))
        rw [x_ui, x_ui]
        by_cases q : j = (f2_c (f2_d (x_tA pl1 se1) (x_tB pl1 se1) (x_tC pl1 se1) (x_ct pl1 2 255)) i).2.length
        · rw [if_pos q, if_pos q, q, f2_g_r]
          exact ⟨rfl, rfl⟩
        · rw [if_neg q, if_neg q, f2_g_l _ _ _ (by omega)]
          exact hF j (by omega)
      refine mm_T.s rfl rfl rfl (fun _ => rfl) ?_
      refine mm_T.gf rfl rfl rfl rfl rfl ?_
      refine mm_T.s rfl rfl rfl (fun _ => rfl) ?_
      refine mm_T.ivw rfl rfl rfl rfl rfl rfl (q_red hR3 hx) ?_
      rintro _ _ ⟨rfl, rfl⟩
      refine mm_T.s rfl rfl rfl (fun _ => rfl) ?_
      refine mm_T.s rfl rfl rfl (fun _ => rfl) ?_
      refine mm_T.tl (y := lN (f2_r (f2_c (f2_d (x_tA pl1 se1) (x_tB pl1 se1) (x_tC pl1 se1) (x_ct pl1 2 255)) i).1 24 0 ((f2_d (x_tA pl1 se1) (x_tB pl1 se1) (x_tC pl1 se1) (x_ct pl1 2 255)) (2 ^ i) + 2 ^ 24 * 2 ^ i) / 2 ^ 24)) (f2_ls (b := 24) (by omega) (by decide)) ?_
      refine mm_T.s rfl rfl rfl (fun _ => rfl) ?_
      refine mm_T.ti _ (f2_l2i (by omega)) ?_
      refine mm_T.s rfl rfl rfl (fun _ => rfl) ?_
      refine mm_T.s rfl rfl rfl (fun _ => rfl) ?_
      refine mm_T.gf rfl rfl rfl rfl rfl ?_
      refine mm_T.s rfl rfl rfl (fun _ => rfl) ?_
      refine mm_T.s rfl rfl rfl (fun _ => rfl) ?_
      refine mm_T.s rfl rfl rfl (fun _ => rfl) ?_
      refine mm_T.s rfl rfl rfl (fun _ => rfl) ?_
      refine mm_T.ivw rfl rfl rfl rfl rfl rfl (q_triF1 hI hz24) ?_
      rintro _ _ ⟨rfl, rfl⟩
      refine mm_T.isN rfl rfl rfl (by omega) (by decide) rfl ?_
      refine mm_T.s rfl rfl rfl (fun _ => rfl) ?_
      refine mm_T.gf rfl rfl rfl rfl rfl ?_
      refine mm_T.s rfl rfl rfl (fun _ => rfl) ?_
      refine mm_T.s rfl rfl rfl (fun _ => rfl) ?_
      refine mm_T.s rfl rfl rfl (fun _ => rfl) ?_
      refine mm_T.s rfl rfl rfl (fun _ => rfl) ?_
      refine mm_T.ivw rfl rfl rfl rfl rfl rfl (q_triB1 hI hz24) ?_
      rintro _ _ ⟨rfl, rfl⟩
      refine mm_T.isN rfl rfl rfl (by omega) (by decide) rfl ?_
      refine mm_T.s rfl rfl rfl (fun _ => rfl) ?_
      refine mm_T.s rfl rfl rfl (fun _ => rfl) ?_
      refine mm_T.s rfl rfl rfl (fun _ => rfl) ?_
      exact K _ _ ⟨_, _, _, _, _, _, _, _, hl2, nI_1 i, hR4, hF2, rfl, rfl⟩
  · skip
    rintro _ _ ⟨x2, x3, y4, y5, y6, fr1, ba1, rw2, rfl, rfl, hR, hF, rfl, rfl⟩
    have S1 : mm_EC kM 4 [.ref 7, .int (nI 1)] (kC pl0 ke0 sz0 se0 gr0 pl1 ke1 sz1 se1 gr1 im ce wo pv fa pm pw fr1 ba1 rw2 ro co mo mi ki M) (some (.int (nI (x_ct pl1 1 255))), (kC pl0 ke0 sz0 se0 gr0 pl1 ke1 sz1 se1 gr1 im ce wo pv fa pm pw fr1 ba1 rw2 ro co mo mi ki M)) := by
      rw [← x_m_a (a := 1) (by decide)]
      exact v_sz1 hI (nI 1)
    refine mm_T.s rfl rfl rfl (fun _ => rfl) ?_
    refine mm_T.s rfl rfl rfl (fun _ => rfl) ?_
    refine mm_T.s rfl rfl rfl (fun _ => rfl) ?_
    refine mm_T.iv rfl rfl rfl rfl rfl rfl S1 ?_
    refine mm_T.s rfl rfl rfl (fun _ => if_pos (nI_le (Nat.le_refl _) (by omega))) ?_
    refine mm_T.s rfl rfl rfl (fun _ => rfl) ?_
    exact mm_T.ret rfl rfl rfl (⟨rfl, _, _, _, hR, hF, rfl⟩)
theorem q_products1 {pl0 ke0 sz0 se0 gr0 pl1 ke1 sz1 se1 gr1 im ce wo pv fa pm pw fr ba : Nat → Int32} {rw : Nat → Int64} {ro co mo : Int32} {mi : Int64} {ki : Int32} {M : mm_H} (hI : x_CI pl1 sz1 se1) : mm_TC kM 51 [.ref 0, .int 1] (kC pl0 ke0 sz0 se0 gr0 pl1 ke1 sz1 se1 gr1 im ce wo pv fa pm pw fr ba rw ro co mo mi ki M) (fun v h => (∃ o, f2_O (x_tA pl1 se1) (x_tB pl1 se1) (x_tC pl1 se1) (x_ct pl1 2 255) (x_ct pl1 1 255) o ∧ v = some (.int (nI o))) ∧ x_GR pl0 ke0 sz0 se0 gr0 pl1 ke1 sz1 se1 gr1 im M h) := by
  have hle := hI.le (k := 1) (by decide)
  have hle2 := hI.le (k := 2) (by decide)
  have hlen := f2_c_len (f2_d (x_tA pl1 se1) (x_tB pl1 se1) (x_tC pl1 se1) (x_ct pl1 2 255)) (x_ct pl1 1 255)
  have ck := f2_c_ok (D := (f2_d (x_tA pl1 se1) (x_tB pl1 se1) (x_tC pl1 se1) (x_ct pl1 2 255))) (f2_d_0 _ _ _ _) (f2_d_x _ _ _ _) (fun x => f2_24 (f2_d_lt _ _ _ _ _) hle2) (x_ct pl1 1 255)
  refine mm_TC.of (M := kq_51) rfl rfl ?_
  refine mm_T.s rfl rfl rfl (fun _ => rfl) ?_
  refine mm_T.s rfl rfl rfl (fun _ => rfl) ?_
  refine mm_T.iv rfl rfl rfl rfl rfl rfl v_cx1 ?_
  refine mm_T.s rfl rfl rfl (fun _ => rfl) ?_
  refine mm_T.s rfl rfl rfl (fun _ => rfl) ?_
  refine mm_T.s rfl rfl rfl (fun _ => rfl) ?_
  refine mm_T.s rfl rfl rfl (fun _ => rfl) ?_
  refine mm_T.s rfl rfl rfl (fun _ => rfl) ?_
  refine mm_T.ivw rfl rfl rfl rfl rfl rfl (q_fc1 hI) ?_
  rintro _ _ ⟨rfl, fr1, ba1, rw2, hR, hF, rfl⟩
  refine mm_T.s rfl rfl rfl (fun _ => rfl) ?_
  refine mm_T.s rfl rfl rfl (fun _ => rfl) ?_
  refine mm_T.s rfl rfl rfl (fun _ => rfl) ?_
  refine mm_T.s rfl rfl rfl (fun _ => rfl) ?_
  refine mm_T.s rfl rfl rfl (fun _ => rfl) ?_
  refine mm_T.up (n := (f2_c (f2_d (x_tA pl1 se1) (x_tB pl1 se1) (x_tC pl1 se1) (x_ct pl1 2 255)) (x_ct pl1 1 255)).2.length) (P := fun i L h => ∃ (x4 x5 : Int32) (y6 : Option Value) (rw3 : Nat → Int64) (o : Nat) (r : Nat → Nat), x4 = nI o ∧ x5 = nI i ∧ f2_R rw3 r ∧ f2_lo r ∧ f2_Y (f2_L (f2_w (f2_c (f2_d (x_tA pl1 se1) (x_tB pl1 se1) (x_tC pl1 se1) (x_ct pl1 2 255)) (x_ct pl1 1 255)).1) 24 0) (f2_c (f2_d (x_tA pl1 se1) (x_tB pl1 se1) (x_tC pl1 se1) (x_ct pl1 2 255)) (x_ct pl1 1 255)).2 (f2_p (x_tA pl1 se1) (x_tB pl1 se1) (x_ct pl1 2 255)) (f2_L (f2_w r) 24 0) o i 0 ∧ L = [some (.ref 0), some (.int 1), some (.ref 7), some (.int (nI (f2_c (f2_d (x_tA pl1 se1) (x_tB pl1 se1) (x_tC pl1 se1) (x_ct pl1 2 255)) (x_ct pl1 1 255)).2.length)), some (.int x4), some (.int x5), y6] ∧ h = (kC pl0 ke0 sz0 se0 gr0 pl1 ke1 sz1 se1 gr1 im ce wo pv fa pm pw fr1 ba1 rw3 ro co mo mi ki M)) ?_ ?_ 0 (Nat.zero_le _) _ _ ⟨_, _, _, _, 0, _, rfl, rfl, hR, ck.1, f2_Y_0 (f2_lo_i (f2_lo_w ck.1) 24 0 (Nat.le_refl _)), rfl, rfl⟩
  · skip
    rintro i _ _ hi ⟨x4, x5, y6, rw3, o, r, rfl, rfl, hR, hlo, hY, rfl, rfl⟩ K
    refine mm_T.s rfl rfl rfl (fun _ => rfl) ?_
    refine mm_T.s rfl rfl rfl (fun _ => rfl) ?_
    refine mm_T.s rfl rfl rfl (fun _ => if_neg (nI_ge hi (by omega))) ?_
    refine mm_T.s rfl rfl rfl (fun _ => rfl) ?_
    refine mm_T.s rfl rfl rfl (fun _ => rfl) ?_
    refine mm_T.up (n := (f2_c (f2_d (x_tA pl1 se1) (x_tB pl1 se1) (x_tC pl1 se1) (x_ct pl1 2 255)) (x_ct pl1 1 255)).2.length) (P := fun j L h => ∃ (x4 x6 : Int32) (rw3 : Nat → Int64) (o : Nat) (r : Nat → Nat), x4 = nI o ∧ x6 = nI j ∧ f2_R rw3 r ∧ f2_lo r ∧ f2_Y (f2_L (f2_w (f2_c (f2_d (x_tA pl1 se1) (x_tB pl1 se1) (x_tC pl1 se1) (x_ct pl1 2 255)) (x_ct pl1 1 255)).1) 24 0) (f2_c (f2_d (x_tA pl1 se1) (x_tB pl1 se1) (x_tC pl1 se1) (x_ct pl1 2 255)) (x_ct pl1 1 255)).2 (f2_p (x_tA pl1 se1) (x_tB pl1 se1) (x_ct pl1 2 255)) (f2_L (f2_w r) 24 0) o i j ∧ L = [some (.ref 0), some (.int 1), some (.ref 7), some (.int (nI (f2_c (f2_d (x_tA pl1 se1) (x_tB pl1 se1) (x_tC pl1 se1) (x_ct pl1 2 255)) (x_ct pl1 1 255)).2.length)), some (.int x4), some (.int (nI i)), some (.int x6)] ∧ h = (kC pl0 ke0 sz0 se0 gr0 pl1 ke1 sz1 se1 gr1 im ce wo pv fa pm pw fr1 ba1 rw3 ro co mo mi ki M)) ?_ ?_ 0 (Nat.zero_le _) _ _ ⟨_, _, _, _, _, rfl, rfl, hR, hlo, hY, rfl, rfl⟩
    · skip
      rintro j _ _ hj ⟨x4, x6, rw3, o, r, rfl, rfl, hR, hlo, hY, rfl, rfl⟩ K2
      have hx : ((f2_p (x_tA pl1 se1) (x_tB pl1 se1) (x_ct pl1 2 255)) (f2_g (f2_c (f2_d (x_tA pl1 se1) (x_tB pl1 se1) (x_tC pl1 se1) (x_ct pl1 2 255)) (x_ct pl1 1 255)).2 i) (f2_g (f2_c (f2_d (x_tA pl1 se1) (x_tB pl1 se1) (x_tC pl1 se1) (x_ct pl1 2 255)) (x_ct pl1 1 255)).2 j)) < 2 ^ 24 := f2_24 (f2_p_lt _ _ _ _ _) hle2
      have hand : fr1 i &&& ba1 j = nI ((f2_p (x_tA pl1 se1) (x_tB pl1 se1) (x_ct pl1 2 255)) (f2_g (f2_c (f2_d (x_tA pl1 se1) (x_tB pl1 se1) (x_tC pl1 se1) (x_ct pl1 2 255)) (x_ct pl1 1 255)).2 i) (f2_g (f2_c (f2_d (x_tA pl1 se1) (x_tB pl1 se1) (x_tC pl1 se1) (x_ct pl1 2 255)) (x_ct pl1 1 255)).2 j)) := by
        have u1 := f2_24 (f2_F_lt (x_tA pl1 se1) (x_ct pl1 2 255) (f2_g (f2_c (f2_d (x_tA pl1 se1) (x_tB pl1 se1) (x_tC pl1 se1) (x_ct pl1 2 255)) (x_ct pl1 1 255)).2 i)) hle2
        have u2 := f2_24 (f2_F_lt (x_tB pl1 se1) (x_ct pl1 2 255) (f2_g (f2_c (f2_d (x_tA pl1 se1) (x_tB pl1 se1) (x_tC pl1 se1) (x_ct pl1 2 255)) (x_ct pl1 1 255)).2 j)) hle2
        rw [(hF i hi).1, (hF j hj).2, f2_ia (by omega) (by omega), f2_FP]
      have tk := f2_t_ok hlo ((f2_p (x_tA pl1 se1) (x_tB pl1 se1) (x_ct pl1 2 255)) (f2_g (f2_c (f2_d (x_tA pl1 se1) (x_tB pl1 se1) (x_tC pl1 se1) (x_ct pl1 2 255)) (x_ct pl1 1 255)).2 i) (f2_g (f2_c (f2_d (x_tA pl1 se1) (x_tB pl1 se1) (x_tC pl1 se1) (x_ct pl1 2 255)) (x_ct pl1 1 255)).2 j))
      rw [Nat.mod_eq_of_lt hx] at tk
      have hY2 := f2_Y_s hY hi hj (f2_lo_i (f2_lo_w tk.1) 24 0 (Nat.le_refl _)) tk.2.1 tk.2.2
      refine mm_T.s rfl rfl rfl (fun _ => rfl) ?_
      refine mm_T.s rfl rfl rfl (fun _ => rfl) ?_
      refine mm_T.s rfl rfl rfl (fun _ => if_neg (nI_ge hj (by omega))) ?_
      refine mm_T.s rfl rfl rfl (fun _ => rfl) ?_
      refine mm_T.gf rfl rfl rfl rfl rfl ?_
      refine mm_T.s rfl rfl rfl (fun _ => rfl) ?_
      refine mm_T.gf rfl rfl rfl rfl rfl ?_
      refine mm_T.s rfl rfl rfl (fun _ => rfl) ?_
      refine mm_T.iaN rfl rfl rfl (by omega) (by decide) rfl ?_
      refine mm_T.s rfl rfl rfl (fun _ => rfl) ?_
      refine mm_T.gf rfl rfl rfl rfl rfl ?_
      refine mm_T.s rfl rfl rfl (fun _ => rfl) ?_
      refine mm_T.iaN rfl rfl rfl (by omega) (by decide) rfl ?_
      refine mm_T.s rfl rfl rfl (fun _ => rfl) ?_
      refine mm_T.ti _ hand ?_
      refine mm_T.s rfl rfl rfl (fun _ => rfl) ?_
      refine mm_T.tl (f2_i2l (by omega)) ?_
      refine mm_T.ivw rfl rfl rfl rfl rfl rfl (q_take hR (by omega)) ?_
      rintro _ _ ⟨rfl, rw4, hR4, rfl⟩
      refine mm_T.cz rfl rfl (fun hb62 => ?_) (fun hb62 => ?_)
      · skip
        have ho : (f2_t r ((f2_p (x_tA pl1 se1) (x_tB pl1 se1) (x_ct pl1 2 255)) (f2_g (f2_c (f2_d (x_tA pl1 se1) (x_tB pl1 se1) (x_tC pl1 se1) (x_ct pl1 2 255)) (x_ct pl1 1 255)).2 i) (f2_g (f2_c (f2_d (x_tA pl1 se1) (x_tB pl1 se1) (x_tC pl1 se1) (x_ct pl1 2 255)) (x_ct pl1 1 255)).2 j))).2 = 0 := (f2_t_01 _ _).resolve_right (fun q => absurd hb62 (show ¬ _ = _ from by rw [q]; decide))
        have ho2 : nI o = nI (o + (f2_t r ((f2_p (x_tA pl1 se1) (x_tB pl1 se1) (x_ct pl1 2 255)) (f2_g (f2_c (f2_d (x_tA pl1 se1) (x_tB pl1 se1) (x_tC pl1 se1) (x_ct pl1 2 255)) (x_ct pl1 1 255)).2 i) (f2_g (f2_c (f2_d (x_tA pl1 se1) (x_tB pl1 se1) (x_tC pl1 se1) (x_ct pl1 2 255)) (x_ct pl1 1 255)).2 j))).2) := by rw [ho]; rfl
        refine mm_T.s rfl rfl rfl (fun _ => rfl) ?_
        refine mm_T.s rfl rfl rfl (fun _ => rfl) ?_
        exact K2 _ _ ⟨_, _, _, _, _, ho2, nI_1 j, hR4, tk.1, hY2, rfl, rfl⟩
      · skip
        have ho : (f2_t r ((f2_p (x_tA pl1 se1) (x_tB pl1 se1) (x_ct pl1 2 255)) (f2_g (f2_c (f2_d (x_tA pl1 se1) (x_tB pl1 se1) (x_tC pl1 se1) (x_ct pl1 2 255)) (x_ct pl1 1 255)).2 i) (f2_g (f2_c (f2_d (x_tA pl1 se1) (x_tB pl1 se1) (x_tC pl1 se1) (x_ct pl1 2 255)) (x_ct pl1 1 255)).2 j))).2 = 1 := (f2_t_01 _ _).resolve_left (fun q => hb62 (show _ = _ from by rw [q]; rfl))
        have ho2 : nI o + 1 = nI (o + (f2_t r ((f2_p (x_tA pl1 se1) (x_tB pl1 se1) (x_ct pl1 2 255)) (f2_g (f2_c (f2_d (x_tA pl1 se1) (x_tB pl1 se1) (x_tC pl1 se1) (x_ct pl1 2 255)) (x_ct pl1 1 255)).2 i) (f2_g (f2_c (f2_d (x_tA pl1 se1) (x_tB pl1 se1) (x_tC pl1 se1) (x_ct pl1 2 255)) (x_ct pl1 1 255)).2 j))).2) := by rw [ho]; exact nI_1 o
        refine mm_T.s rfl rfl rfl (fun _ => rfl) ?_
        refine mm_T.s rfl rfl rfl (fun _ => rfl) ?_
        refine mm_T.s rfl rfl rfl (fun _ => rfl) ?_
        exact K2 _ _ ⟨_, _, _, _, _, ho2, nI_1 j, hR4, tk.1, hY2, rfl, rfl⟩
    · skip
      rintro _ _ ⟨x4, x6, rw3, o, r, rfl, rfl, hR, hlo, hY, rfl, rfl⟩
      refine mm_T.s rfl rfl rfl (fun _ => rfl) ?_
      refine mm_T.s rfl rfl rfl (fun _ => rfl) ?_
      refine mm_T.s rfl rfl rfl (fun _ => if_pos (nI_le (Nat.le_refl _) (by omega))) ?_
      refine mm_T.s rfl rfl rfl (fun _ => rfl) ?_
      refine mm_T.s rfl rfl rfl (fun _ => rfl) ?_
      exact K _ _ ⟨_, _, _, _, _, _, rfl, nI_1 i, hR, hlo, f2_Y_n hY, rfl, rfl⟩
  · skip
    rintro _ _ ⟨x4, x5, y6, rw3, o, r, rfl, rfl, hR, hlo, hY, rfl, rfl⟩
    refine mm_T.s rfl rfl rfl (fun _ => rfl) ?_
    refine mm_T.s rfl rfl rfl (fun _ => rfl) ?_
    refine mm_T.s rfl rfl rfl (fun _ => if_pos (nI_le (Nat.le_refl _) (by omega))) ?_
    refine mm_T.s rfl rfl rfl (fun _ => rfl) ?_
    exact mm_T.ret rfl rfl rfl (⟨⟨o, ⟨_, _, _, hY, f2_lo_i (f2_lo_w ck.1) 24 0 (Nat.le_refl _), ck.2.2.2.2, ck.2.2.1, fun z hz hd => f2_c_all (f2_d_0 _ _ _ _) (f2_d_x _ _ _ _) (fun x => f2_24 (f2_d_lt _ _ _ _ _) hle2) hz hd⟩, rfl⟩, _, _, _, _, _, _, _, _, _, _, _, _, _, _, rfl⟩)
