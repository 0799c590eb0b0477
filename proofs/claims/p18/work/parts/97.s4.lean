/-! RANKS OF MAPS: both sides -/
theorem x_mx {a b : Nat} (ha : a < 2 ^ 31) (hb : b < 2 ^ 31) : (if nI a < nI b then nI b else nI a) = nI (max a b) := by
  by_cases c : a < b
  · rw [if_pos (nI_lt c hb), Nat.max_eq_right (by omega)]
  · rw [if_neg (fun q => c ((nI_ltI ha hb).mp q)), Nat.max_eq_left (by omega)]
theorem q_rank {pl0 ke0 sz0 se0 gr0 pl1 ke1 sz1 se1 gr1 im ce wo pv fa pm pw fr ba : Nat → Int32} {rw : Nat → Int64} {ro co mo : Int32} {mi : Int64} {ki : Int32} {M : mm_H} (hI0 : x_CI pl0 sz0 se0) (hI1 : x_CI pl1 sz1 se1) (hf : x_fo im) (hs : x_cs pl0 pl1 im) {k : Int32} (k0 : ¬ k < 0) (k4 : ¬ 4 ≤ k) : mm_TC kM 50 [.ref 0, .int k] (kC pl0 ke0 sz0 se0 gr0 pl1 ke1 sz1 se1 gr1 im ce wo pv fa pm pw fr ba rw ro co mo mi ki M) (fun v h => v = some (.int (nI (x_rm2 pl0 se0 pl1 se1 im k) - nI (x_rk pl0 se0 2147483647 k) - nI (x_rk pl1 se1 2147483647 (k + 1)))) ∧ x_GR pl0 ke0 sz0 se0 gr0 pl1 ke1 sz1 se1 gr1 im M h) := by
  have b1 := x_m_le hI0 (k - 1)
  have b2 := x_m_le hI0 k
  have b3 := x_m_le hI1 k
  have b4 := x_m_le hI1 (k + 1)
  have hrl : ∀ P : Int32, (x_st ((x_m pl0 (k - 1)) + (x_m pl1 k)) P.toInt (x_ivP P) (fun a b => (x_MA pl0 se0 pl1 se1 im k a b).toInt % P.toInt) ((x_m pl0 k) + (x_m pl1 (k + 1)))).2 ≤ (x_m pl0 (k - 1)) + (x_m pl1 k) := fun P => (x_st_c (R := (x_m pl0 (k - 1)) + (x_m pl1 k)) (C := (x_m pl0 k) + (x_m pl1 (k + 1))) (p := P.toInt) (iv := x_ivP P) (E := (fun a b => (x_MA pl0 se0 pl1 se1 im k a b).toInt % P.toInt)) (fun a b _ _ => rfl) _ (Nat.le_refl _)).1
  have l1 := hrl 2147483647
  have l2 := hrl 2147483629
  refine mm_TC.of (M := kq_50) rfl rfl ?_
  refine mm_T.s rfl rfl rfl (fun _ => rfl) ?_
  refine mm_T.ic rfl rfl rfl rfl rfl (z_isD1 k0 k4) ?_
  refine mm_T.s rfl rfl rfl (fun _ => rfl) ?_
  refine mm_T.s rfl rfl rfl (fun _ => rfl) ?_
  refine mm_T.ivw rfl rfl rfl rfl rfl rfl (w_simp hI0 hI1 hf) ?_
  rintro _ _ ⟨hv, rfl⟩
  rcases hv with ⟨rfl, hs2⟩ | ⟨rfl, hs2⟩
  · skip
    refine mm_T.s rfl rfl rfl (fun _ => rfl) ?_
    refine mm_T.s rfl rfl rfl (fun _ => rfl) ?_
    refine mm_T.s rfl rfl rfl (fun _ => rfl) ?_
    refine mm_T.ivw rfl rfl rfl rfl rfl rfl (q_lm hI0 hI1 hf hs k) ?_
    rintro _ _ ⟨rfl, ce1, hc1, rfl⟩
    have eR : ∀ P : Int32, (x_st ((x_m pl0 (k - 1)) + (x_m pl1 k)) P.toInt (x_ivP P) (fun a b => (ce1 (a * 48 + b)).toInt % P.toInt) ((x_m pl0 k) + (x_m pl1 (k + 1)))).2 = (x_st ((x_m pl0 (k - 1)) + (x_m pl1 k)) P.toInt (x_ivP P) (fun a b => (x_MA pl0 se0 pl1 se1 im k a b).toInt % P.toInt) ((x_m pl0 k) + (x_m pl1 (k + 1)))).2 := fun P => (x_st_c (fun a b ha hb => by rw [hc1 a b ha hb]) _ (Nat.le_refl _)).2.1
    refine mm_T.s rfl rfl rfl (fun _ => rfl) ?_
    refine mm_T.gf rfl rfl rfl rfl rfl ?_
    refine mm_T.s rfl rfl rfl (fun _ => rfl) ?_
    refine mm_T.s rfl rfl rfl (fun _ => rfl) ?_
    refine mm_T.ivw rfl rfl rfl rfl rfl rfl (q_elim (by omega) (by omega) x_gpP.1.1 x_gpP.2.1 x_gpP.2.2.2) ?_
    rintro _ _ ⟨rfl, wo1, pv1, mi1, rfl⟩
    rw [eR]
    refine mm_T.s rfl rfl rfl (fun _ => rfl) ?_
    refine mm_T.gf rfl rfl rfl rfl rfl ?_
    refine mm_T.s rfl rfl rfl (fun _ => rfl) ?_
    refine mm_T.s rfl rfl rfl (fun _ => rfl) ?_
    refine mm_T.ivw rfl rfl rfl rfl rfl rfl (q_elim (by omega) (by omega) x_gpQ.1.1 x_gpQ.2.1 x_gpQ.2.2.2) ?_
    rintro _ _ ⟨rfl, wo2, pv2, mi2, rfl⟩
    rw [eR]
    refine mm_T.s rfl rfl rfl (fun _ => rfl) ?_
    refine mm_T.ti (nI (x_rm2 pl0 se0 pl1 se1 im k)) (x_mx (by omega) (by omega)) ?_
    refine mm_T.s rfl rfl rfl (fun _ => rfl) ?_
    refine mm_T.s rfl rfl rfl (fun _ => rfl) ?_
    refine mm_T.s rfl rfl rfl (fun _ => rfl) ?_
    refine mm_T.s rfl rfl rfl (fun _ => rfl) ?_
    refine mm_T.gf rfl rfl rfl rfl rfl ?_
    refine mm_T.s rfl rfl rfl (fun _ => rfl) ?_
    refine mm_T.s rfl rfl rfl (fun _ => rfl) ?_
    refine mm_T.ivw rfl rfl rfl rfl rfl rfl (q_br0 hI0 x_gpP k) ?_
    rintro _ _ ⟨rfl, ce3, wo3, pv3, ro3, co3, mo3, mi3, rfl⟩
    refine mm_T.s rfl rfl rfl (fun _ => rfl) ?_
    refine mm_T.s rfl rfl rfl (fun _ => rfl) ?_
    refine mm_T.s rfl rfl rfl (fun _ => rfl) ?_
    refine mm_T.gf rfl rfl rfl rfl rfl ?_
    refine mm_T.s rfl rfl rfl (fun _ => rfl) ?_
    refine mm_T.s rfl rfl rfl (fun _ => rfl) ?_
    refine mm_T.s rfl rfl rfl (fun _ => rfl) ?_
    refine mm_T.s rfl rfl rfl (fun _ => rfl) ?_
    refine mm_T.ivw rfl rfl rfl rfl rfl rfl (q_br1 hI1 x_gpP (k + 1)) ?_
    rintro _ _ ⟨rfl, ce4, wo4, pv4, ro4, co4, mo4, mi4, rfl⟩
    refine mm_T.s rfl rfl rfl (fun _ => rfl) ?_
    exact mm_T.ret rfl rfl rfl (⟨rfl, ⟨_, _, _, _, _, _, _, _, _, _, _, _, _, _, rfl⟩⟩)
  · exact absurd hs hs2
theorem q_rankN {pl0 ke0 sz0 se0 gr0 pl1 ke1 sz1 se1 gr1 im ce wo pv fa pm pw fr ba : Nat → Int32} {rw : Nat → Int64} {ro co mo : Int32} {mi : Int64} {ki : Int32} {M : mm_H} (hI0 : x_CI pl0 sz0 se0) (hI1 : x_CI pl1 sz1 se1) (hf : x_fo im) (hs : ¬ x_cs pl0 pl1 im) {k : Int32} (k0 : ¬ k < 0) (k4 : ¬ 4 ≤ k) : mm_TC kM 50 [.ref 0, .int k] (kC pl0 ke0 sz0 se0 gr0 pl1 ke1 sz1 se1 gr1 im ce wo pv fa pm pw fr ba rw ro co mo mi ki M) (fun v h => v = some (.int (-4)) ∧ x_GR pl0 ke0 sz0 se0 gr0 pl1 ke1 sz1 se1 gr1 im M h) := by
  refine mm_TC.of (M := kq_50) rfl rfl ?_
  refine mm_T.s rfl rfl rfl (fun _ => rfl) ?_
  refine mm_T.ic rfl rfl rfl rfl rfl (z_isD1 k0 k4) ?_
  refine mm_T.s rfl rfl rfl (fun _ => rfl) ?_
  refine mm_T.s rfl rfl rfl (fun _ => rfl) ?_
  refine mm_T.ivw rfl rfl rfl rfl rfl rfl (w_simp hI0 hI1 hf) ?_
  rintro _ _ ⟨hv, rfl⟩
  rcases hv with ⟨rfl, hs2⟩ | ⟨rfl, hs2⟩
  · exact absurd hs2 hs
  · skip
    refine mm_T.s rfl rfl rfl (fun _ => rfl) ?_
    refine mm_T.s rfl rfl rfl (fun _ => rfl) ?_
    exact mm_T.ret rfl rfl rfl (⟨rfl, ⟨_, _, _, _, _, _, _, _, _, _, _, _, _, _, rfl⟩⟩)
theorem q_rankB {pl0 ke0 sz0 se0 gr0 pl1 ke1 sz1 se1 gr1 im ce wo pv fa pm pw fr ba : Nat → Int32} {rw : Nat → Int64} {ro co mo : Int32} {mi : Int64} {ki : Int32} {M : mm_H} {k : Int32} (hk : k < 0 ∨ 4 ≤ k) : mm_TC kM 50 [.ref 0, .int k] (kC pl0 ke0 sz0 se0 gr0 pl1 ke1 sz1 se1 gr1 im ce wo pv fa pm pw fr ba rw ro co mo mi ki M) (fun v h => v = some (.int (-1)) ∧ x_GR pl0 ke0 sz0 se0 gr0 pl1 ke1 sz1 se1 gr1 im M h) := by
  refine mm_TC.of (M := kq_50) rfl rfl ?_
  refine mm_T.s rfl rfl rfl (fun _ => rfl) ?_
  refine mm_T.ic rfl rfl rfl rfl rfl (z_isD0 hk) ?_
  refine mm_T.s rfl rfl rfl (fun _ => rfl) ?_
  refine mm_T.s rfl rfl rfl (fun _ => rfl) ?_
  exact mm_T.ret rfl rfl rfl (⟨rfl, ⟨_, _, _, _, _, _, _, _, _, _, _, _, _, _, rfl⟩⟩)
theorem m_rankB {h : mm_H} {k : Int32} (hk : k < 0 ∨ 3 < k) : mm_EC kM 108 [.ref 25, .int k] h (some (.int (-1)), h) := by
  refine ⟨kq_108, rfl, rfl, ?_⟩
  refine mm_E.s rfl rfl rfl (fun _ => rfl) ?_
  refine mm_E.ic rfl rfl rfl rfl rfl (x_isD0 hk) ?_
  refine mm_E.s rfl rfl rfl (fun _ => rfl) ?_
  refine mm_E.s rfl rfl rfl (fun _ => rfl) ?_
  exact mm_E.ret rfl rfl rfl
theorem m_rankN {h : mm_H} {ro co di tr : Int32} {has : Nat → Int32} (hO : mm_nth h 25 = some (x_mo ro co di tr)) (hH : mm_nth h 26 = some (x_ha has)) {f : Nat → Int32} (h28 : mm_nth h 28 = some (x_it 8 f)) (hf : x_fo f) (hs : ¬ x_si has f) {k : Int32} (k0 : ¬ k < 0) (k3 : ¬ 3 < k) : mm_EC kM 108 [.ref 25, .int k] h (some (.int (-4)), h) := by
  refine ⟨kq_108, rfl, rfl, ?_⟩
  refine mm_E.s rfl rfl rfl (fun _ => rfl) ?_
  refine mm_E.ic rfl rfl rfl rfl rfl (x_isD1 k0 k3) ?_
  refine mm_E.s rfl rfl rfl (fun _ => rfl) ?_
  refine mm_E.s rfl rfl rfl (fun _ => rfl) ?_
  refine mm_E.iv rfl rfl rfl rfl hO rfl (g_si0 hO hH h28 hf hs) ?_
  refine mm_E.s rfl rfl rfl (fun _ => rfl) ?_
  refine mm_E.s rfl rfl rfl (fun _ => rfl) ?_
  exact mm_E.ret rfl rfl rfl
