/-! THE COUNTER: the public calls that reckon end well -/
theorem w_ih {pl0 ke0 sz0 se0 gr0 pl1 ke1 sz1 se1 gr1 im ce wo pv fa pm pw fr ba : Nat → Int32} {rw : Nat → Int64} {ro co mo : Int32} {mi : Int64} {ki : Int32} {M : mm_H} (hI0 : x_CI pl0 sz0 se0) (hI1 : x_CI pl1 sz1 se1) (c k : Int32) {p : Int32} (hp : ∀ l, l ≤ 1 → x_pw p l ≠ 0) : mm_TC kM 57 [.ref 0, .int c, .int k, .int p] (kC pl0 ke0 sz0 se0 gr0 pl1 ke1 sz1 se1 gr1 im ce wo pv fa pm pw fr ba rw ro co mo mi ki M) (fun v h => (∃ x, v = some (.int x)) ∧ x_GR pl0 ke0 sz0 se0 gr0 pl1 ke1 sz1 se1 gr1 im M h) := by
  refine mm_TC.of (M := kq_57) rfl rfl ?_
  by_cases hk : k < 0 ∨ 4 ≤ k
  · by_cases c0 : c = 0
    · subst c0
      refine mm_T.s rfl rfl rfl (fun _ => rfl) ?_
      refine mm_T.s rfl rfl rfl (fun _ => rfl) ?_
      refine mm_T.iv rfl rfl rfl rfl rfl rfl v_cx0 ?_
      refine mm_T.s rfl rfl rfl (fun _ => rfl) ?_
      refine mm_T.s rfl rfl rfl (fun _ => rfl) ?_
      refine mm_T.s rfl rfl rfl (fun _ => rfl) ?_
      refine mm_T.s rfl rfl rfl (fun _ => rfl) ?_
      refine mm_T.ic rfl rfl rfl rfl rfl (z_isD0 hk) ?_
      refine mm_T.s rfl rfl rfl (fun _ => rfl) ?_
      refine mm_T.s rfl rfl rfl (fun _ => rfl) ?_
      exact mm_T.ret rfl rfl rfl (⟨⟨_, rfl⟩, ⟨_, _, _, _, _, _, _, _, _, _, _, _, _, _, rfl⟩⟩)
    · by_cases c1 : c = 1
      · subst c1
        refine mm_T.s rfl rfl rfl (fun _ => rfl) ?_
        refine mm_T.s rfl rfl rfl (fun _ => rfl) ?_
        refine mm_T.iv rfl rfl rfl rfl rfl rfl v_cx1 ?_
        refine mm_T.s rfl rfl rfl (fun _ => rfl) ?_
        refine mm_T.s rfl rfl rfl (fun _ => rfl) ?_
        refine mm_T.s rfl rfl rfl (fun _ => rfl) ?_
        refine mm_T.s rfl rfl rfl (fun _ => rfl) ?_
        refine mm_T.ic rfl rfl rfl rfl rfl (z_isD0 hk) ?_
        refine mm_T.s rfl rfl rfl (fun _ => rfl) ?_
        refine mm_T.s rfl rfl rfl (fun _ => rfl) ?_
        exact mm_T.ret rfl rfl rfl (⟨⟨_, rfl⟩, ⟨_, _, _, _, _, _, _, _, _, _, _, _, _, _, rfl⟩⟩)
      · skip
        refine mm_T.s rfl rfl rfl (fun _ => rfl) ?_
        refine mm_T.s rfl rfl rfl (fun _ => rfl) ?_
        refine mm_T.iv rfl rfl rfl rfl rfl rfl (v_cxN (fun q => q.elim c0 c1)) ?_
        refine mm_T.s rfl rfl rfl (fun _ => rfl) ?_
        refine mm_T.s rfl rfl rfl (fun _ => rfl) ?_
        refine mm_T.s rfl rfl rfl (fun _ => rfl) ?_
        refine mm_T.s rfl rfl rfl (fun _ => rfl) ?_
        exact mm_T.ret rfl rfl rfl (⟨⟨_, rfl⟩, ⟨_, _, _, _, _, _, _, _, _, _, _, _, _, _, rfl⟩⟩)
  · have k0 : ¬ k < 0 := fun q => hk (Or.inl q)
    have k4 : ¬ 4 ≤ k := fun q => hk (Or.inr q)
    by_cases c0 : c = 0
    · subst c0
      refine mm_T.s rfl rfl rfl (fun _ => rfl) ?_
      refine mm_T.s rfl rfl rfl (fun _ => rfl) ?_
      refine mm_T.iv rfl rfl rfl rfl rfl rfl v_cx0 ?_
      refine mm_T.s rfl rfl rfl (fun _ => rfl) ?_
      refine mm_T.s rfl rfl rfl (fun _ => rfl) ?_
      refine mm_T.s rfl rfl rfl (fun _ => rfl) ?_
      refine mm_T.s rfl rfl rfl (fun _ => rfl) ?_
      refine mm_T.ic rfl rfl rfl rfl rfl (z_isD1 k0 k4) ?_
      refine mm_T.s rfl rfl rfl (fun _ => rfl) ?_
      refine mm_T.s rfl rfl rfl (fun _ => rfl) ?_
      refine mm_T.s rfl rfl rfl (fun _ => rfl) ?_
      refine mm_T.iv rfl rfl rfl rfl rfl rfl (v_sz0 hI0 _) ?_
      refine mm_T.s rfl rfl rfl (fun _ => rfl) ?_
      refine mm_T.s rfl rfl rfl (fun _ => rfl) ?_
      refine mm_T.s rfl rfl rfl (fun _ => rfl) ?_
      refine mm_T.s rfl rfl rfl (fun _ => rfl) ?_
      refine mm_T.ivw rfl rfl rfl rfl rfl rfl (w_br0 hI0 k hp) ?_
      rintro _ _ ⟨⟨t1, rfl⟩, ce1, wo1, pv1, ro1, co1, mo1, mi1, rfl⟩
      refine mm_T.s rfl rfl rfl (fun _ => rfl) ?_
      refine mm_T.s rfl rfl rfl (fun _ => rfl) ?_
      refine mm_T.s rfl rfl rfl (fun _ => rfl) ?_
      refine mm_T.s rfl rfl rfl (fun _ => rfl) ?_
      refine mm_T.s rfl rfl rfl (fun _ => rfl) ?_
      refine mm_T.s rfl rfl rfl (fun _ => rfl) ?_
      refine mm_T.s rfl rfl rfl (fun _ => rfl) ?_
      refine mm_T.ivw rfl rfl rfl rfl rfl rfl (w_br0 hI0 (k + 1) hp) ?_
      rintro _ _ ⟨⟨t2, rfl⟩, ce2, wo2, pv2, ro2, co2, mo2, mi2, rfl⟩
      refine mm_T.s rfl rfl rfl (fun _ => rfl) ?_
      exact mm_T.ret rfl rfl rfl (⟨⟨_, rfl⟩, ⟨_, _, _, _, _, _, _, _, _, _, _, _, _, _, rfl⟩⟩)
    · by_cases c1 : c = 1
      · subst c1
        refine mm_T.s rfl rfl rfl (fun _ => rfl) ?_
        refine mm_T.s rfl rfl rfl (fun _ => rfl) ?_
        refine mm_T.iv rfl rfl rfl rfl rfl rfl v_cx1 ?_
        refine mm_T.s rfl rfl rfl (fun _ => rfl) ?_
        refine mm_T.s rfl rfl rfl (fun _ => rfl) ?_
        refine mm_T.s rfl rfl rfl (fun _ => rfl) ?_
        refine mm_T.s rfl rfl rfl (fun _ => rfl) ?_
        refine mm_T.ic rfl rfl rfl rfl rfl (z_isD1 k0 k4) ?_
        refine mm_T.s rfl rfl rfl (fun _ => rfl) ?_
        refine mm_T.s rfl rfl rfl (fun _ => rfl) ?_
        refine mm_T.s rfl rfl rfl (fun _ => rfl) ?_
        refine mm_T.iv rfl rfl rfl rfl rfl rfl (v_sz1 hI1 _) ?_
        refine mm_T.s rfl rfl rfl (fun _ => rfl) ?_
        refine mm_T.s rfl rfl rfl (fun _ => rfl) ?_
        refine mm_T.s rfl rfl rfl (fun _ => rfl) ?_
        refine mm_T.s rfl rfl rfl (fun _ => rfl) ?_
        refine mm_T.ivw rfl rfl rfl rfl rfl rfl (w_br1 hI1 k hp) ?_
        rintro _ _ ⟨⟨t1, rfl⟩, ce1, wo1, pv1, ro1, co1, mo1, mi1, rfl⟩
        refine mm_T.s rfl rfl rfl (fun _ => rfl) ?_
        refine mm_T.s rfl rfl rfl (fun _ => rfl) ?_
        refine mm_T.s rfl rfl rfl (fun _ => rfl) ?_
        refine mm_T.s rfl rfl rfl (fun _ => rfl) ?_
        refine mm_T.s rfl rfl rfl (fun _ => rfl) ?_
        refine mm_T.s rfl rfl rfl (fun _ => rfl) ?_
        refine mm_T.s rfl rfl rfl (fun _ => rfl) ?_
        refine mm_T.ivw rfl rfl rfl rfl rfl rfl (w_br1 hI1 (k + 1) hp) ?_
        rintro _ _ ⟨⟨t2, rfl⟩, ce2, wo2, pv2, ro2, co2, mo2, mi2, rfl⟩
        refine mm_T.s rfl rfl rfl (fun _ => rfl) ?_
        exact mm_T.ret rfl rfl rfl (⟨⟨_, rfl⟩, ⟨_, _, _, _, _, _, _, _, _, _, _, _, _, _, rfl⟩⟩)
      · skip
        refine mm_T.s rfl rfl rfl (fun _ => rfl) ?_
        refine mm_T.s rfl rfl rfl (fun _ => rfl) ?_
        refine mm_T.iv rfl rfl rfl rfl rfl rfl (v_cxN (fun q => q.elim c0 c1)) ?_
        refine mm_T.s rfl rfl rfl (fun _ => rfl) ?_
        refine mm_T.s rfl rfl rfl (fun _ => rfl) ?_
        refine mm_T.s rfl rfl rfl (fun _ => rfl) ?_
        refine mm_T.s rfl rfl rfl (fun _ => rfl) ?_
        exact mm_T.ret rfl rfl rfl (⟨⟨_, rfl⟩, ⟨_, _, _, _, _, _, _, _, _, _, _, _, _, _, rfl⟩⟩)

theorem w_betti {pl0 ke0 sz0 se0 gr0 pl1 ke1 sz1 se1 gr1 im ce wo pv fa pm pw fr ba : Nat → Int32} {rw : Nat → Int64} {ro co mo : Int32} {mi : Int64} {ki : Int32} {M : mm_H} (hI0 : x_CI pl0 sz0 se0) (hI1 : x_CI pl1 sz1 se1) (c k : Int32) : mm_TC kM 40 [.ref 0, .int c, .int k] (kC pl0 ke0 sz0 se0 gr0 pl1 ke1 sz1 se1 gr1 im ce wo pv fa pm pw fr ba rw ro co mo mi ki M) (fun v h => (∃ x, v = some (.int x)) ∧ x_GR pl0 ke0 sz0 se0 gr0 pl1 ke1 sz1 se1 gr1 im M h) := by
  refine mm_TC.of (M := kq_40) rfl rfl ?_
  refine mm_T.s rfl rfl rfl (fun _ => rfl) ?_
  refine mm_T.s rfl rfl rfl (fun _ => rfl) ?_
  refine mm_T.s rfl rfl rfl (fun _ => rfl) ?_
  refine mm_T.s rfl rfl rfl (fun _ => rfl) ?_
  refine mm_T.ivw rfl rfl rfl rfl rfl rfl (w_ih hI0 hI1 c k x_pP) ?_
  rintro _ _ ⟨⟨x, rfl⟩, g⟩
  exact mm_T.ret rfl rfl rfl (⟨⟨_, rfl⟩, g⟩)

theorem x_pS {p : Int32} (h : x_pr p) : ∀ l, l ≤ 1 → x_pw p l ≠ 0 := by
  intro l hl
  have : l = 0 ∨ l = 1 := by omega
  rcases this with rfl | rfl <;> rcases h with rfl | rfl | rfl | rfl | rfl | rfl <;> decide
theorem w_bettiM {pl0 ke0 sz0 se0 gr0 pl1 ke1 sz1 se1 gr1 im ce wo pv fa pm pw fr ba : Nat → Int32} {rw : Nat → Int64} {ro co mo : Int32} {mi : Int64} {ki : Int32} {M : mm_H} (hI0 : x_CI pl0 sz0 se0) (hI1 : x_CI pl1 sz1 se1) (c k p : Int32) : mm_TC kM 42 [.ref 0, .int c, .int k, .int p] (kC pl0 ke0 sz0 se0 gr0 pl1 ke1 sz1 se1 gr1 im ce wo pv fa pm pw fr ba rw ro co mo mi ki M) (fun v h => (∃ x, v = some (.int x)) ∧ x_GR pl0 ke0 sz0 se0 gr0 pl1 ke1 sz1 se1 gr1 im M h) := by
  refine mm_TC.of (M := kq_42) rfl rfl ?_
  have J : x_pr p → mm_T kM none 42 35 [some (.ref 0), some (.int c), some (.int k), some (.int p)] [] (kC pl0 ke0 sz0 se0 gr0 pl1 ke1 sz1 se1 gr1 im ce wo pv fa pm pw fr ba rw ro co mo mi ki M) (fun v h => (∃ x, v = some (.int x)) ∧ x_GR pl0 ke0 sz0 se0 gr0 pl1 ke1 sz1 se1 gr1 im M h) := fun hp => by
    refine mm_T.s rfl rfl rfl (fun _ => rfl) ?_
    refine mm_T.s rfl rfl rfl (fun _ => rfl) ?_
    refine mm_T.s rfl rfl rfl (fun _ => rfl) ?_
    refine mm_T.s rfl rfl rfl (fun _ => rfl) ?_
    refine mm_T.ivw rfl rfl rfl rfl rfl rfl (w_ih hI0 hI1 c k (x_pS hp)) ?_
    rintro _ _ ⟨⟨x, rfl⟩, g⟩
    exact mm_T.ret rfl rfl rfl (⟨⟨_, rfl⟩, g⟩)
  refine mm_T.s rfl rfl rfl (fun _ => rfl) ?_
  refine mm_T.s rfl rfl rfl (fun _ => rfl) ?_
  refine mm_T.ci rfl rfl (fun hb2 => ?_) (fun hb2 => ?_)
  · skip
    exact J (Or.inl hb2)
  · skip
    refine mm_T.s rfl rfl rfl (fun _ => rfl) ?_
    refine mm_T.s rfl rfl rfl (fun _ => rfl) ?_
    refine mm_T.ci rfl rfl (fun hb7 => ?_) (fun hb7 => ?_)
    · skip
      exact J (Or.inr (Or.inl hb7))
    · skip
      refine mm_T.s rfl rfl rfl (fun _ => rfl) ?_
      refine mm_T.s rfl rfl rfl (fun _ => rfl) ?_
      refine mm_T.ci rfl rfl (fun hb12 => ?_) (fun hb12 => ?_)
      · skip
        exact J (Or.inr (Or.inr (Or.inl hb12)))
      · skip
        refine mm_T.s rfl rfl rfl (fun _ => rfl) ?_
        refine mm_T.s rfl rfl rfl (fun _ => rfl) ?_
        refine mm_T.ci rfl rfl (fun hb18 => ?_) (fun hb18 => ?_)
        · skip
          exact J (Or.inr (Or.inr (Or.inr (Or.inl hb18))))
        · skip
          refine mm_T.s rfl rfl rfl (fun _ => rfl) ?_
          refine mm_T.s rfl rfl rfl (fun _ => rfl) ?_
          refine mm_T.ci rfl rfl (fun hb24 => ?_) (fun hb24 => ?_)
          · skip
            exact J (Or.inr (Or.inr (Or.inr (Or.inr (Or.inl hb24)))))
          · skip
            refine mm_T.s rfl rfl rfl (fun _ => rfl) ?_
            refine mm_T.s rfl rfl rfl (fun _ => rfl) ?_
            refine mm_T.ci rfl rfl (fun hb30 => ?_) (fun hb30 => ?_)
            · skip
              exact J (Or.inr (Or.inr (Or.inr (Or.inr (Or.inr hb30)))))
            · skip
              refine mm_T.s rfl rfl rfl (fun _ => rfl) ?_
              exact mm_T.ret rfl rfl rfl (⟨⟨_, rfl⟩, ⟨_, _, _, _, _, _, _, _, _, _, _, _, _, _, rfl⟩⟩)

theorem w_torsion {pl0 ke0 sz0 se0 gr0 pl1 ke1 sz1 se1 gr1 im ce wo pv fa pm pw fr ba : Nat → Int32} {rw : Nat → Int64} {ro co mo : Int32} {mi : Int64} {ki : Int32} {M : mm_H} (hI0 : x_CI pl0 sz0 se0) (hI1 : x_CI pl1 sz1 se1) (c k i : Int32) : mm_TC kM 41 [.ref 0, .int c, .int k, .int i] (kC pl0 ke0 sz0 se0 gr0 pl1 ke1 sz1 se1 gr1 im ce wo pv fa pm pw fr ba rw ro co mo mi ki M) (fun v h => (∃ x, v = some (.int x)) ∧ x_GR pl0 ke0 sz0 se0 gr0 pl1 ke1 sz1 se1 gr1 im M h) := by
  have a1 := x_m_le hI0 (k + 1 - 1)
  have a2 := x_m_le hI0 (k + 1)
  have a3 := x_m_le hI1 (k + 1 - 1)
  have a4 := x_m_le hI1 (k + 1)
  refine mm_TC.of (M := kq_41) rfl rfl ?_
  by_cases hk : k < 0 ∨ 4 ≤ k
  · by_cases c0 : c = 0
    · subst c0
      refine mm_T.s rfl rfl rfl (fun _ => rfl) ?_
      refine mm_T.s rfl rfl rfl (fun _ => rfl) ?_
      refine mm_T.iv rfl rfl rfl rfl rfl rfl v_cx0 ?_
      refine mm_T.s rfl rfl rfl (fun _ => rfl) ?_
      refine mm_T.s rfl rfl rfl (fun _ => rfl) ?_
      refine mm_T.s rfl rfl rfl (fun _ => rfl) ?_
      refine mm_T.s rfl rfl rfl (fun _ => rfl) ?_
      refine mm_T.ic rfl rfl rfl rfl rfl (z_isD0 hk) ?_
      refine mm_T.s rfl rfl rfl (fun _ => rfl) ?_
      refine mm_T.s rfl rfl rfl (fun _ => rfl) ?_
      exact mm_T.ret rfl rfl rfl (⟨⟨_, rfl⟩, ⟨_, _, _, _, _, _, _, _, _, _, _, _, _, _, rfl⟩⟩)
    · by_cases c1 : c = 1
      · subst c1
        refine mm_T.s rfl rfl rfl (fun _ => rfl) ?_
        refine mm_T.s rfl rfl rfl (fun _ => rfl) ?_
        refine mm_T.iv rfl rfl rfl rfl rfl rfl v_cx1 ?_
        refine mm_T.s rfl rfl rfl (fun _ => rfl) ?_
        refine mm_T.s rfl rfl rfl (fun _ => rfl) ?_
        refine mm_T.s rfl rfl rfl (fun _ => rfl) ?_
        refine mm_T.s rfl rfl rfl (fun _ => rfl) ?_
        refine mm_T.ic rfl rfl rfl rfl rfl (z_isD0 hk) ?_
        refine mm_T.s rfl rfl rfl (fun _ => rfl) ?_
        refine mm_T.s rfl rfl rfl (fun _ => rfl) ?_
        exact mm_T.ret rfl rfl rfl (⟨⟨_, rfl⟩, ⟨_, _, _, _, _, _, _, _, _, _, _, _, _, _, rfl⟩⟩)
      · skip
        refine mm_T.s rfl rfl rfl (fun _ => rfl) ?_
        refine mm_T.s rfl rfl rfl (fun _ => rfl) ?_
        refine mm_T.iv rfl rfl rfl rfl rfl rfl (v_cxN (fun q => q.elim c0 c1)) ?_
        refine mm_T.s rfl rfl rfl (fun _ => rfl) ?_
        refine mm_T.s rfl rfl rfl (fun _ => rfl) ?_
        refine mm_T.s rfl rfl rfl (fun _ => rfl) ?_
        refine mm_T.s rfl rfl rfl (fun _ => rfl) ?_
        exact mm_T.ret rfl rfl rfl (⟨⟨_, rfl⟩, ⟨_, _, _, _, _, _, _, _, _, _, _, _, _, _, rfl⟩⟩)
  · have k0 : ¬ k < 0 := fun q => hk (Or.inl q)
    have k4 : ¬ 4 ≤ k := fun q => hk (Or.inr q)
    by_cases i0 : i < 0
    · by_cases c0 : c = 0
      · subst c0
        refine mm_T.s rfl rfl rfl (fun _ => rfl) ?_
        refine mm_T.s rfl rfl rfl (fun _ => rfl) ?_
        refine mm_T.iv rfl rfl rfl rfl rfl rfl v_cx0 ?_
        refine mm_T.s rfl rfl rfl (fun _ => rfl) ?_
        refine mm_T.s rfl rfl rfl (fun _ => rfl) ?_
        refine mm_T.s rfl rfl rfl (fun _ => rfl) ?_
        refine mm_T.s rfl rfl rfl (fun _ => rfl) ?_
        refine mm_T.ic rfl rfl rfl rfl rfl (z_isD1 k0 k4) ?_
        refine mm_T.s rfl rfl rfl (fun _ => rfl) ?_
        refine mm_T.s rfl rfl rfl (fun _ => rfl) ?_
        refine mm_T.s rfl rfl rfl (fun _ => if_neg (Int32.not_le.mpr i0)) ?_
        refine mm_T.s rfl rfl rfl (fun _ => rfl) ?_
        exact mm_T.ret rfl rfl rfl (⟨⟨_, rfl⟩, ⟨_, _, _, _, _, _, _, _, _, _, _, _, _, _, rfl⟩⟩)
      · by_cases c1 : c = 1
        · subst c1
          refine mm_T.s rfl rfl rfl (fun _ => rfl) ?_
          refine mm_T.s rfl rfl rfl (fun _ => rfl) ?_
          refine mm_T.iv rfl rfl rfl rfl rfl rfl v_cx1 ?_
          refine mm_T.s rfl rfl rfl (fun _ => rfl) ?_
          refine mm_T.s rfl rfl rfl (fun _ => rfl) ?_
          refine mm_T.s rfl rfl rfl (fun _ => rfl) ?_
          refine mm_T.s rfl rfl rfl (fun _ => rfl) ?_
          refine mm_T.ic rfl rfl rfl rfl rfl (z_isD1 k0 k4) ?_
          refine mm_T.s rfl rfl rfl (fun _ => rfl) ?_
          refine mm_T.s rfl rfl rfl (fun _ => rfl) ?_
          refine mm_T.s rfl rfl rfl (fun _ => if_neg (Int32.not_le.mpr i0)) ?_
          refine mm_T.s rfl rfl rfl (fun _ => rfl) ?_
          exact mm_T.ret rfl rfl rfl (⟨⟨_, rfl⟩, ⟨_, _, _, _, _, _, _, _, _, _, _, _, _, _, rfl⟩⟩)
        · skip
          refine mm_T.s rfl rfl rfl (fun _ => rfl) ?_
          refine mm_T.s rfl rfl rfl (fun _ => rfl) ?_
          refine mm_T.iv rfl rfl rfl rfl rfl rfl (v_cxN (fun q => q.elim c0 c1)) ?_
          refine mm_T.s rfl rfl rfl (fun _ => rfl) ?_
          refine mm_T.s rfl rfl rfl (fun _ => rfl) ?_
          refine mm_T.s rfl rfl rfl (fun _ => rfl) ?_
          refine mm_T.s rfl rfl rfl (fun _ => rfl) ?_
          exact mm_T.ret rfl rfl rfl (⟨⟨_, rfl⟩, ⟨_, _, _, _, _, _, _, _, _, _, _, _, _, _, rfl⟩⟩)
    · by_cases c0 : c = 0
      · subst c0
        refine mm_T.s rfl rfl rfl (fun _ => rfl) ?_
        refine mm_T.s rfl rfl rfl (fun _ => rfl) ?_
        refine mm_T.iv rfl rfl rfl rfl rfl rfl v_cx0 ?_
        refine mm_T.s rfl rfl rfl (fun _ => rfl) ?_
        refine mm_T.s rfl rfl rfl (fun _ => rfl) ?_
        refine mm_T.s rfl rfl rfl (fun _ => rfl) ?_
        refine mm_T.s rfl rfl rfl (fun _ => rfl) ?_
        refine mm_T.ic rfl rfl rfl rfl rfl (z_isD1 k0 k4) ?_
        refine mm_T.s rfl rfl rfl (fun _ => rfl) ?_
        refine mm_T.s rfl rfl rfl (fun _ => rfl) ?_
        refine mm_T.s rfl rfl rfl (fun _ => if_pos (Int32.not_lt.mp i0)) ?_
        refine mm_T.s rfl rfl rfl (fun _ => rfl) ?_
        refine mm_T.s rfl rfl rfl (fun _ => rfl) ?_
        refine mm_T.s rfl rfl rfl (fun _ => rfl) ?_
        refine mm_T.s rfl rfl rfl (fun _ => rfl) ?_
        refine mm_T.s rfl rfl rfl (fun _ => rfl) ?_
        refine mm_T.ivw rfl rfl rfl rfl rfl rfl (w_lb0 hI0 (k + 1)) ?_
        rintro _ _ ⟨rfl, ce1, rfl⟩
        refine mm_T.s rfl rfl rfl (fun _ => rfl) ?_
        refine mm_T.gf rfl rfl rfl rfl rfl ?_
        refine mm_T.ivw rfl rfl rfl rfl rfl rfl (w_ff (by omega) (by omega)) ?_
        rintro _ _ ⟨t, wo1, pv1, fa1, pm1, pw1, mo1, mi1, ki1, ht, rfl, rfl⟩
        refine mm_T.s rfl rfl rfl (fun _ => rfl) ?_
        refine mm_T.s rfl rfl rfl (fun _ => rfl) ?_
        refine mm_T.s rfl rfl rfl (fun _ => rfl) ?_
        have J : ∀ j, j ≤ t → mm_T kM none 41 72 [some (.ref 0), some (.int 0), some (.int k), some (.int i), some (.ref 1), some (.int (nI t)), some (.int (nI j))] [] (kC pl0 ke0 sz0 se0 gr0 pl1 ke1 sz1 se1 gr1 im ce1 wo1 pv1 fa1 pm1 pw1 fr ba rw (nI (x_m pl0 (k + 1 - 1))) (nI (x_m pl0 (k + 1))) mo1 mi1 ki1 M) (fun v h => (∃ x, v = some (.int x)) ∧ x_GR pl0 ke0 sz0 se0 gr0 pl1 ke1 sz1 se1 gr1 im M h) := fun j hjt => by
          obtain ⟨jj, hjj, rfl⟩ := nI_of i0
          by_cases hlt : jj < t - j
          · have e1 : nI t - nI j = nI (t - j) := pk_sub (by omega)
            have h78 : ¬ (nI t - nI j) ≤ nI jj := by
              rw [e1]
              exact nI_ge hlt (by omega)
            refine mm_T.s rfl rfl rfl (fun _ => rfl) ?_
            refine mm_T.s rfl rfl rfl (fun _ => rfl) ?_
            refine mm_T.s rfl rfl rfl (fun _ => rfl) ?_
            refine mm_T.s rfl rfl rfl (fun _ => rfl) ?_
            refine mm_T.s rfl rfl rfl (fun _ => if_neg h78) ?_
            refine mm_T.s rfl rfl rfl (fun _ => rfl) ?_
            refine mm_T.gf rfl rfl rfl rfl rfl ?_
            refine mm_T.s rfl rfl rfl (fun _ => rfl) ?_
            refine mm_T.s rfl rfl rfl (fun _ => rfl) ?_
            refine mm_T.s rfl rfl rfl (fun _ => rfl) ?_
            refine mm_T.ti (nI (j + jj)) (nI_add j jj) ?_
            refine mm_T.iv rfl rfl rfl rfl rfl rfl (w_factor (by omega)) ?_
            refine mm_T.s rfl rfl rfl (fun _ => rfl) ?_
            exact mm_T.ret rfl rfl rfl (⟨⟨_, rfl⟩, ⟨_, _, _, _, _, _, _, _, _, _, _, _, _, _, rfl⟩⟩)
          · have e1 : nI t - nI j = nI (t - j) := pk_sub (by omega)
            have h78 : (nI t - nI j) ≤ nI jj := by
              rw [e1]
              exact nI_le (by omega) hjj
            refine mm_T.s rfl rfl rfl (fun _ => rfl) ?_
            refine mm_T.s rfl rfl rfl (fun _ => rfl) ?_
            refine mm_T.s rfl rfl rfl (fun _ => rfl) ?_
            refine mm_T.s rfl rfl rfl (fun _ => rfl) ?_
            refine mm_T.s rfl rfl rfl (fun _ => if_pos h78) ?_
            refine mm_T.s rfl rfl rfl (fun _ => rfl) ?_
            exact mm_T.ret rfl rfl rfl (⟨⟨_, rfl⟩, ⟨_, _, _, _, _, _, _, _, _, _, _, _, _, _, rfl⟩⟩)
        refine mm_T.up (n := t) (P := fun j L h => ∃ x, x = nI j ∧ L = [some (.ref 0), some (.int 0), some (.int k), some (.int i), some (.ref 1), some (.int (nI t)), some (.int x)] ∧ h = (kC pl0 ke0 sz0 se0 gr0 pl1 ke1 sz1 se1 gr1 im ce1 wo1 pv1 fa1 pm1 pw1 fr ba rw (nI (x_m pl0 (k + 1 - 1))) (nI (x_m pl0 (k + 1))) mo1 mi1 ki1 M)) ?_ ?_ 0 (Nat.zero_le _) _ _ ⟨_, rfl, rfl, rfl⟩
        · skip
          rintro j _ _ hj ⟨x, rfl, rfl, rfl⟩ K
          refine mm_T.s rfl rfl rfl (fun _ => rfl) ?_
          refine mm_T.s rfl rfl rfl (fun _ => rfl) ?_
          refine mm_T.s rfl rfl rfl (fun _ => if_neg (nI_ge hj (by omega))) ?_
          refine mm_T.s rfl rfl rfl (fun _ => rfl) ?_
          refine mm_T.gf rfl rfl rfl rfl rfl ?_
          refine mm_T.s rfl rfl rfl (fun _ => rfl) ?_
          refine mm_T.iv rfl rfl rfl rfl rfl rfl (w_factor (by omega)) ?_
          refine mm_T.s rfl rfl rfl (fun _ => rfl) ?_
          refine mm_T.ci rfl rfl (fun hb63 => ?_) (fun hb63 => ?_)
          · skip
            exact J j (by omega)
          · skip
            refine mm_T.s rfl rfl rfl (fun _ => rfl) ?_
            refine mm_T.s rfl rfl rfl (fun _ => rfl) ?_
            exact K _ _ ⟨_, nI_1 j, rfl, rfl⟩
        · skip
          rintro _ _ ⟨x, rfl, rfl, rfl⟩
          refine mm_T.s rfl rfl rfl (fun _ => rfl) ?_
          refine mm_T.s rfl rfl rfl (fun _ => rfl) ?_
          refine mm_T.s rfl rfl rfl (fun _ => if_pos (nI_le (Nat.le_refl _) (by omega))) ?_
          exact J t (Nat.le_refl t)
      · by_cases c1 : c = 1
        · subst c1
          refine mm_T.s rfl rfl rfl (fun _ => rfl) ?_
          refine mm_T.s rfl rfl rfl (fun _ => rfl) ?_
          refine mm_T.iv rfl rfl rfl rfl rfl rfl v_cx1 ?_
          refine mm_T.s rfl rfl rfl (fun _ => rfl) ?_
          refine mm_T.s rfl rfl rfl (fun _ => rfl) ?_
          refine mm_T.s rfl rfl rfl (fun _ => rfl) ?_
          refine mm_T.s rfl rfl rfl (fun _ => rfl) ?_
          refine mm_T.ic rfl rfl rfl rfl rfl (z_isD1 k0 k4) ?_
          refine mm_T.s rfl rfl rfl (fun _ => rfl) ?_
          refine mm_T.s rfl rfl rfl (fun _ => rfl) ?_
          refine mm_T.s rfl rfl rfl (fun _ => if_pos (Int32.not_lt.mp i0)) ?_
          refine mm_T.s rfl rfl rfl (fun _ => rfl) ?_
          refine mm_T.s rfl rfl rfl (fun _ => rfl) ?_
          refine mm_T.s rfl rfl rfl (fun _ => rfl) ?_
          refine mm_T.s rfl rfl rfl (fun _ => rfl) ?_
          refine mm_T.s rfl rfl rfl (fun _ => rfl) ?_
          refine mm_T.ivw rfl rfl rfl rfl rfl rfl (w_lb1 hI1 (k + 1)) ?_
          rintro _ _ ⟨rfl, ce1, rfl⟩
          refine mm_T.s rfl rfl rfl (fun _ => rfl) ?_
          refine mm_T.gf rfl rfl rfl rfl rfl ?_
          refine mm_T.ivw rfl rfl rfl rfl rfl rfl (w_ff (by omega) (by omega)) ?_
          rintro _ _ ⟨t, wo1, pv1, fa1, pm1, pw1, mo1, mi1, ki1, ht, rfl, rfl⟩
          refine mm_T.s rfl rfl rfl (fun _ => rfl) ?_
          refine mm_T.s rfl rfl rfl (fun _ => rfl) ?_
          refine mm_T.s rfl rfl rfl (fun _ => rfl) ?_
          have J : ∀ j, j ≤ t → mm_T kM none 41 72 [some (.ref 0), some (.int 1), some (.int k), some (.int i), some (.ref 7), some (.int (nI t)), some (.int (nI j))] [] (kC pl0 ke0 sz0 se0 gr0 pl1 ke1 sz1 se1 gr1 im ce1 wo1 pv1 fa1 pm1 pw1 fr ba rw (nI (x_m pl1 (k + 1 - 1))) (nI (x_m pl1 (k + 1))) mo1 mi1 ki1 M) (fun v h => (∃ x, v = some (.int x)) ∧ x_GR pl0 ke0 sz0 se0 gr0 pl1 ke1 sz1 se1 gr1 im M h) := fun j hjt => by
            obtain ⟨jj, hjj, rfl⟩ := nI_of i0
            by_cases hlt : jj < t - j
            · have e1 : nI t - nI j = nI (t - j) := pk_sub (by omega)
              have h78 : ¬ (nI t - nI j) ≤ nI jj := by
                rw [e1]
                exact nI_ge hlt (by omega)
              refine mm_T.s rfl rfl rfl (fun _ => rfl) ?_
              refine mm_T.s rfl rfl rfl (fun _ => rfl) ?_
              refine mm_T.s rfl rfl rfl (fun _ => rfl) ?_
              refine mm_T.s rfl rfl rfl (fun _ => rfl) ?_
              refine mm_T.s rfl rfl rfl (fun _ => if_neg h78) ?_
              refine mm_T.s rfl rfl rfl (fun _ => rfl) ?_
              refine mm_T.gf rfl rfl rfl rfl rfl ?_
              refine mm_T.s rfl rfl rfl (fun _ => rfl) ?_
              refine mm_T.s rfl rfl rfl (fun _ => rfl) ?_
              refine mm_T.s rfl rfl rfl (fun _ => rfl) ?_
              refine mm_T.ti (nI (j + jj)) (nI_add j jj) ?_
              refine mm_T.iv rfl rfl rfl rfl rfl rfl (w_factor (by omega)) ?_
              refine mm_T.s rfl rfl rfl (fun _ => rfl) ?_
              exact mm_T.ret rfl rfl rfl (⟨⟨_, rfl⟩, ⟨_, _, _, _, _, _, _, _, _, _, _, _, _, _, rfl⟩⟩)
            · have e1 : nI t - nI j = nI (t - j) := pk_sub (by omega)
              have h78 : (nI t - nI j) ≤ nI jj := by
                rw [e1]
                exact nI_le (by omega) hjj
              refine mm_T.s rfl rfl rfl (fun _ => rfl) ?_
              refine mm_T.s rfl rfl rfl (fun _ => rfl) ?_
              refine mm_T.s rfl rfl rfl (fun _ => rfl) ?_
              refine mm_T.s rfl rfl rfl (fun _ => rfl) ?_
              refine mm_T.s rfl rfl rfl (fun _ => if_pos h78) ?_
              refine mm_T.s rfl rfl rfl (fun _ => rfl) ?_
              exact mm_T.ret rfl rfl rfl (⟨⟨_, rfl⟩, ⟨_, _, _, _, _, _, _, _, _, _, _, _, _, _, rfl⟩⟩)
          refine mm_T.up (n := t) (P := fun j L h => ∃ x, x = nI j ∧ L = [some (.ref 0), some (.int 1), some (.int k), some (.int i), some (.ref 7), some (.int (nI t)), some (.int x)] ∧ h = (kC pl0 ke0 sz0 se0 gr0 pl1 ke1 sz1 se1 gr1 im ce1 wo1 pv1 fa1 pm1 pw1 fr ba rw (nI (x_m pl1 (k + 1 - 1))) (nI (x_m pl1 (k + 1))) mo1 mi1 ki1 M)) ?_ ?_ 0 (Nat.zero_le _) _ _ ⟨_, rfl, rfl, rfl⟩
          · skip
            rintro j _ _ hj ⟨x, rfl, rfl, rfl⟩ K
            refine mm_T.s rfl rfl rfl (fun _ => rfl) ?_
            refine mm_T.s rfl rfl rfl (fun _ => rfl) ?_
            refine mm_T.s rfl rfl rfl (fun _ => if_neg (nI_ge hj (by omega))) ?_
            refine mm_T.s rfl rfl rfl (fun _ => rfl) ?_
            refine mm_T.gf rfl rfl rfl rfl rfl ?_
            refine mm_T.s rfl rfl rfl (fun _ => rfl) ?_
            refine mm_T.iv rfl rfl rfl rfl rfl rfl (w_factor (by omega)) ?_
            refine mm_T.s rfl rfl rfl (fun _ => rfl) ?_
            refine mm_T.ci rfl rfl (fun hb63 => ?_) (fun hb63 => ?_)
            · skip
              exact J j (by omega)
            · skip
              refine mm_T.s rfl rfl rfl (fun _ => rfl) ?_
              refine mm_T.s rfl rfl rfl (fun _ => rfl) ?_
              exact K _ _ ⟨_, nI_1 j, rfl, rfl⟩
          · skip
            rintro _ _ ⟨x, rfl, rfl, rfl⟩
            refine mm_T.s rfl rfl rfl (fun _ => rfl) ?_
            refine mm_T.s rfl rfl rfl (fun _ => rfl) ?_
            refine mm_T.s rfl rfl rfl (fun _ => if_pos (nI_le (Nat.le_refl _) (by omega))) ?_
            exact J t (Nat.le_refl t)
        · skip
          refine mm_T.s rfl rfl rfl (fun _ => rfl) ?_
          refine mm_T.s rfl rfl rfl (fun _ => rfl) ?_
          refine mm_T.iv rfl rfl rfl rfl rfl rfl (v_cxN (fun q => q.elim c0 c1)) ?_
          refine mm_T.s rfl rfl rfl (fun _ => rfl) ?_
          refine mm_T.s rfl rfl rfl (fun _ => rfl) ?_
          refine mm_T.s rfl rfl rfl (fun _ => rfl) ?_
          refine mm_T.s rfl rfl rfl (fun _ => rfl) ?_
          exact mm_T.ret rfl rfl rfl (⟨⟨_, rfl⟩, ⟨_, _, _, _, _, _, _, _, _, _, _, _, _, _, rfl⟩⟩)

theorem w_order {pl0 ke0 sz0 se0 gr0 pl1 ke1 sz1 se1 gr1 im ce wo pv fa pm pw fr ba : Nat → Int32} {rw : Nat → Int64} {ro co mo : Int32} {mi : Int64} {ki : Int32} {M : mm_H} (hI0 : x_CI pl0 sz0 se0) (hI1 : x_CI pl1 sz1 se1) (c k : Int32) : mm_TC kM 46 [.ref 0, .int c, .int k] (kC pl0 ke0 sz0 se0 gr0 pl1 ke1 sz1 se1 gr1 im ce wo pv fa pm pw fr ba rw ro co mo mi ki M) (fun v h => (∃ x, v = some (.int x)) ∧ x_GR pl0 ke0 sz0 se0 gr0 pl1 ke1 sz1 se1 gr1 im M h) := by
  refine mm_TC.of (M := kq_46) rfl rfl ?_
  by_cases hk : k < 0 ∨ 4 ≤ k
  · by_cases c0 : c = 0
    · subst c0
      refine mm_T.s rfl rfl rfl (fun _ => rfl) ?_
      refine mm_T.s rfl rfl rfl (fun _ => rfl) ?_
      refine mm_T.iv rfl rfl rfl rfl rfl rfl v_cx0 ?_
      refine mm_T.s rfl rfl rfl (fun _ => rfl) ?_
      refine mm_T.s rfl rfl rfl (fun _ => rfl) ?_
      refine mm_T.s rfl rfl rfl (fun _ => rfl) ?_
      refine mm_T.s rfl rfl rfl (fun _ => rfl) ?_
      refine mm_T.ic rfl rfl rfl rfl rfl (z_isD0 hk) ?_
      refine mm_T.s rfl rfl rfl (fun _ => rfl) ?_
      refine mm_T.s rfl rfl rfl (fun _ => rfl) ?_
      exact mm_T.ret rfl rfl rfl (⟨⟨_, rfl⟩, ⟨_, _, _, _, _, _, _, _, _, _, _, _, _, _, rfl⟩⟩)
    · by_cases c1 : c = 1
      · subst c1
        refine mm_T.s rfl rfl rfl (fun _ => rfl) ?_
        refine mm_T.s rfl rfl rfl (fun _ => rfl) ?_
        refine mm_T.iv rfl rfl rfl rfl rfl rfl v_cx1 ?_
        refine mm_T.s rfl rfl rfl (fun _ => rfl) ?_
        refine mm_T.s rfl rfl rfl (fun _ => rfl) ?_
        refine mm_T.s rfl rfl rfl (fun _ => rfl) ?_
        refine mm_T.s rfl rfl rfl (fun _ => rfl) ?_
        refine mm_T.ic rfl rfl rfl rfl rfl (z_isD0 hk) ?_
        refine mm_T.s rfl rfl rfl (fun _ => rfl) ?_
        refine mm_T.s rfl rfl rfl (fun _ => rfl) ?_
        exact mm_T.ret rfl rfl rfl (⟨⟨_, rfl⟩, ⟨_, _, _, _, _, _, _, _, _, _, _, _, _, _, rfl⟩⟩)
      · skip
        refine mm_T.s rfl rfl rfl (fun _ => rfl) ?_
        refine mm_T.s rfl rfl rfl (fun _ => rfl) ?_
        refine mm_T.iv rfl rfl rfl rfl rfl rfl (v_cxN (fun q => q.elim c0 c1)) ?_
        refine mm_T.s rfl rfl rfl (fun _ => rfl) ?_
        refine mm_T.s rfl rfl rfl (fun _ => rfl) ?_
        refine mm_T.s rfl rfl rfl (fun _ => rfl) ?_
        refine mm_T.s rfl rfl rfl (fun _ => rfl) ?_
        exact mm_T.ret rfl rfl rfl (⟨⟨_, rfl⟩, ⟨_, _, _, _, _, _, _, _, _, _, _, _, _, _, rfl⟩⟩)
  · have k0 : ¬ k < 0 := fun q => hk (Or.inl q)
    have k4 : ¬ 4 ≤ k := fun q => hk (Or.inr q)
    obtain ⟨a, ha3, rfl⟩ := nI_of2 (x := k) (M := 3) (n := 3) rfl k0 (Int32.not_lt.mp (fun q => k4 (x_34 q)))
    have ha : a < 4 := by omega
    have a1 := x_m_le hI0 (nI a)
    have a2 := x_m_le hI0 (nI a + 1)
    have a3 := x_m_le hI1 (nI a)
    have a4 := x_m_le hI1 (nI a + 1)
    by_cases c0 : c = 0
    · subst c0
      refine mm_T.s rfl rfl rfl (fun _ => rfl) ?_
      refine mm_T.s rfl rfl rfl (fun _ => rfl) ?_
      refine mm_T.iv rfl rfl rfl rfl rfl rfl v_cx0 ?_
      refine mm_T.s rfl rfl rfl (fun _ => rfl) ?_
      refine mm_T.s rfl rfl rfl (fun _ => rfl) ?_
      refine mm_T.s rfl rfl rfl (fun _ => rfl) ?_
      refine mm_T.s rfl rfl rfl (fun _ => rfl) ?_
      refine mm_T.ic rfl rfl rfl rfl rfl (z_isD1 k0 k4) ?_
      refine mm_T.s rfl rfl rfl (fun _ => rfl) ?_
      refine mm_T.s rfl rfl rfl (fun _ => rfl) ?_
      refine mm_T.s rfl rfl rfl (fun _ => rfl) ?_
      refine mm_T.ivw rfl rfl rfl rfl rfl rfl (w_kc0 hI0 ha) ?_
      rintro _ _ ⟨hv, rfl⟩
      rcases hv with rfl | rfl
      · skip
        refine mm_T.s rfl rfl rfl (fun _ => rfl) ?_
        refine mm_T.s rfl rfl rfl (fun _ => rfl) ?_
        exact mm_T.ret rfl rfl rfl (⟨⟨_, rfl⟩, ⟨_, _, _, _, _, _, _, _, _, _, _, _, _, _, rfl⟩⟩)
      · skip
        refine mm_T.s rfl rfl rfl (fun _ => rfl) ?_
        refine mm_T.s rfl rfl rfl (fun _ => rfl) ?_
        refine mm_T.s rfl rfl rfl (fun _ => rfl) ?_
        refine mm_T.s rfl rfl rfl (fun _ => rfl) ?_
        refine mm_T.s rfl rfl rfl (fun _ => rfl) ?_
        refine mm_T.iv rfl rfl rfl rfl rfl rfl (v_sz0 hI0 _) ?_
        refine mm_T.s rfl rfl rfl (fun _ => rfl) ?_
        refine mm_T.s rfl rfl rfl (fun _ => rfl) ?_
        refine mm_T.gf rfl rfl rfl rfl rfl ?_
        refine mm_T.s rfl rfl rfl (fun _ => rfl) ?_
        refine mm_T.s rfl rfl rfl (fun _ => rfl) ?_
        refine mm_T.iv rfl rfl rfl rfl rfl rfl (v_sz0 hI0 _) ?_
        refine mm_T.s rfl rfl rfl (fun _ => rfl) ?_
        refine mm_T.s rfl rfl rfl (fun _ => rfl) ?_
        refine mm_T.s rfl rfl rfl (fun _ => rfl) ?_
        refine mm_T.ti (nI (x_m pl0 (nI a + 1) + 1)) (nI_1 _) ?_
        refine mm_T.ivw rfl rfl rfl rfl rfl rfl (w_shape (by omega) (by omega)) ?_
        rintro _ _ ⟨rfl, ce1, rfl⟩
        refine mm_T.s rfl rfl rfl (fun _ => rfl) ?_
        refine mm_T.s rfl rfl rfl (fun _ => rfl) ?_
        refine mm_T.s rfl rfl rfl (fun _ => rfl) ?_
        refine mm_T.s rfl rfl rfl (fun _ => rfl) ?_
        refine mm_T.s rfl rfl rfl (fun _ => rfl) ?_
        refine mm_T.s rfl rfl rfl (fun _ => rfl) ?_
        refine mm_T.s rfl rfl rfl (fun _ => rfl) ?_
        refine mm_T.ivw rfl rfl rfl rfl rfl rfl (w_wb0 hI0 (nI a + 1) (a := 0) (b := 0) (by omega) (by omega)) ?_
        rintro _ _ ⟨rfl, ce2, rfl⟩
        refine mm_T.s rfl rfl rfl (fun _ => rfl) ?_
        refine mm_T.s rfl rfl rfl (fun _ => rfl) ?_
        refine mm_T.up (n := (x_m pl0 (nI a))) (P := fun i L h => ∃ x ce', x = nI i ∧ L = [some (.ref 0), some (.int 0), some (.int (nI a)), some (.ref 1), some (.int (nI (x_m pl0 (nI a + 1)))), some (.int x)] ∧ h = (kC pl0 ke0 sz0 se0 gr0 pl1 ke1 sz1 se1 gr1 im ce' wo pv fa pm pw fr ba rw (nI (x_m pl0 (nI a))) (nI (x_m pl0 (nI a + 1) + 1)) mo mi ki M)) ?_ ?_ 0 (Nat.zero_le _) _ _ ⟨_, _, rfl, rfl, rfl⟩
        · skip
          rintro i _ _ hi ⟨x, ce3, rfl, rfl, rfl⟩ K
          have hi0 := hi
          rw [x_m_a ha] at hi0
          obtain ⟨q, hq1, hq2, hq, hqd, hqp, hqc⟩ := hI0.set ha hi0
          have hle := hI0.le ha
          have E2 : mm_EC kM 5 [.ref 1, .int (nI a), .int (nI i)] (kC pl0 ke0 sz0 se0 gr0 pl1 ke1 sz1 se1 gr1 im ce3 wo pv fa pm pw fr ba rw (nI (x_m pl0 (nI a))) (nI (x_m pl0 (nI a + 1) + 1)) mo mi ki M) (some (.int (nI q)), (kC pl0 ke0 sz0 se0 gr0 pl1 ke1 sz1 se1 gr1 im ce3 wo pv fa pm pw fr ba rw (nI (x_m pl0 (nI a))) (nI (x_m pl0 (nI a + 1) + 1)) mo mi ki M)) := by
            rw [← hq]
            exact v_setAt0 (by omega)
          refine mm_T.s rfl rfl rfl (fun _ => rfl) ?_
          refine mm_T.s rfl rfl rfl (fun _ => rfl) ?_
          refine mm_T.s rfl rfl rfl (fun _ => rfl) ?_
          refine mm_T.iv rfl rfl rfl rfl rfl rfl (v_sz0 hI0 _) ?_
          refine mm_T.s rfl rfl rfl (fun _ => if_neg (nI_ge hi (by omega))) ?_
          refine mm_T.s rfl rfl rfl (fun _ => rfl) ?_
          refine mm_T.gf rfl rfl rfl rfl rfl ?_
          refine mm_T.s rfl rfl rfl (fun _ => rfl) ?_
          refine mm_T.s rfl rfl rfl (fun _ => rfl) ?_
          refine mm_T.s rfl rfl rfl (fun _ => rfl) ?_
          refine mm_T.s rfl rfl rfl (fun _ => rfl) ?_
          refine mm_T.s rfl rfl rfl (fun _ => rfl) ?_
          refine mm_T.s rfl rfl rfl (fun _ => rfl) ?_
          refine mm_T.iv rfl rfl rfl rfl rfl rfl E2 ?_
          refine mm_T.iv rfl rfl rfl rfl rfl rfl (v_kept0 hq2) ?_
          refine mm_T.iv rfl rfl rfl rfl rfl rfl (w_write (by omega) (by omega) _) ?_
          refine mm_T.s rfl rfl rfl (fun _ => rfl) ?_
          refine mm_T.s rfl rfl rfl (fun _ => rfl) ?_
          exact K _ _ ⟨_, _, nI_1 i, rfl, rfl⟩
        · skip
          rintro _ _ ⟨x, ce3, rfl, rfl, rfl⟩
          refine mm_T.s rfl rfl rfl (fun _ => rfl) ?_
          refine mm_T.s rfl rfl rfl (fun _ => rfl) ?_
          refine mm_T.s rfl rfl rfl (fun _ => rfl) ?_
          refine mm_T.iv rfl rfl rfl rfl rfl rfl (v_sz0 hI0 _) ?_
          refine mm_T.s rfl rfl rfl (fun _ => if_pos (nI_le (Nat.le_refl _) (by omega))) ?_
          refine mm_T.s rfl rfl rfl (fun _ => rfl) ?_
          refine mm_T.gf rfl rfl rfl rfl rfl ?_
          refine mm_T.ivw rfl rfl rfl rfl rfl rfl (w_ord (by omega) (by omega) (by omega)) ?_
          rintro _ _ ⟨⟨x, rfl⟩, wo4, pv4, pm4, pw4, mo4, mi4, ki4, rfl⟩
          exact mm_T.ret rfl rfl rfl (⟨⟨_, rfl⟩, ⟨_, _, _, _, _, _, _, _, _, _, _, _, _, _, rfl⟩⟩)
    · by_cases c1 : c = 1
      · subst c1
        refine mm_T.s rfl rfl rfl (fun _ => rfl) ?_
        refine mm_T.s rfl rfl rfl (fun _ => rfl) ?_
        refine mm_T.iv rfl rfl rfl rfl rfl rfl v_cx1 ?_
        refine mm_T.s rfl rfl rfl (fun _ => rfl) ?_
        refine mm_T.s rfl rfl rfl (fun _ => rfl) ?_
        refine mm_T.s rfl rfl rfl (fun _ => rfl) ?_
        refine mm_T.s rfl rfl rfl (fun _ => rfl) ?_
        refine mm_T.ic rfl rfl rfl rfl rfl (z_isD1 k0 k4) ?_
        refine mm_T.s rfl rfl rfl (fun _ => rfl) ?_
        refine mm_T.s rfl rfl rfl (fun _ => rfl) ?_
        refine mm_T.s rfl rfl rfl (fun _ => rfl) ?_
        refine mm_T.ivw rfl rfl rfl rfl rfl rfl (w_kc1 hI1 ha) ?_
        rintro _ _ ⟨hv, rfl⟩
        rcases hv with rfl | rfl
        · skip
          refine mm_T.s rfl rfl rfl (fun _ => rfl) ?_
          refine mm_T.s rfl rfl rfl (fun _ => rfl) ?_
          exact mm_T.ret rfl rfl rfl (⟨⟨_, rfl⟩, ⟨_, _, _, _, _, _, _, _, _, _, _, _, _, _, rfl⟩⟩)
        · skip
          refine mm_T.s rfl rfl rfl (fun _ => rfl) ?_
          refine mm_T.s rfl rfl rfl (fun _ => rfl) ?_
          refine mm_T.s rfl rfl rfl (fun _ => rfl) ?_
          refine mm_T.s rfl rfl rfl (fun _ => rfl) ?_
          refine mm_T.s rfl rfl rfl (fun _ => rfl) ?_
          refine mm_T.iv rfl rfl rfl rfl rfl rfl (v_sz1 hI1 _) ?_
          refine mm_T.s rfl rfl rfl (fun _ => rfl) ?_
          refine mm_T.s rfl rfl rfl (fun _ => rfl) ?_
          refine mm_T.gf rfl rfl rfl rfl rfl ?_
          refine mm_T.s rfl rfl rfl (fun _ => rfl) ?_
          refine mm_T.s rfl rfl rfl (fun _ => rfl) ?_
          refine mm_T.iv rfl rfl rfl rfl rfl rfl (v_sz1 hI1 _) ?_
          refine mm_T.s rfl rfl rfl (fun _ => rfl) ?_
          refine mm_T.s rfl rfl rfl (fun _ => rfl) ?_
          refine mm_T.s rfl rfl rfl (fun _ => rfl) ?_
          refine mm_T.ti (nI (x_m pl1 (nI a + 1) + 1)) (nI_1 _) ?_
          refine mm_T.ivw rfl rfl rfl rfl rfl rfl (w_shape (by omega) (by omega)) ?_
          rintro _ _ ⟨rfl, ce1, rfl⟩
          refine mm_T.s rfl rfl rfl (fun _ => rfl) ?_
          refine mm_T.s rfl rfl rfl (fun _ => rfl) ?_
          refine mm_T.s rfl rfl rfl (fun _ => rfl) ?_
          refine mm_T.s rfl rfl rfl (fun _ => rfl) ?_
          refine mm_T.s rfl rfl rfl (fun _ => rfl) ?_
          refine mm_T.s rfl rfl rfl (fun _ => rfl) ?_
          refine mm_T.s rfl rfl rfl (fun _ => rfl) ?_
          refine mm_T.ivw rfl rfl rfl rfl rfl rfl (w_wb1 hI1 (nI a + 1) (a := 0) (b := 0) (by omega) (by omega)) ?_
          rintro _ _ ⟨rfl, ce2, rfl⟩
          refine mm_T.s rfl rfl rfl (fun _ => rfl) ?_
          refine mm_T.s rfl rfl rfl (fun _ => rfl) ?_
          refine mm_T.up (n := (x_m pl1 (nI a))) (P := fun i L h => ∃ x ce', x = nI i ∧ L = [some (.ref 0), some (.int 1), some (.int (nI a)), some (.ref 7), some (.int (nI (x_m pl1 (nI a + 1)))), some (.int x)] ∧ h = (kC pl0 ke0 sz0 se0 gr0 pl1 ke1 sz1 se1 gr1 im ce' wo pv fa pm pw fr ba rw (nI (x_m pl1 (nI a))) (nI (x_m pl1 (nI a + 1) + 1)) mo mi ki M)) ?_ ?_ 0 (Nat.zero_le _) _ _ ⟨_, _, rfl, rfl, rfl⟩
          · skip
            rintro i _ _ hi ⟨x, ce3, rfl, rfl, rfl⟩ K
            have hi0 := hi
            rw [x_m_a ha] at hi0
            obtain ⟨q, hq1, hq2, hq, hqd, hqp, hqc⟩ := hI1.set ha hi0
            have hle := hI1.le ha
            have E2 : mm_EC kM 5 [.ref 7, .int (nI a), .int (nI i)] (kC pl0 ke0 sz0 se0 gr0 pl1 ke1 sz1 se1 gr1 im ce3 wo pv fa pm pw fr ba rw (nI (x_m pl1 (nI a))) (nI (x_m pl1 (nI a + 1) + 1)) mo mi ki M) (some (.int (nI q)), (kC pl0 ke0 sz0 se0 gr0 pl1 ke1 sz1 se1 gr1 im ce3 wo pv fa pm pw fr ba rw (nI (x_m pl1 (nI a))) (nI (x_m pl1 (nI a + 1) + 1)) mo mi ki M)) := by
              rw [← hq]
              exact v_setAt1 (by omega)
            refine mm_T.s rfl rfl rfl (fun _ => rfl) ?_
            refine mm_T.s rfl rfl rfl (fun _ => rfl) ?_
            refine mm_T.s rfl rfl rfl (fun _ => rfl) ?_
            refine mm_T.iv rfl rfl rfl rfl rfl rfl (v_sz1 hI1 _) ?_
            refine mm_T.s rfl rfl rfl (fun _ => if_neg (nI_ge hi (by omega))) ?_
            refine mm_T.s rfl rfl rfl (fun _ => rfl) ?_
            refine mm_T.gf rfl rfl rfl rfl rfl ?_
            refine mm_T.s rfl rfl rfl (fun _ => rfl) ?_
            refine mm_T.s rfl rfl rfl (fun _ => rfl) ?_
            refine mm_T.s rfl rfl rfl (fun _ => rfl) ?_
            refine mm_T.s rfl rfl rfl (fun _ => rfl) ?_
            refine mm_T.s rfl rfl rfl (fun _ => rfl) ?_
            refine mm_T.s rfl rfl rfl (fun _ => rfl) ?_
            refine mm_T.iv rfl rfl rfl rfl rfl rfl E2 ?_
            refine mm_T.iv rfl rfl rfl rfl rfl rfl (v_kept1 hq2) ?_
            refine mm_T.iv rfl rfl rfl rfl rfl rfl (w_write (by omega) (by omega) _) ?_
            refine mm_T.s rfl rfl rfl (fun _ => rfl) ?_
            refine mm_T.s rfl rfl rfl (fun _ => rfl) ?_
            exact K _ _ ⟨_, _, nI_1 i, rfl, rfl⟩
          · skip
            rintro _ _ ⟨x, ce3, rfl, rfl, rfl⟩
            refine mm_T.s rfl rfl rfl (fun _ => rfl) ?_
            refine mm_T.s rfl rfl rfl (fun _ => rfl) ?_
            refine mm_T.s rfl rfl rfl (fun _ => rfl) ?_
            refine mm_T.iv rfl rfl rfl rfl rfl rfl (v_sz1 hI1 _) ?_
            refine mm_T.s rfl rfl rfl (fun _ => if_pos (nI_le (Nat.le_refl _) (by omega))) ?_
            refine mm_T.s rfl rfl rfl (fun _ => rfl) ?_
            refine mm_T.gf rfl rfl rfl rfl rfl ?_
            refine mm_T.ivw rfl rfl rfl rfl rfl rfl (w_ord (by omega) (by omega) (by omega)) ?_
            rintro _ _ ⟨⟨x, rfl⟩, wo4, pv4, pm4, pw4, mo4, mi4, ki4, rfl⟩
            exact mm_T.ret rfl rfl rfl (⟨⟨_, rfl⟩, ⟨_, _, _, _, _, _, _, _, _, _, _, _, _, _, rfl⟩⟩)
      · skip
        refine mm_T.s rfl rfl rfl (fun _ => rfl) ?_
        refine mm_T.s rfl rfl rfl (fun _ => rfl) ?_
        refine mm_T.iv rfl rfl rfl rfl rfl rfl (v_cxN (fun q => q.elim c0 c1)) ?_
        refine mm_T.s rfl rfl rfl (fun _ => rfl) ?_
        refine mm_T.s rfl rfl rfl (fun _ => rfl) ?_
        refine mm_T.s rfl rfl rfl (fun _ => rfl) ?_
        refine mm_T.s rfl rfl rfl (fun _ => rfl) ?_
        exact mm_T.ret rfl rfl rfl (⟨⟨_, rfl⟩, ⟨_, _, _, _, _, _, _, _, _, _, _, _, _, _, rfl⟩⟩)

