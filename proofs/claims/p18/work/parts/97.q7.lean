/-! BETTI NUMBERS MODULO SMALL PRIMES: the call on both sides -/
theorem q_bmN {pl0 ke0 sz0 se0 gr0 pl1 ke1 sz1 se1 gr1 im ce wo pv fa pm pw fr ba : Nat → Int32} {rw : Nat → Int64} {ro co mo : Int32} {mi : Int64} {ki : Int32} {M : mm_H} (c k : Int32) {p : Int32} (hp : ¬ (p = 2 ∨ p = 3 ∨ p = 5 ∨ p = 7 ∨ p = 11 ∨ p = 13)) : mm_EC kM 42 [.ref 0, .int c, .int k, .int p] (kC pl0 ke0 sz0 se0 gr0 pl1 ke1 sz1 se1 gr1 im ce wo pv fa pm pw fr ba rw ro co mo mi ki M) (some (.int (-1)), (kC pl0 ke0 sz0 se0 gr0 pl1 ke1 sz1 se1 gr1 im ce wo pv fa pm pw fr ba rw ro co mo mi ki M)) := by
  refine ⟨kq_42, rfl, rfl, ?_⟩
  refine mm_E.s rfl rfl rfl (fun _ => rfl) ?_
  refine mm_E.s rfl rfl rfl (fun _ => rfl) ?_
  refine mm_E.s rfl rfl rfl (fun _ => if_neg (fun q => hp (Or.inl q))) ?_
  refine mm_E.s rfl rfl rfl (fun _ => rfl) ?_
  refine mm_E.s rfl rfl rfl (fun _ => rfl) ?_
  refine mm_E.s rfl rfl rfl (fun _ => if_neg (fun q => hp (Or.inr (Or.inl q)))) ?_
  refine mm_E.s rfl rfl rfl (fun _ => rfl) ?_
  refine mm_E.s rfl rfl rfl (fun _ => rfl) ?_
  refine mm_E.s rfl rfl rfl (fun _ => if_neg (fun q => hp (Or.inr (Or.inr (Or.inl q))))) ?_
  refine mm_E.s rfl rfl rfl (fun _ => rfl) ?_
  refine mm_E.s rfl rfl rfl (fun _ => rfl) ?_
  refine mm_E.s rfl rfl rfl (fun _ => if_neg (fun q => hp (Or.inr (Or.inr (Or.inr (Or.inl q)))))) ?_
  refine mm_E.s rfl rfl rfl (fun _ => rfl) ?_
  refine mm_E.s rfl rfl rfl (fun _ => rfl) ?_
  refine mm_E.s rfl rfl rfl (fun _ => if_neg (fun q => hp (Or.inr (Or.inr (Or.inr (Or.inr (Or.inl q))))))) ?_
  refine mm_E.s rfl rfl rfl (fun _ => rfl) ?_
  refine mm_E.s rfl rfl rfl (fun _ => rfl) ?_
  refine mm_E.s rfl rfl rfl (fun _ => if_neg (fun q => hp (Or.inr (Or.inr (Or.inr (Or.inr (Or.inr q))))))) ?_
  refine mm_E.s rfl rfl rfl (fun _ => rfl) ?_
  exact mm_E.ret rfl rfl rfl
theorem m_bm0 {h : mm_H} (c k p : Int32) {z : Int32} (hz : z = 0 ∨ ¬ (c = 0 ∨ c = 1) ∨ (k < 0 ∨ 3 < k)) : mm_E kM none 88 38 [some (.ref 25), some (.int c), some (.int k), some (.int p), none, none] [.int z] h (some (.int (-1)), h) := by
  by_cases hb : c = 0 ∨ c = 1
  · by_cases hk : k < 0 ∨ 3 < k
    · skip
      refine mm_E.s rfl rfl rfl (fun _ => rfl) ?_
      refine mm_E.s rfl rfl rfl (fun _ => rfl) ?_
      refine mm_E.ic rfl rfl rfl rfl rfl (x_isC1 hb) ?_
      refine mm_E.s rfl rfl rfl (fun _ => rfl) ?_
      refine mm_E.s rfl rfl rfl (fun _ => rfl) ?_
      refine mm_E.ic rfl rfl rfl rfl rfl (x_isD0 hk) ?_
      refine mm_E.s rfl rfl rfl (fun _ => rfl) ?_
      refine mm_E.s rfl rfl rfl (fun _ => rfl) ?_
      exact mm_E.ret rfl rfl rfl
    · have z0 : z = 0 := hz.resolve_right (fun q => q.elim (fun y => y hb) hk)
      subst z0
      refine mm_E.s rfl rfl rfl (fun _ => rfl) ?_
      refine mm_E.s rfl rfl rfl (fun _ => rfl) ?_
      refine mm_E.ic rfl rfl rfl rfl rfl (x_isC1 hb) ?_
      refine mm_E.s rfl rfl rfl (fun _ => rfl) ?_
      refine mm_E.s rfl rfl rfl (fun _ => rfl) ?_
      refine mm_E.ic rfl rfl rfl rfl rfl (x_isD1 (fun q => hk (Or.inl q)) (fun q => hk (Or.inr q))) ?_
      refine mm_E.s rfl rfl rfl (fun _ => rfl) ?_
      refine mm_E.s rfl rfl rfl (fun _ => rfl) ?_
      refine mm_E.s rfl rfl rfl (fun _ => rfl) ?_
      refine mm_E.s rfl rfl rfl (fun _ => rfl) ?_
      exact mm_E.ret rfl rfl rfl
  · skip
    refine mm_E.s rfl rfl rfl (fun _ => rfl) ?_
    refine mm_E.s rfl rfl rfl (fun _ => rfl) ?_
    refine mm_E.ic rfl rfl rfl rfl rfl (x_isC0 hb) ?_
    refine mm_E.s rfl rfl rfl (fun _ => rfl) ?_
    refine mm_E.s rfl rfl rfl (fun _ => rfl) ?_
    exact mm_E.ret rfl rfl rfl
theorem m_bmN {h : mm_H} (c k : Int32) {p : Int32} (hp : ¬ (p = 2 ∨ p = 3 ∨ p = 5 ∨ p = 7 ∨ p = 11 ∨ p = 13)) : mm_EC kM 88 [.ref 25, .int c, .int k, .int p] h (some (.int (-1)), h) := by
  refine ⟨kq_88, rfl, rfl, ?_⟩
  refine mm_E.s rfl rfl rfl (fun _ => rfl) ?_
  refine mm_E.s rfl rfl rfl (fun _ => rfl) ?_
  refine mm_E.s rfl rfl rfl (fun _ => if_neg (fun q => hp (Or.inl q))) ?_
  refine mm_E.s rfl rfl rfl (fun _ => rfl) ?_
  refine mm_E.s rfl rfl rfl (fun _ => rfl) ?_
  refine mm_E.s rfl rfl rfl (fun _ => if_neg (fun q => hp (Or.inr (Or.inl q)))) ?_
  refine mm_E.s rfl rfl rfl (fun _ => rfl) ?_
  refine mm_E.s rfl rfl rfl (fun _ => rfl) ?_
  refine mm_E.s rfl rfl rfl (fun _ => if_neg (fun q => hp (Or.inr (Or.inr (Or.inl q))))) ?_
  refine mm_E.s rfl rfl rfl (fun _ => rfl) ?_
  refine mm_E.s rfl rfl rfl (fun _ => rfl) ?_
  refine mm_E.s rfl rfl rfl (fun _ => if_neg (fun q => hp (Or.inr (Or.inr (Or.inr (Or.inl q)))))) ?_
  refine mm_E.s rfl rfl rfl (fun _ => rfl) ?_
  refine mm_E.s rfl rfl rfl (fun _ => rfl) ?_
  refine mm_E.s rfl rfl rfl (fun _ => if_neg (fun q => hp (Or.inr (Or.inr (Or.inr (Or.inr (Or.inl q))))))) ?_
  refine mm_E.s rfl rfl rfl (fun _ => rfl) ?_
  refine mm_E.s rfl rfl rfl (fun _ => rfl) ?_
  refine mm_E.s rfl rfl rfl (fun _ => if_neg (fun q => hp (Or.inr (Or.inr (Or.inr (Or.inr (Or.inr q))))))) ?_
  refine mm_E.s rfl rfl rfl (fun _ => rfl) ?_
  exact m_bm0 c k p (Or.inl rfl)
theorem m_bmB {h : mm_H} {c k : Int32} {P : Nat} (hP : P = 2 ∨ P = 3 ∨ P = 5 ∨ P = 7 ∨ P = 11 ∨ P = 13) (hz : ¬ (c = 0 ∨ c = 1) ∨ (k < 0 ∨ 3 < k)) : mm_EC kM 88 [.ref 25, .int c, .int k, .int (nI P)] h (some (.int (-1)), h) := by
  refine ⟨kq_88, rfl, rfl, ?_⟩
  rcases hP with rfl | rfl | rfl | rfl | rfl | rfl
  · skip
    refine mm_E.s rfl rfl rfl (fun _ => rfl) ?_
    refine mm_E.s rfl rfl rfl (fun _ => rfl) ?_
    refine mm_E.s rfl rfl rfl (fun _ => rfl) ?_
    refine mm_E.s rfl rfl rfl (fun _ => rfl) ?_
    refine mm_E.s rfl rfl rfl (fun _ => rfl) ?_
    exact m_bm0 c k _ (Or.inr hz)
  · skip
    refine mm_E.s rfl rfl rfl (fun _ => rfl) ?_
    refine mm_E.s rfl rfl rfl (fun _ => rfl) ?_
    refine mm_E.s rfl rfl rfl (fun _ => rfl) ?_
    refine mm_E.s rfl rfl rfl (fun _ => rfl) ?_
    refine mm_E.s rfl rfl rfl (fun _ => rfl) ?_
    refine mm_E.s rfl rfl rfl (fun _ => rfl) ?_
    refine mm_E.s rfl rfl rfl (fun _ => rfl) ?_
    refine mm_E.s rfl rfl rfl (fun _ => rfl) ?_
    exact m_bm0 c k _ (Or.inr hz)
  · skip
    refine mm_E.s rfl rfl rfl (fun _ => rfl) ?_
    refine mm_E.s rfl rfl rfl (fun _ => rfl) ?_
    refine mm_E.s rfl rfl rfl (fun _ => rfl) ?_
    refine mm_E.s rfl rfl rfl (fun _ => rfl) ?_
    refine mm_E.s rfl rfl rfl (fun _ => rfl) ?_
    refine mm_E.s rfl rfl rfl (fun _ => rfl) ?_
    refine mm_E.s rfl rfl rfl (fun _ => rfl) ?_
    refine mm_E.s rfl rfl rfl (fun _ => rfl) ?_
    refine mm_E.s rfl rfl rfl (fun _ => rfl) ?_
    refine mm_E.s rfl rfl rfl (fun _ => rfl) ?_
    refine mm_E.s rfl rfl rfl (fun _ => rfl) ?_
    exact m_bm0 c k _ (Or.inr hz)
  · skip
    refine mm_E.s rfl rfl rfl (fun _ => rfl) ?_
    refine mm_E.s rfl rfl rfl (fun _ => rfl) ?_
    refine mm_E.s rfl rfl rfl (fun _ => rfl) ?_
    refine mm_E.s rfl rfl rfl (fun _ => rfl) ?_
    refine mm_E.s rfl rfl rfl (fun _ => rfl) ?_
    refine mm_E.s rfl rfl rfl (fun _ => rfl) ?_
    refine mm_E.s rfl rfl rfl (fun _ => rfl) ?_
    refine mm_E.s rfl rfl rfl (fun _ => rfl) ?_
    refine mm_E.s rfl rfl rfl (fun _ => rfl) ?_
    refine mm_E.s rfl rfl rfl (fun _ => rfl) ?_
    refine mm_E.s rfl rfl rfl (fun _ => rfl) ?_
    refine mm_E.s rfl rfl rfl (fun _ => rfl) ?_
    refine mm_E.s rfl rfl rfl (fun _ => rfl) ?_
    refine mm_E.s rfl rfl rfl (fun _ => rfl) ?_
    exact m_bm0 c k _ (Or.inr hz)
  · skip
    refine mm_E.s rfl rfl rfl (fun _ => rfl) ?_
    refine mm_E.s rfl rfl rfl (fun _ => rfl) ?_
    refine mm_E.s rfl rfl rfl (fun _ => rfl) ?_
    refine mm_E.s rfl rfl rfl (fun _ => rfl) ?_
    refine mm_E.s rfl rfl rfl (fun _ => rfl) ?_
    refine mm_E.s rfl rfl rfl (fun _ => rfl) ?_
    refine mm_E.s rfl rfl rfl (fun _ => rfl) ?_
    refine mm_E.s rfl rfl rfl (fun _ => rfl) ?_
    refine mm_E.s rfl rfl rfl (fun _ => rfl) ?_
    refine mm_E.s rfl rfl rfl (fun _ => rfl) ?_
    refine mm_E.s rfl rfl rfl (fun _ => rfl) ?_
    refine mm_E.s rfl rfl rfl (fun _ => rfl) ?_
    refine mm_E.s rfl rfl rfl (fun _ => rfl) ?_
    refine mm_E.s rfl rfl rfl (fun _ => rfl) ?_
    refine mm_E.s rfl rfl rfl (fun _ => rfl) ?_
    refine mm_E.s rfl rfl rfl (fun _ => rfl) ?_
    refine mm_E.s rfl rfl rfl (fun _ => rfl) ?_
    exact m_bm0 c k _ (Or.inr hz)
  · skip
    refine mm_E.s rfl rfl rfl (fun _ => rfl) ?_
    refine mm_E.s rfl rfl rfl (fun _ => rfl) ?_
    refine mm_E.s rfl rfl rfl (fun _ => rfl) ?_
    refine mm_E.s rfl rfl rfl (fun _ => rfl) ?_
    refine mm_E.s rfl rfl rfl (fun _ => rfl) ?_
    refine mm_E.s rfl rfl rfl (fun _ => rfl) ?_
    refine mm_E.s rfl rfl rfl (fun _ => rfl) ?_
    refine mm_E.s rfl rfl rfl (fun _ => rfl) ?_
    refine mm_E.s rfl rfl rfl (fun _ => rfl) ?_
    refine mm_E.s rfl rfl rfl (fun _ => rfl) ?_
    refine mm_E.s rfl rfl rfl (fun _ => rfl) ?_
    refine mm_E.s rfl rfl rfl (fun _ => rfl) ?_
    refine mm_E.s rfl rfl rfl (fun _ => rfl) ?_
    refine mm_E.s rfl rfl rfl (fun _ => rfl) ?_
    refine mm_E.s rfl rfl rfl (fun _ => rfl) ?_
    refine mm_E.s rfl rfl rfl (fun _ => rfl) ?_
    refine mm_E.s rfl rfl rfl (fun _ => rfl) ?_
    refine mm_E.s rfl rfl rfl (fun _ => rfl) ?_
    refine mm_E.s rfl rfl rfl (fun _ => rfl) ?_
    refine mm_E.s rfl rfl rfl (fun _ => rfl) ?_
    exact m_bm0 c k _ (Or.inr hz)
theorem j_bettiMT {h : mm_H} (hJ : x_JI h) (c k p : Int32) : x_2 42 88 [.int c, .int k, .int p] h True := by
  obtain ⟨pl0, ke0, sz0, se0, gr0, pl1, ke1, sz1, se1, gr1, im, ce, wo, pv, fa, pm, pw, fr, ba, rw, ro, co, mo, mi, ki, has, ke, f, ma, wq, dv, cy, sp, e1, e2, e3, rn, cn, di, tr, hI0, hI1, hf, him, hJ0, hJ1, rfl⟩ := hJ
  have hmi := x_J1.mi hJ0 hJ1 hI0 hI1
  by_cases hp : p = 2 ∨ p = 3 ∨ p = 5 ∨ p = 7 ∨ p = 11 ∨ p = 13
  · obtain ⟨P, hP, rfl⟩ : ∃ P, (P = 2 ∨ P = 3 ∨ P = 5 ∨ P = 7 ∨ P = 11 ∨ P = 13) ∧ p = nI P := by
      rcases hp with rfl | rfl | rfl | rfl | rfl | rfl
      · exact ⟨2, by decide, rfl⟩
      · exact ⟨3, by decide, rfl⟩
      · exact ⟨5, by decide, rfl⟩
      · exact ⟨7, by decide, rfl⟩
      · exact ⟨11, by decide, rfl⟩
      · exact ⟨13, by decide, rfl⟩
    have hPm : P ∈ [2, 3, 5, 7, 11, 13] := by simpa only [List.mem_cons, List.not_mem_nil, or_false] using hP
    by_cases hk : ¬ k < 0 ∧ ¬ 4 ≤ k
    · by_cases c0 : c = 0
      · subst c0
        obtain ⟨v, h1, E, rfl, ce2, wo2, pv2, fa2, pm2, pw2, fr2, ba2, rw2, ro2, co2, mo2, mi2, ki2, rfl⟩ := q_bm (M := kE has ke f ma wq dv cy sp e1 e2 e3 rn cn di tr) (pl0 := pl0) (ke0 := ke0) (sz0 := sz0) (se0 := se0) (gr0 := gr0) (pl1 := pl1) (ke1 := ke1) (sz1 := sz1) (se1 := se1) (gr1 := gr1) (im := im) (ce := ce) (wo := wo) (pv := pv) (fa := fa) (pm := pm) (pw := pw) (fr := fr) (ba := ba) (rw := rw) (ro := ro) (co := co) (mo := mo) (mi := mi) (ki := ki) hPm (q_ih0 hI0 (x_gp hPm) hk.1 hk.2)
        obtain ⟨w, h2, E2, rfl, ma3, wq3, dv3, cy3, sp3, e13, e23, e33, rn3, cn3, di3, tr3, rfl⟩ := m_bmE (c := (x_cc pl0 ke0 sz0 se0 gr0 pl1 ke1 sz1 se1 gr1 im ce2 wo2 pv2 fa2 pm2 pw2 fr2 ba2 rw2 ro2 co2 mo2 mi2 ki2)) (f := f) (ma := ma) (wo := wq) (dv := dv) (cy := cy) (sp := sp) (e1 := e1) (e2 := e2) (e3 := e3) (ro := rn) (co := cn) (di := di) (tr := tr) hmi (n := 0) (by decide) hJ0 hI0 hPm hk.1 (fun z => hk.2 (x_3l4.mp z))
        exact ⟨_, _, _, _, x_e1 E rfl, E2, (x_JI_i (has := has) hI0 hI1 hf him hJ0 hJ1 : x_JI (kC pl0 ke0 sz0 se0 gr0 pl1 ke1 sz1 se1 gr1 im ce2 wo2 pv2 fa2 pm2 pw2 fr2 ba2 rw2 ro2 co2 mo2 mi2 ki2 (kE has ke f ma3 wq3 dv3 cy3 sp3 e13 e23 e33 rn3 cn3 di3 tr3))), fun _ => rfl⟩
      · by_cases c1 : c = 1
        · subst c1
          obtain ⟨v, h1, E, rfl, ce2, wo2, pv2, fa2, pm2, pw2, fr2, ba2, rw2, ro2, co2, mo2, mi2, ki2, rfl⟩ := q_bm (M := kE has ke f ma wq dv cy sp e1 e2 e3 rn cn di tr) (pl0 := pl0) (ke0 := ke0) (sz0 := sz0) (se0 := se0) (gr0 := gr0) (pl1 := pl1) (ke1 := ke1) (sz1 := sz1) (se1 := se1) (gr1 := gr1) (im := im) (ce := ce) (wo := wo) (pv := pv) (fa := fa) (pm := pm) (pw := pw) (fr := fr) (ba := ba) (rw := rw) (ro := ro) (co := co) (mo := mo) (mi := mi) (ki := ki) hPm (q_ih1 hI1 (x_gp hPm) hk.1 hk.2)
          obtain ⟨w, h2, E2, rfl, ma3, wq3, dv3, cy3, sp3, e13, e23, e33, rn3, cn3, di3, tr3, rfl⟩ := m_bmE (c := (x_cc pl0 ke0 sz0 se0 gr0 pl1 ke1 sz1 se1 gr1 im ce2 wo2 pv2 fa2 pm2 pw2 fr2 ba2 rw2 ro2 co2 mo2 mi2 ki2)) (f := f) (ma := ma) (wo := wq) (dv := dv) (cy := cy) (sp := sp) (e1 := e1) (e2 := e2) (e3 := e3) (ro := rn) (co := cn) (di := di) (tr := tr) hmi (n := 1) (by decide) hJ1 hI1 hPm hk.1 (fun z => hk.2 (x_3l4.mp z))
          exact ⟨_, _, _, _, x_e1 E rfl, E2, (x_JI_i (has := has) hI0 hI1 hf him hJ0 hJ1 : x_JI (kC pl0 ke0 sz0 se0 gr0 pl1 ke1 sz1 se1 gr1 im ce2 wo2 pv2 fa2 pm2 pw2 fr2 ba2 rw2 ro2 co2 mo2 mi2 ki2 (kE has ke f ma3 wq3 dv3 cy3 sp3 e13 e23 e33 rn3 cn3 di3 tr3))), fun _ => rfl⟩
        · have hc : ¬ (c = 0 ∨ c = 1) := fun q => q.elim c0 c1
          obtain ⟨v, h1, E, rfl, ce2, wo2, pv2, fa2, pm2, pw2, fr2, ba2, rw2, ro2, co2, mo2, mi2, ki2, rfl⟩ := q_bm (M := kE has ke f ma wq dv cy sp e1 e2 e3 rn cn di tr) (pl0 := pl0) (ke0 := ke0) (sz0 := sz0) (se0 := se0) (gr0 := gr0) (pl1 := pl1) (ke1 := ke1) (sz1 := sz1) (se1 := se1) (gr1 := gr1) (im := im) (ce := ce) (wo := wo) (pv := pv) (fa := fa) (pm := pm) (pw := pw) (fr := fr) (ba := ba) (rw := rw) (ro := ro) (co := co) (mo := mo) (mi := mi) (ki := ki) hPm (q_ihN (k := k) hc)
          exact ⟨_, _, _, _, x_e1 E rfl, m_bmB hP (Or.inl hc), (x_JI_i hI0 hI1 hf him hJ0 hJ1), fun _ => rfl⟩
    · have hk2 : k < 0 ∨ 4 ≤ k := by
        by_cases q : k < 0
        · exact Or.inl q
        · exact Or.inr (Classical.byContradiction (fun z => hk ⟨q, z⟩))
      by_cases hc : c = 0 ∨ c = 1
      · obtain ⟨v, h1, E, rfl, ce2, wo2, pv2, fa2, pm2, pw2, fr2, ba2, rw2, ro2, co2, mo2, mi2, ki2, rfl⟩ := q_bm (M := kE has ke f ma wq dv cy sp e1 e2 e3 rn cn di tr) (pl0 := pl0) (ke0 := ke0) (sz0 := sz0) (se0 := se0) (gr0 := gr0) (pl1 := pl1) (ke1 := ke1) (sz1 := sz1) (se1 := se1) (gr1 := gr1) (im := im) (ce := ce) (wo := wo) (pv := pv) (fa := fa) (pm := pm) (pw := pw) (fr := fr) (ba := ba) (rw := rw) (ro := ro) (co := co) (mo := mo) (mi := mi) (ki := ki) hPm (q_ihD hc hk2)
        exact ⟨_, _, _, _, x_e1 E rfl, m_bmB hP (Or.inr (hk2.imp_right x_3l4.mpr)), (x_JI_i hI0 hI1 hf him hJ0 hJ1), fun _ => rfl⟩
      · obtain ⟨v, h1, E, rfl, ce2, wo2, pv2, fa2, pm2, pw2, fr2, ba2, rw2, ro2, co2, mo2, mi2, ki2, rfl⟩ := q_bm (M := kE has ke f ma wq dv cy sp e1 e2 e3 rn cn di tr) (pl0 := pl0) (ke0 := ke0) (sz0 := sz0) (se0 := se0) (gr0 := gr0) (pl1 := pl1) (ke1 := ke1) (sz1 := sz1) (se1 := se1) (gr1 := gr1) (im := im) (ce := ce) (wo := wo) (pv := pv) (fa := fa) (pm := pm) (pw := pw) (fr := fr) (ba := ba) (rw := rw) (ro := ro) (co := co) (mo := mo) (mi := mi) (ki := ki) hPm (q_ihN (k := k) hc)
        exact ⟨_, _, _, _, x_e1 E rfl, m_bmB hP (Or.inl hc), (x_JI_i hI0 hI1 hf him hJ0 hJ1), fun _ => rfl⟩
  · exact ⟨_, _, _, _, x_e1 (q_bmN c k hp) rfl, m_bmN c k hp, (x_JI_i hI0 hI1 hf him hJ0 hJ1), fun _ => rfl⟩
