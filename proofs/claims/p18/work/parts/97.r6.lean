/-! BETTI NUMBERS: the call on both sides -/
theorem j_bettiT {h : mm_H} (hJ : x_JI h) (c k : Int32) : x_2 40 87 [.int c, .int k] h True := by
  obtain ⟨pl0, ke0, sz0, se0, gr0, pl1, ke1, sz1, se1, gr1, im, ce, wo, pv, fa, pm, pw, fr, ba, rw, ro, co, mo, mi, ki, has, ke, f, ma, wq, dv, cy, sp, e1, e2, e3, rn, cn, di, tr, hI0, hI1, hf, him, hJ0, hJ1, rfl⟩ := hJ
  have hmi := x_J1.mi hJ0 hJ1 hI0 hI1
  by_cases hk : ¬ k < 0 ∧ ¬ 4 ≤ k
  · by_cases c0 : c = 0
    · subst c0
      obtain ⟨v, h1, E, rfl, ce2, wo2, pv2, fa2, pm2, pw2, fr2, ba2, rw2, ro2, co2, mo2, mi2, ki2, rfl⟩ := q_betti (M := kE has ke f ma wq dv cy sp e1 e2 e3 rn cn di tr) (pl0 := pl0) (ke0 := ke0) (sz0 := sz0) (se0 := se0) (gr0 := gr0) (pl1 := pl1) (ke1 := ke1) (sz1 := sz1) (se1 := se1) (gr1 := gr1) (im := im) (ce := ce) (wo := wo) (pv := pv) (fa := fa) (pm := pm) (pw := pw) (fr := fr) (ba := ba) (rw := rw) (ro := ro) (co := co) (mo := mo) (mi := mi) (ki := ki) (q_ih0 hI0 x_gpP hk.1 hk.2)
      obtain ⟨w, h2, E2, rfl, ma3, wq3, dv3, cy3, sp3, e13, e23, e33, rn3, cn3, di3, tr3, rfl⟩ := m_bettiE (c := (x_cc pl0 ke0 sz0 se0 gr0 pl1 ke1 sz1 se1 gr1 im ce2 wo2 pv2 fa2 pm2 pw2 fr2 ba2 rw2 ro2 co2 mo2 mi2 ki2)) (f := f) (ma := ma) (wo := wq) (dv := dv) (cy := cy) (sp := sp) (e1 := e1) (e2 := e2) (e3 := e3) (ro := rn) (co := cn) (di := di) (tr := tr) hmi (n := 0) (by decide) hJ0 hI0 hk.1 (fun z => hk.2 (x_3l4.mp z))
      exact ⟨_, _, _, _, x_e1 E rfl, E2, (x_JI_i (has := has) hI0 hI1 hf him hJ0 hJ1 : x_JI (kC pl0 ke0 sz0 se0 gr0 pl1 ke1 sz1 se1 gr1 im ce2 wo2 pv2 fa2 pm2 pw2 fr2 ba2 rw2 ro2 co2 mo2 mi2 ki2 (kE has ke f ma3 wq3 dv3 cy3 sp3 e13 e23 e33 rn3 cn3 di3 tr3))), fun _ => rfl⟩
    · by_cases c1 : c = 1
      · subst c1
        obtain ⟨v, h1, E, rfl, ce2, wo2, pv2, fa2, pm2, pw2, fr2, ba2, rw2, ro2, co2, mo2, mi2, ki2, rfl⟩ := q_betti (M := kE has ke f ma wq dv cy sp e1 e2 e3 rn cn di tr) (pl0 := pl0) (ke0 := ke0) (sz0 := sz0) (se0 := se0) (gr0 := gr0) (pl1 := pl1) (ke1 := ke1) (sz1 := sz1) (se1 := se1) (gr1 := gr1) (im := im) (ce := ce) (wo := wo) (pv := pv) (fa := fa) (pm := pm) (pw := pw) (fr := fr) (ba := ba) (rw := rw) (ro := ro) (co := co) (mo := mo) (mi := mi) (ki := ki) (q_ih1 hI1 x_gpP hk.1 hk.2)
        obtain ⟨w, h2, E2, rfl, ma3, wq3, dv3, cy3, sp3, e13, e23, e33, rn3, cn3, di3, tr3, rfl⟩ := m_bettiE (c := (x_cc pl0 ke0 sz0 se0 gr0 pl1 ke1 sz1 se1 gr1 im ce2 wo2 pv2 fa2 pm2 pw2 fr2 ba2 rw2 ro2 co2 mo2 mi2 ki2)) (f := f) (ma := ma) (wo := wq) (dv := dv) (cy := cy) (sp := sp) (e1 := e1) (e2 := e2) (e3 := e3) (ro := rn) (co := cn) (di := di) (tr := tr) hmi (n := 1) (by decide) hJ1 hI1 hk.1 (fun z => hk.2 (x_3l4.mp z))
        exact ⟨_, _, _, _, x_e1 E rfl, E2, (x_JI_i (has := has) hI0 hI1 hf him hJ0 hJ1 : x_JI (kC pl0 ke0 sz0 se0 gr0 pl1 ke1 sz1 se1 gr1 im ce2 wo2 pv2 fa2 pm2 pw2 fr2 ba2 rw2 ro2 co2 mo2 mi2 ki2 (kE has ke f ma3 wq3 dv3 cy3 sp3 e13 e23 e33 rn3 cn3 di3 tr3))), fun _ => rfl⟩
      · have hc : ¬ (c = 0 ∨ c = 1) := fun q => q.elim c0 c1
        obtain ⟨v, h1, E, rfl, ce2, wo2, pv2, fa2, pm2, pw2, fr2, ba2, rw2, ro2, co2, mo2, mi2, ki2, rfl⟩ := q_betti (M := kE has ke f ma wq dv cy sp e1 e2 e3 rn cn di tr) (pl0 := pl0) (ke0 := ke0) (sz0 := sz0) (se0 := se0) (gr0 := gr0) (pl1 := pl1) (ke1 := ke1) (sz1 := sz1) (se1 := se1) (gr1 := gr1) (im := im) (ce := ce) (wo := wo) (pv := pv) (fa := fa) (pm := pm) (pw := pw) (fr := fr) (ba := ba) (rw := rw) (ro := ro) (co := co) (mo := mo) (mi := mi) (ki := ki) (q_ihN (k := k) hc)
        exact ⟨_, _, _, _, x_e1 E rfl, m_bettiB (Or.inl hc), (x_JI_i hI0 hI1 hf him hJ0 hJ1), fun _ => rfl⟩
  · have hk2 : k < 0 ∨ 4 ≤ k := by
      by_cases q : k < 0
      · exact Or.inl q
      · exact Or.inr (Classical.byContradiction (fun z => hk ⟨q, z⟩))
    by_cases hc : c = 0 ∨ c = 1
    · obtain ⟨v, h1, E, rfl, ce2, wo2, pv2, fa2, pm2, pw2, fr2, ba2, rw2, ro2, co2, mo2, mi2, ki2, rfl⟩ := q_betti (M := kE has ke f ma wq dv cy sp e1 e2 e3 rn cn di tr) (pl0 := pl0) (ke0 := ke0) (sz0 := sz0) (se0 := se0) (gr0 := gr0) (pl1 := pl1) (ke1 := ke1) (sz1 := sz1) (se1 := se1) (gr1 := gr1) (im := im) (ce := ce) (wo := wo) (pv := pv) (fa := fa) (pm := pm) (pw := pw) (fr := fr) (ba := ba) (rw := rw) (ro := ro) (co := co) (mo := mo) (mi := mi) (ki := ki) (q_ihD hc hk2)
      exact ⟨_, _, _, _, x_e1 E rfl, m_bettiB (Or.inr (hk2.imp_right x_3l4.mpr)), (x_JI_i hI0 hI1 hf him hJ0 hJ1), fun _ => rfl⟩
    · obtain ⟨v, h1, E, rfl, ce2, wo2, pv2, fa2, pm2, pw2, fr2, ba2, rw2, ro2, co2, mo2, mi2, ki2, rfl⟩ := q_betti (M := kE has ke f ma wq dv cy sp e1 e2 e3 rn cn di tr) (pl0 := pl0) (ke0 := ke0) (sz0 := sz0) (se0 := se0) (gr0 := gr0) (pl1 := pl1) (ke1 := ke1) (sz1 := sz1) (se1 := se1) (gr1 := gr1) (im := im) (ce := ce) (wo := wo) (pv := pv) (fa := fa) (pm := pm) (pw := pw) (fr := fr) (ba := ba) (rw := rw) (ro := ro) (co := co) (mo := mo) (mi := mi) (ki := ki) (q_ihN (k := k) hc)
      exact ⟨_, _, _, _, x_e1 E rfl, m_bettiB (Or.inl hc), (x_JI_i hI0 hI1 hf him hJ0 hJ1), fun _ => rfl⟩
