/-! PRODUCTS: the call on both sides -/
theorem j_productsT {h : mm_H} (hJ : x_JI h) (c : Int32) : x_2 51 115 [.int c] h True := by
  obtain ⟨pl0, ke0, sz0, se0, gr0, pl1, ke1, sz1, se1, gr1, im, ce, wo, pv, fa, pm, pw, fr, ba, rw, ro, co, mo, mi, ki, has, ke, f, ma, wq, dv, cy, sp, e1, e2, e3, rn, cn, di, tr, hI0, hI1, hf, him, hJ0, hJ1, rfl⟩ := hJ
  have hmi := x_J1.mi hJ0 hJ1 hI0 hI1
  by_cases c0 : c = 0
  · skip
    subst c0
    obtain ⟨v, h1, E, ⟨o1, O1, rfl⟩, ce2, wo2, pv2, fa2, pm2, pw2, fr2, ba2, rw2, ro2, co2, mo2, mi2, ki2, rfl⟩ := q_products0 (M := kE has ke f ma wq dv cy sp e1 e2 e3 rn cn di tr) (pl0 := pl0) (ke0 := ke0) (sz0 := sz0) (se0 := se0) (gr0 := gr0) (pl1 := pl1) (ke1 := ke1) (sz1 := sz1) (se1 := se1) (gr1 := gr1) (im := im) (ce := ce) (wo := wo) (pv := pv) (fa := fa) (pm := pm) (pw := pw) (fr := fr) (ba := ba) (rw := rw) (ro := ro) (co := co) (mo := mo) (mi := mi) (ki := ki) hI0
    obtain ⟨w, h2, E2, ⟨o2, O2, rfl⟩, ma3, wq3, dv3, cy3, sp3, e13, e23, e33, rn3, cn3, di3, tr3, rfl⟩ := m_productsE (c := (x_cc pl0 ke0 sz0 se0 gr0 pl1 ke1 sz1 se1 gr1 im ce2 wo2 pv2 fa2 pm2 pw2 fr2 ba2 rw2 ro2 co2 mo2 mi2 ki2)) (f := f) (ma := ma) (wo := wq) (dv := dv) (cy := cy) (sp := sp) (e1 := e1) (e2 := e2) (e3 := e3) (ro := rn) (co := cn) (di := di) (tr := tr) (n := 0) (by decide) hmi hJ0 hI0
    have k1 : x_mn has 0 1 255 = x_ct pl0 1 255 := hJ0.mn 1 255 (Nat.le_refl _)
    have k2 : x_mn has 0 2 255 = x_ct pl0 2 255 := hJ0.mn 2 255 (Nat.le_refl _)
    rw [k1, k2] at O2
    exact ⟨_, _, _, _, x_e1 E rfl, E2, (x_JI_i (has := has) hI0 hI1 hf him hJ0 hJ1 : x_JI (kC pl0 ke0 sz0 se0 gr0 pl1 ke1 sz1 se1 gr1 im ce2 wo2 pv2 fa2 pm2 pw2 fr2 ba2 rw2 ro2 co2 mo2 mi2 ki2 (kE has ke f ma3 wq3 dv3 cy3 sp3 e13 e23 e33 rn3 cn3 di3 tr3))), fun _ => congrArg nI (f2_O_eq O1 O2)⟩
  · by_cases c1 : c = 1
    · skip
      subst c1
      obtain ⟨v, h1, E, ⟨o1, O1, rfl⟩, ce2, wo2, pv2, fa2, pm2, pw2, fr2, ba2, rw2, ro2, co2, mo2, mi2, ki2, rfl⟩ := q_products1 (M := kE has ke f ma wq dv cy sp e1 e2 e3 rn cn di tr) (pl0 := pl0) (ke0 := ke0) (sz0 := sz0) (se0 := se0) (gr0 := gr0) (pl1 := pl1) (ke1 := ke1) (sz1 := sz1) (se1 := se1) (gr1 := gr1) (im := im) (ce := ce) (wo := wo) (pv := pv) (fa := fa) (pm := pm) (pw := pw) (fr := fr) (ba := ba) (rw := rw) (ro := ro) (co := co) (mo := mo) (mi := mi) (ki := ki) hI1
      obtain ⟨w, h2, E2, ⟨o2, O2, rfl⟩, ma3, wq3, dv3, cy3, sp3, e13, e23, e33, rn3, cn3, di3, tr3, rfl⟩ := m_productsE (c := (x_cc pl0 ke0 sz0 se0 gr0 pl1 ke1 sz1 se1 gr1 im ce2 wo2 pv2 fa2 pm2 pw2 fr2 ba2 rw2 ro2 co2 mo2 mi2 ki2)) (f := f) (ma := ma) (wo := wq) (dv := dv) (cy := cy) (sp := sp) (e1 := e1) (e2 := e2) (e3 := e3) (ro := rn) (co := cn) (di := di) (tr := tr) (n := 1) (by decide) hmi hJ1 hI1
      have k1 : x_mn has 1 1 255 = x_ct pl1 1 255 := hJ1.mn 1 255 (Nat.le_refl _)
      have k2 : x_mn has 1 2 255 = x_ct pl1 2 255 := hJ1.mn 2 255 (Nat.le_refl _)
      rw [k1, k2] at O2
      exact ⟨_, _, _, _, x_e1 E rfl, E2, (x_JI_i (has := has) hI0 hI1 hf him hJ0 hJ1 : x_JI (kC pl0 ke0 sz0 se0 gr0 pl1 ke1 sz1 se1 gr1 im ce2 wo2 pv2 fa2 pm2 pw2 fr2 ba2 rw2 ro2 co2 mo2 mi2 ki2 (kE has ke f ma3 wq3 dv3 cy3 sp3 e13 e23 e33 rn3 cn3 di3 tr3))), fun _ => congrArg nI (f2_O_eq O1 O2)⟩
    · have hc : ¬ (c = 0 ∨ c = 1) := fun q => q.elim c0 c1
      obtain ⟨w, h2, E2, rfl, ma3, wq3, dv3, cy3, sp3, e13, e23, e33, rn3, cn3, di3, tr3, rfl⟩ := m_productsN (c := (x_cc pl0 ke0 sz0 se0 gr0 pl1 ke1 sz1 se1 gr1 im ce wo pv fa pm pw fr ba rw ro co mo mi ki)) (has := has) (ke := ke) (f := f) (ma := ma) (wo := wq) (dv := dv) (cy := cy) (sp := sp) (e1 := e1) (e2 := e2) (e3 := e3) (ro := rn) (co := cn) (di := di) (tr := tr) hc
      exact ⟨_, _, _, _, x_e1 (v_prodN hc) rfl, E2, (x_JI_i (has := has) hI0 hI1 hf him hJ0 hJ1 : x_JI (kC pl0 ke0 sz0 se0 gr0 pl1 ke1 sz1 se1 gr1 im ce wo pv fa pm pw fr ba rw ro co mo mi ki (kE has ke f ma3 wq3 dv3 cy3 sp3 e13 e23 e33 rn3 cn3 di3 tr3))), fun _ => rfl⟩
