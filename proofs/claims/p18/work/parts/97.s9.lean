/-! RANKS OF MAPS: the call on both sides -/
theorem x_s3 (a b c : Int32) : a - b - c = a - (b + c) := by
  rw [Int32.sub_eq_add_neg, Int32.sub_eq_add_neg, Int32.sub_eq_add_neg, Int32.neg_add, Int32.add_assoc, Int32.sub_eq_add_neg]
theorem j_rankT {h : mm_H} (hJ : x_JI h) (k : Int32) : x_2 50 108 [.int k] h True := by
  obtain ⟨pl0, ke0, sz0, se0, gr0, pl1, ke1, sz1, se1, gr1, im, ce, wo, pv, fa, pm, pw, fr, ba, rw, ro, co, mo, mi, ki, has, ke, f, ma, wq, dv, cy, sp, e1, e2, e3, rn, cn, di, tr, hI0, hI1, hf, him, hJ0, hJ1, rfl⟩ := hJ
  have hmi := x_J1.mi hJ0 hJ1 hI0 hI1
  have e := x_si_cs hJ0 hJ1 hf him
  by_cases hk : ¬ k < 0 ∧ ¬ 4 ≤ k
  · by_cases hs : x_cs pl0 pl1 im
    · obtain ⟨v, h1, E, rfl, ce2, wo2, pv2, fa2, pm2, pw2, fr2, ba2, rw2, ro2, co2, mo2, mi2, ki2, rfl⟩ := q_rank (M := kE has ke f ma wq dv cy sp e1 e2 e3 rn cn di tr) (pl0 := pl0) (ke0 := ke0) (sz0 := sz0) (se0 := se0) (gr0 := gr0) (pl1 := pl1) (ke1 := ke1) (sz1 := sz1) (se1 := se1) (gr1 := gr1) (im := im) (ce := ce) (wo := wo) (pv := pv) (fa := fa) (pm := pm) (pw := pw) (fr := fr) (ba := ba) (rw := rw) (ro := ro) (co := co) (mo := mo) (mi := mi) (ki := ki) hI0 hI1 hf hs hk.1 hk.2
      obtain ⟨w, h2, E2, rfl, ma3, wq3, dv3, cy3, sp3, e13, e23, e33, rn3, cn3, di3, tr3, rfl⟩ := m_rankE (c := (x_cc pl0 ke0 sz0 se0 gr0 pl1 ke1 sz1 se1 gr1 im ce2 wo2 pv2 fa2 pm2 pw2 fr2 ba2 rw2 ro2 co2 mo2 mi2 ki2)) (f := f) (ma := ma) (wo := wq) (dv := dv) (cy := cy) (sp := sp) (e1 := e1) (e2 := e2) (e3 := e3) (ro := rn) (co := cn) (di := di) (tr := tr) hmi hJ0 hJ1 hI0 hI1 hf him (e.mpr hs) hk.1 (fun z => hk.2 (x_3l4.mp z))
      exact ⟨_, _, _, _, x_e1 E rfl, E2, (x_JI_i (has := has) hI0 hI1 hf him hJ0 hJ1 : x_JI (kC pl0 ke0 sz0 se0 gr0 pl1 ke1 sz1 se1 gr1 im ce2 wo2 pv2 fa2 pm2 pw2 fr2 ba2 rw2 ro2 co2 mo2 mi2 ki2 (kE has ke f ma3 wq3 dv3 cy3 sp3 e13 e23 e33 rn3 cn3 di3 tr3))), fun _ => x_s3 _ _ _⟩
    · obtain ⟨v, h1, E, rfl, ce2, wo2, pv2, fa2, pm2, pw2, fr2, ba2, rw2, ro2, co2, mo2, mi2, ki2, rfl⟩ := q_rankN (M := kE has ke f ma wq dv cy sp e1 e2 e3 rn cn di tr) (pl0 := pl0) (ke0 := ke0) (sz0 := sz0) (se0 := se0) (gr0 := gr0) (pl1 := pl1) (ke1 := ke1) (sz1 := sz1) (se1 := se1) (gr1 := gr1) (im := im) (ce := ce) (wo := wo) (pv := pv) (fa := fa) (pm := pm) (pw := pw) (fr := fr) (ba := ba) (rw := rw) (ro := ro) (co := co) (mo := mo) (mi := mi) (ki := ki) hI0 hI1 hf hs hk.1 hk.2
      exact ⟨_, _, _, _, x_e1 E rfl, m_rankN rfl rfl rfl (x_fo_c hf him) (fun q => hs (e.mp q)) hk.1 (fun z => hk.2 (x_3l4.mp z)), (x_JI_i hI0 hI1 hf him hJ0 hJ1), fun _ => rfl⟩
  · have hk2 : k < 0 ∨ 4 ≤ k := by
      by_cases q : k < 0
      · exact Or.inl q
      · exact Or.inr (Classical.byContradiction (fun z => hk ⟨q, z⟩))
    obtain ⟨v, h1, E, rfl, ce2, wo2, pv2, fa2, pm2, pw2, fr2, ba2, rw2, ro2, co2, mo2, mi2, ki2, rfl⟩ := q_rankB (M := kE has ke f ma wq dv cy sp e1 e2 e3 rn cn di tr) (pl0 := pl0) (ke0 := ke0) (sz0 := sz0) (se0 := se0) (gr0 := gr0) (pl1 := pl1) (ke1 := ke1) (sz1 := sz1) (se1 := se1) (gr1 := gr1) (im := im) (ce := ce) (wo := wo) (pv := pv) (fa := fa) (pm := pm) (pw := pw) (fr := fr) (ba := ba) (rw := rw) (ro := ro) (co := co) (mo := mo) (mi := mi) (ki := ki) hk2
    exact ⟨_, _, _, _, x_e1 E rfl, m_rankB (hk2.imp_right x_3l4.mpr), (x_JI_i hI0 hI1 hf him hJ0 hJ1), fun _ => rfl⟩
