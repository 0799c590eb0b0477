/-! CALLS ON BOTH SIDES: image, and those of which only the end is known here -/
theorem x_gi_f {f g : Nat → Int32} (h : ∀ v, v < 8 → f v = g v) (s : Int32) {v : Nat} (c : Int32) : ∀ t, v + t < 8 → x_gi f s v c t = x_gi g s v c t
  | 0, _ => rfl
  | t + 1, ht => by
    show (if _ then - x_gi f s v c t else x_gi f s v c t) = (if _ then - x_gi g s v c t else x_gi g s v c t)
    rw [x_gi_f h s c t (by omega), h v (by omega), h (v + 1 + t) (by omega)]
theorem x_go_f {f g : Nat → Int32} (h : ∀ v, v < 8 → f v = g v) (s : Int32) : ∀ v, v ≤ 8 → x_go f s v = x_go g s v
  | 0, _ => rfl
  | v + 1, hv => by
    show x_gi f s v (x_go f s v) (7 - v) = x_gi g s v (x_go g s v) (7 - v)
    rw [x_go_f h s v (by omega), x_gi_f h s _ (7 - v) (by omega)]
theorem x_v_im {pl ke has kp sz se im f : Nat → Int32} (h : x_J1 pl ke has kp 0) (hI : x_CI pl sz se) (hf : x_fo im) (him : ∀ v, v < 8 → im v = f v) {s a : Nat} (hs : s < 256) (ha : a < 4) (hd : x_dm (nI s) = nI a) : ∀ t, t ≤ 255 → x_im has kp f (nI s) t = x_ci im se ke a (nI s) (x_ct pl a t)
  | 0, _ => rfl
  | t + 1, ht => by
    have ih := x_v_im h hI hf him hs ha hd t (by omega)
    have z0 := h.1 (t + 1) (by omega)
    rw [Nat.mul_zero, Nat.zero_add] at z0
    have z1 := h.2.1 (t + 1) (by omega)
    rw [Nat.mul_zero, Nat.zero_add] at z1
    by_cases hp : pl (t + 1) = -1
    · rw [show x_ct pl a (t + 1) = x_ct pl a t from if_neg (fun q => q.1 hp), ← ih]
      exact if_pos (z0.mpr hp)
    · have e1 : x_im has kp f (nI s) (t + 1) = x_im has kp f (nI s) t + x_gv f (nI (t + 1)) (nI s) * kp (t + 1) := if_neg (fun q => hp (z0.mp q))
      rw [e1, ih, z1]
      obtain ⟨k', h6, h7, h8, h9⟩ := hI.2.1 (t + 1) (by omega) (by omega) hp
      by_cases c : x_dm (nI (t + 1)) = nI a
      · have e : k' = a := (nI_eq (by omega) (by omega)).mp (h7.symm.trans c)
        rw [e, Nat.add_sub_cancel] at h9
        rw [show x_ct pl a (t + 1) = x_ct pl a t + 1 from if_pos ⟨hp, c⟩]
        show _ = (if x_ig im (se (a * 24 + x_ct pl a t)) 8 = nI s then x_ci im se ke a (nI s) (x_ct pl a t) + x_sn im (se (a * 24 + x_ct pl a t)) 8 0 0 0 * ke (se (a * 24 + x_ct pl a t)).toNatClampNeg else x_ci im se ke a (nI s) (x_ct pl a t))
        rw [h9, mm_cl (by omega), x_ig_io]
        have es : x_sz8 (nI (t + 1)) 8 = x_sz8 (nI s) 8 := by rw [(x_dm_sz (by omega) _).mp c, (x_dm_sz hs _).mp hd]
        have ei : x_io f (nI (t + 1)) 8 = x_io im (nI (t + 1)) 8 := x_io_c _ 8 (fun v hv => (him v hv).symm)
        unfold x_gv
        by_cases ci : x_io im (nI (t + 1)) 8 = nI s
        · rw [if_pos ⟨es, ei.trans ci⟩, if_pos ci, x_sn_go hf (by rw [ci]; exact es), x_go_f him _ 8 (Nat.le_refl _)]
        · rw [if_neg (fun q => ci (ei.symm.trans q.2)), if_neg ci, Int32.zero_mul, Int32.add_zero]
      · rw [show x_ct pl a (t + 1) = x_ct pl a t from if_neg (fun q => c q.2)]
        have e : x_gv f (nI (t + 1)) (nI s) = 0 := by
          unfold x_gv
          refine if_neg (fun q => c ?_)
          rw [x_dm_sz (by omega), q.1, (x_dm_sz hs _).mp hd]
        rw [e, Int32.zero_mul, Int32.add_zero]
theorem j_image {h : mm_H} (hJ : x_JI h) (s : Int32) : x_2 49 106 [.int s] h True := by
  obtain ⟨pl0, ke0, sz0, se0, gr0, pl1, ke1, sz1, se1, gr1, im, ce, wo, pv, fa, pm, pw, fr, ba, rw, ro, co, mo, mi, ki, has, ke, f, ma, wq, dv, cy, sp, e1, e2, e3, rn, cn, di, tr, hI0, hI1, hf, him, hJ0, hJ1, rfl⟩ := hJ
  have e := x_si_cs hJ0 hJ1 hf him
  have eh := x_hs (s := s) (n := 1) (by decide) hJ1.1
  have hdec : Decidable (x_si has f) := Classical.propDecidable _
  obtain ⟨v, h1, E, rfl, hv⟩ := w_image (M := kE has ke f ma wq dv cy sp e1 e2 e3 rn cn di tr) (ke0 := ke0) (gr0 := gr0) (ke1 := ke1) (gr1 := gr1) (ce := ce) (wo := wo) (pv := pv) (fa := fa) (pm := pm) (pw := pw) (fr := fr) (ba := ba) (rw := rw) (ro := ro) (co := co) (mo := mo) (mi := mi) (ki := ki) hI0 hI1 hf s
  rcases hv with ⟨hh, hs, a, ha, hd, rfl⟩ | ⟨hn, rfl⟩
  · refine ⟨_, _, _, _, x_e1 (E) rfl, g_image rfl rfl rfl (x_fo_c hf him) rfl s, (x_JI_i hI0 hI1 hf him hJ0 hJ1), fun _ => ?_⟩
    obtain ⟨q, q1, q2, rfl⟩ := x_nI_of hh.1 hh.2.1
    exact ((if_pos ⟨eh.mpr hh, e.mpr hs⟩).trans (x_v_im hJ0 hI0 hf him q2 ha hd 255 (Nat.le_refl _))).symm
  · exact ⟨_, _, _, _, x_e1 (E) rfl, g_image rfl rfl rfl (x_fo_c hf him) rfl s, (x_JI_i hI0 hI1 hf him hJ0 hJ1), fun _ => (if_neg (fun q => hn ⟨eh.mp q.1, e.mp q.2⟩)).symm⟩
/-- the counter's cells by number -/
def x_cc (pl0 ke0 sz0 se0 gr0 pl1 ke1 sz1 se1 gr1 im ce wo pv fa pm pw fr ba : Nat → Int32) (rw : Nat → Int64) (ro co mo : Int32) (mi : Int64) (ki : Int32) : Nat → mm_C := fun i => (mm_nth (kC pl0 ke0 sz0 se0 gr0 pl1 ke1 sz1 se1 gr1 im ce wo pv fa pm pw fr ba rw ro co mo mi ki []) i).getD (x_it 0 (fun _ => 0))
theorem j_betti {h : mm_H} (hJ : x_JI h) (c k : Int32) : x_2 40 87 [.int c, .int k] h False := by
  obtain ⟨pl0, ke0, sz0, se0, gr0, pl1, ke1, sz1, se1, gr1, im, ce, wo, pv, fa, pm, pw, fr, ba, rw, ro, co, mo, mi, ki, has, ke, f, ma, wq, dv, cy, sp, e1, e2, e3, rn, cn, di, tr, hI0, hI1, hf, him, hJ0, hJ1, rfl⟩ := hJ
  have hmi := x_J1.mi hJ0 hJ1 hI0 hI1
  have hm4 := x_J1.m4 hJ0 hJ1 hI0 hI1
  have hk9 := x_J1.k9 hJ0 hJ1
  obtain ⟨v, h1, E, ⟨x, rfl⟩, ce2, wo2, pv2, fa2, pm2, pw2, fr2, ba2, rw2, ro2, co2, mo2, mi2, ki2, rfl⟩ := w_betti (M := kE has ke f ma wq dv cy sp e1 e2 e3 rn cn di tr) (ke0 := ke0) (gr0 := gr0) (ke1 := ke1) (gr1 := gr1) (ce := ce) (wo := wo) (pv := pv) (fa := fa) (pm := pm) (pw := pw) (fr := fr) (ba := ba) (rw := rw) (ro := ro) (co := co) (mo := mo) (mi := mi) (ki := ki) hI0 hI1 c k
  obtain ⟨w, h2, E2, ⟨y, rfl⟩, ma3, wq3, dv3, cy3, sp3, e13, e23, e33, rn3, cn3, di3, tr3, rfl⟩ := m_betti (c := (x_cc pl0 ke0 sz0 se0 gr0 pl1 ke1 sz1 se1 gr1 im ce2 wo2 pv2 fa2 pm2 pw2 fr2 ba2 rw2 ro2 co2 mo2 mi2 ki2)) (ke := ke) (f := f) (ma := ma) (wo := wq) (dv := dv) (cy := cy) (sp := sp) (e1 := e1) (e2 := e2) (e3 := e3) (ro := rn) (co := cn) (di := di) (tr := tr) hmi c k
  exact ⟨_, _, _, _, x_e1 (E) rfl, E2, (x_JI_i (has := has) hI0 hI1 hf him hJ0 hJ1 : x_JI (kC pl0 ke0 sz0 se0 gr0 pl1 ke1 sz1 se1 gr1 im ce2 wo2 pv2 fa2 pm2 pw2 fr2 ba2 rw2 ro2 co2 mo2 mi2 ki2 (kE has ke f ma3 wq3 dv3 cy3 sp3 e13 e23 e33 rn3 cn3 di3 tr3))), fun q => q.elim⟩
theorem j_torsion {h : mm_H} (hJ : x_JI h) (c k i : Int32) : x_2 41 95 [.int c, .int k, .int i] h False := by
  obtain ⟨pl0, ke0, sz0, se0, gr0, pl1, ke1, sz1, se1, gr1, im, ce, wo, pv, fa, pm, pw, fr, ba, rw, ro, co, mo, mi, ki, has, ke, f, ma, wq, dv, cy, sp, e1, e2, e3, rn, cn, di, tr, hI0, hI1, hf, him, hJ0, hJ1, rfl⟩ := hJ
  have hmi := x_J1.mi hJ0 hJ1 hI0 hI1
  have hm4 := x_J1.m4 hJ0 hJ1 hI0 hI1
  have hk9 := x_J1.k9 hJ0 hJ1
  obtain ⟨v, h1, E, ⟨x, rfl⟩, ce2, wo2, pv2, fa2, pm2, pw2, fr2, ba2, rw2, ro2, co2, mo2, mi2, ki2, rfl⟩ := w_torsion (M := kE has ke f ma wq dv cy sp e1 e2 e3 rn cn di tr) (ke0 := ke0) (gr0 := gr0) (ke1 := ke1) (gr1 := gr1) (ce := ce) (wo := wo) (pv := pv) (fa := fa) (pm := pm) (pw := pw) (fr := fr) (ba := ba) (rw := rw) (ro := ro) (co := co) (mo := mo) (mi := mi) (ki := ki) hI0 hI1 c k i
  obtain ⟨w, h2, E2, ⟨y, rfl⟩, ma3, wq3, dv3, cy3, sp3, e13, e23, e33, rn3, cn3, di3, tr3, rfl⟩ := m_torsion (c := (x_cc pl0 ke0 sz0 se0 gr0 pl1 ke1 sz1 se1 gr1 im ce2 wo2 pv2 fa2 pm2 pw2 fr2 ba2 rw2 ro2 co2 mo2 mi2 ki2)) (ke := ke) (f := f) (ma := ma) (wo := wq) (dv := dv) (cy := cy) (sp := sp) (e1 := e1) (e2 := e2) (e3 := e3) (ro := rn) (co := cn) (di := di) (tr := tr) hmi hm4 c k i
  exact ⟨_, _, _, _, x_e1 (E) rfl, E2, (x_JI_i (has := has) hI0 hI1 hf him hJ0 hJ1 : x_JI (kC pl0 ke0 sz0 se0 gr0 pl1 ke1 sz1 se1 gr1 im ce2 wo2 pv2 fa2 pm2 pw2 fr2 ba2 rw2 ro2 co2 mo2 mi2 ki2 (kE has ke f ma3 wq3 dv3 cy3 sp3 e13 e23 e33 rn3 cn3 di3 tr3))), fun q => q.elim⟩
theorem j_bettiM {h : mm_H} (hJ : x_JI h) (c k p : Int32) : x_2 42 88 [.int c, .int k, .int p] h False := by
  obtain ⟨pl0, ke0, sz0, se0, gr0, pl1, ke1, sz1, se1, gr1, im, ce, wo, pv, fa, pm, pw, fr, ba, rw, ro, co, mo, mi, ki, has, ke, f, ma, wq, dv, cy, sp, e1, e2, e3, rn, cn, di, tr, hI0, hI1, hf, him, hJ0, hJ1, rfl⟩ := hJ
  have hmi := x_J1.mi hJ0 hJ1 hI0 hI1
  have hm4 := x_J1.m4 hJ0 hJ1 hI0 hI1
  have hk9 := x_J1.k9 hJ0 hJ1
  obtain ⟨v, h1, E, ⟨x, rfl⟩, ce2, wo2, pv2, fa2, pm2, pw2, fr2, ba2, rw2, ro2, co2, mo2, mi2, ki2, rfl⟩ := w_bettiM (M := kE has ke f ma wq dv cy sp e1 e2 e3 rn cn di tr) (ke0 := ke0) (gr0 := gr0) (ke1 := ke1) (gr1 := gr1) (ce := ce) (wo := wo) (pv := pv) (fa := fa) (pm := pm) (pw := pw) (fr := fr) (ba := ba) (rw := rw) (ro := ro) (co := co) (mo := mo) (mi := mi) (ki := ki) hI0 hI1 c k p
  obtain ⟨w, h2, E2, ⟨y, rfl⟩, ma3, wq3, dv3, cy3, sp3, e13, e23, e33, rn3, cn3, di3, tr3, rfl⟩ := m_bettiM (c := (x_cc pl0 ke0 sz0 se0 gr0 pl1 ke1 sz1 se1 gr1 im ce2 wo2 pv2 fa2 pm2 pw2 fr2 ba2 rw2 ro2 co2 mo2 mi2 ki2)) (ke := ke) (f := f) (ma := ma) (wo := wq) (dv := dv) (cy := cy) (sp := sp) (e1 := e1) (e2 := e2) (e3 := e3) (ro := rn) (co := cn) (di := di) (tr := tr) hmi c k p
  exact ⟨_, _, _, _, x_e1 (E) rfl, E2, (x_JI_i (has := has) hI0 hI1 hf him hJ0 hJ1 : x_JI (kC pl0 ke0 sz0 se0 gr0 pl1 ke1 sz1 se1 gr1 im ce2 wo2 pv2 fa2 pm2 pw2 fr2 ba2 rw2 ro2 co2 mo2 mi2 ki2 (kE has ke f ma3 wq3 dv3 cy3 sp3 e13 e23 e33 rn3 cn3 di3 tr3))), fun q => q.elim⟩
theorem j_order {h : mm_H} (hJ : x_JI h) (c k : Int32) : x_2 46 101 [.int c, .int k] h False := by
  obtain ⟨pl0, ke0, sz0, se0, gr0, pl1, ke1, sz1, se1, gr1, im, ce, wo, pv, fa, pm, pw, fr, ba, rw, ro, co, mo, mi, ki, has, ke, f, ma, wq, dv, cy, sp, e1, e2, e3, rn, cn, di, tr, hI0, hI1, hf, him, hJ0, hJ1, rfl⟩ := hJ
  have hmi := x_J1.mi hJ0 hJ1 hI0 hI1
  have hm4 := x_J1.m4 hJ0 hJ1 hI0 hI1
  have hk9 := x_J1.k9 hJ0 hJ1
  obtain ⟨v, h1, E, ⟨x, rfl⟩, ce2, wo2, pv2, fa2, pm2, pw2, fr2, ba2, rw2, ro2, co2, mo2, mi2, ki2, rfl⟩ := w_order (M := kE has ke f ma wq dv cy sp e1 e2 e3 rn cn di tr) (ke0 := ke0) (gr0 := gr0) (ke1 := ke1) (gr1 := gr1) (ce := ce) (wo := wo) (pv := pv) (fa := fa) (pm := pm) (pw := pw) (fr := fr) (ba := ba) (rw := rw) (ro := ro) (co := co) (mo := mo) (mi := mi) (ki := ki) hI0 hI1 c k
  obtain ⟨w, h2, E2, ⟨y, rfl⟩, ma3, wq3, dv3, cy3, sp3, e13, e23, e33, rn3, cn3, di3, tr3, rfl⟩ := m_order (c := (x_cc pl0 ke0 sz0 se0 gr0 pl1 ke1 sz1 se1 gr1 im ce2 wo2 pv2 fa2 pm2 pw2 fr2 ba2 rw2 ro2 co2 mo2 mi2 ki2)) (ke := ke) (f := f) (ma := ma) (wo := wq) (dv := dv) (cy := cy) (sp := sp) (e1 := e1) (e2 := e2) (e3 := e3) (ro := rn) (co := cn) (di := di) (tr := tr) hmi hm4 hk9 c k
  exact ⟨_, _, _, _, x_e1 (E) rfl, E2, (x_JI_i (has := has) hI0 hI1 hf him hJ0 hJ1 : x_JI (kC pl0 ke0 sz0 se0 gr0 pl1 ke1 sz1 se1 gr1 im ce2 wo2 pv2 fa2 pm2 pw2 fr2 ba2 rw2 ro2 co2 mo2 mi2 ki2 (kE has ke f ma3 wq3 dv3 cy3 sp3 e13 e23 e33 rn3 cn3 di3 tr3))), fun q => q.elim⟩
theorem j_rank {h : mm_H} (hJ : x_JI h) (k : Int32) : x_2 50 108 [.int k] h False := by
  obtain ⟨pl0, ke0, sz0, se0, gr0, pl1, ke1, sz1, se1, gr1, im, ce, wo, pv, fa, pm, pw, fr, ba, rw, ro, co, mo, mi, ki, has, ke, f, ma, wq, dv, cy, sp, e1, e2, e3, rn, cn, di, tr, hI0, hI1, hf, him, hJ0, hJ1, rfl⟩ := hJ
  have hmi := x_J1.mi hJ0 hJ1 hI0 hI1
  have hm4 := x_J1.m4 hJ0 hJ1 hI0 hI1
  have hk9 := x_J1.k9 hJ0 hJ1
  obtain ⟨v, h1, E, ⟨x, rfl⟩, ce2, wo2, pv2, fa2, pm2, pw2, fr2, ba2, rw2, ro2, co2, mo2, mi2, ki2, rfl⟩ := w_rank (M := kE has ke f ma wq dv cy sp e1 e2 e3 rn cn di tr) (ke0 := ke0) (gr0 := gr0) (ke1 := ke1) (gr1 := gr1) (ce := ce) (wo := wo) (pv := pv) (fa := fa) (pm := pm) (pw := pw) (fr := fr) (ba := ba) (rw := rw) (ro := ro) (co := co) (mo := mo) (mi := mi) (ki := ki) hI0 hI1 hf k
  obtain ⟨w, h2, E2, ⟨y, rfl⟩, ma3, wq3, dv3, cy3, sp3, e13, e23, e33, rn3, cn3, di3, tr3, rfl⟩ := m_rank (c := (x_cc pl0 ke0 sz0 se0 gr0 pl1 ke1 sz1 se1 gr1 im ce2 wo2 pv2 fa2 pm2 pw2 fr2 ba2 rw2 ro2 co2 mo2 mi2 ki2)) (ke := ke) (f := f) (ma := ma) (wo := wq) (dv := dv) (cy := cy) (sp := sp) (e1 := e1) (e2 := e2) (e3 := e3) (ro := rn) (co := cn) (di := di) (tr := tr) hmi (x_fo_c hf him) k
  exact ⟨_, _, _, _, x_e1 (E) rfl, E2, (x_JI_i (has := has) hI0 hI1 hf him hJ0 hJ1 : x_JI (kC pl0 ke0 sz0 se0 gr0 pl1 ke1 sz1 se1 gr1 im ce2 wo2 pv2 fa2 pm2 pw2 fr2 ba2 rw2 ro2 co2 mo2 mi2 ki2 (kE has ke f ma3 wq3 dv3 cy3 sp3 e13 e23 e33 rn3 cn3 di3 tr3))), fun q => q.elim⟩
theorem j_products {h : mm_H} (hJ : x_JI h) (c : Int32) : x_2 51 115 [.int c] h False := by
  obtain ⟨pl0, ke0, sz0, se0, gr0, pl1, ke1, sz1, se1, gr1, im, ce, wo, pv, fa, pm, pw, fr, ba, rw, ro, co, mo, mi, ki, has, ke, f, ma, wq, dv, cy, sp, e1, e2, e3, rn, cn, di, tr, hI0, hI1, hf, him, hJ0, hJ1, rfl⟩ := hJ
  have hmi := x_J1.mi hJ0 hJ1 hI0 hI1
  by_cases c0 : c = 0
  · subst c0
    obtain ⟨v, h1, E, ⟨x, rfl⟩, ce2, wo2, pv2, fa2, pm2, pw2, fr2, ba2, rw2, ro2, co2, mo2, mi2, ki2, rfl⟩ := w_products0 (M := kE has ke f ma wq dv cy sp e1 e2 e3 rn cn di tr) (ke0 := ke0) (gr0 := gr0) (pl1 := pl1) (ke1 := ke1) (sz1 := sz1) (se1 := se1) (gr1 := gr1) (im := im) (ce := ce) (wo := wo) (pv := pv) (fa := fa) (pm := pm) (pw := pw) (fr := fr) (ba := ba) (rw := rw) (ro := ro) (co := co) (mo := mo) (mi := mi) (ki := ki) hI0
    obtain ⟨w, h2, E2, ⟨y, rfl⟩, ma3, wq3, dv3, cy3, sp3, e13, e23, e33, rn3, cn3, di3, tr3, rfl⟩ := m_products (c := (x_cc pl0 ke0 sz0 se0 gr0 pl1 ke1 sz1 se1 gr1 im ce2 wo2 pv2 fa2 pm2 pw2 fr2 ba2 rw2 ro2 co2 mo2 mi2 ki2)) (ke := ke) (f := f) (ma := ma) (wo := wq) (dv := dv) (cy := cy) (sp := sp) (e1 := e1) (e2 := e2) (e3 := e3) (ro := rn) (co := cn) (di := di) (tr := tr) hmi 0
    exact ⟨_, _, _, _, x_e1 (E) rfl, E2, (x_JI_i (has := has) hI0 hI1 hf him hJ0 hJ1 : x_JI (kC pl0 ke0 sz0 se0 gr0 pl1 ke1 sz1 se1 gr1 im ce2 wo2 pv2 fa2 pm2 pw2 fr2 ba2 rw2 ro2 co2 mo2 mi2 ki2 (kE has ke f ma3 wq3 dv3 cy3 sp3 e13 e23 e33 rn3 cn3 di3 tr3))), fun q => q.elim⟩
  · by_cases c1 : c = 1
    · subst c1
      obtain ⟨v, h1, E, ⟨x, rfl⟩, ce2, wo2, pv2, fa2, pm2, pw2, fr2, ba2, rw2, ro2, co2, mo2, mi2, ki2, rfl⟩ := w_products1 (M := kE has ke f ma wq dv cy sp e1 e2 e3 rn cn di tr) (pl0 := pl0) (ke0 := ke0) (sz0 := sz0) (se0 := se0) (gr0 := gr0) (ke1 := ke1) (gr1 := gr1) (im := im) (ce := ce) (wo := wo) (pv := pv) (fa := fa) (pm := pm) (pw := pw) (fr := fr) (ba := ba) (rw := rw) (ro := ro) (co := co) (mo := mo) (mi := mi) (ki := ki) hI1
      obtain ⟨w, h2, E2, ⟨y, rfl⟩, ma3, wq3, dv3, cy3, sp3, e13, e23, e33, rn3, cn3, di3, tr3, rfl⟩ := m_products (c := (x_cc pl0 ke0 sz0 se0 gr0 pl1 ke1 sz1 se1 gr1 im ce2 wo2 pv2 fa2 pm2 pw2 fr2 ba2 rw2 ro2 co2 mo2 mi2 ki2)) (ke := ke) (f := f) (ma := ma) (wo := wq) (dv := dv) (cy := cy) (sp := sp) (e1 := e1) (e2 := e2) (e3 := e3) (ro := rn) (co := cn) (di := di) (tr := tr) hmi 1
      exact ⟨_, _, _, _, x_e1 (E) rfl, E2, (x_JI_i (has := has) hI0 hI1 hf him hJ0 hJ1 : x_JI (kC pl0 ke0 sz0 se0 gr0 pl1 ke1 sz1 se1 gr1 im ce2 wo2 pv2 fa2 pm2 pw2 fr2 ba2 rw2 ro2 co2 mo2 mi2 ki2 (kE has ke f ma3 wq3 dv3 cy3 sp3 e13 e23 e33 rn3 cn3 di3 tr3))), fun q => q.elim⟩
    · have hc : ¬ (c = 0 ∨ c = 1) := fun q => q.elim c0 c1
      obtain ⟨w, h2, E2, ⟨y, rfl⟩, ma3, wq3, dv3, cy3, sp3, e13, e23, e33, rn3, cn3, di3, tr3, rfl⟩ := m_products (c := (x_cc pl0 ke0 sz0 se0 gr0 pl1 ke1 sz1 se1 gr1 im ce wo pv fa pm pw fr ba rw ro co mo mi ki)) (ke := ke) (f := f) (ma := ma) (wo := wq) (dv := dv) (cy := cy) (sp := sp) (e1 := e1) (e2 := e2) (e3 := e3) (ro := rn) (co := cn) (di := di) (tr := tr) hmi c
      exact ⟨_, _, _, _, x_e1 (v_prodN hc) rfl, E2, (x_JI_i (has := has) hI0 hI1 hf him hJ0 hJ1 : x_JI (kC pl0 ke0 sz0 se0 gr0 pl1 ke1 sz1 se1 gr1 im ce wo pv fa pm pw fr ba rw ro co mo mi ki (kE has ke f ma3 wq3 dv3 cy3 sp3 e13 e23 e33 rn3 cn3 di3 tr3))), fun q => q.elim⟩
