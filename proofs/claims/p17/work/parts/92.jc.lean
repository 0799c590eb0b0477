/-! CALLS ON BOTH SIDES: count, simplex, incidence, euler, get, put, boundary, clear, map -/
theorem j_count {h : mm_H} (hJ : x_JI h) (c k : Int32) : x_2 36 74 [.int c, .int k] h True := by
  obtain ⟨pl0, ke0, sz0, se0, gr0, pl1, ke1, sz1, se1, gr1, im, ce, wo, pv, fa, pm, pw, fr, ba, rw, ro, co, mo, mi, ki, has, ke, f, ma, wq, dv, cy, sp, e1, e2, e3, rn, cn, di, tr, hI0, hI1, hf, him, hJ0, hJ1, rfl⟩ := hJ
  by_cases c0 : c = 0
  · subst c0
    exact ⟨_, _, _, _, x_e1 (v_count0 k) rfl, g_count rfl rfl 0 k, (x_JI_i hI0 hI1 hf him hJ0 hJ1), fun _ => x_v_count hJ0 hI0 (Or.inl rfl) rfl k⟩
  · by_cases c1 : c = 1
    · subst c1
      exact ⟨_, _, _, _, x_e1 (v_count1 k) rfl, g_count rfl rfl 1 k, (x_JI_i hI0 hI1 hf him hJ0 hJ1), fun _ => x_v_count hJ1 hI1 (Or.inr rfl) rfl k⟩
    · have hc : ¬ (c = 0 ∨ c = 1) := fun q => q.elim c0 c1
      exact ⟨_, _, _, _, x_e1 (v_countN hc k) rfl, g_count rfl rfl c k, (x_JI_i hI0 hI1 hf him hJ0 hJ1), fun _ => (if_neg (fun q => hc q.1)).symm⟩
theorem j_euler {h : mm_H} (hJ : x_JI h) (c : Int32) : x_2 39 77 [.int c] h True := by
  obtain ⟨pl0, ke0, sz0, se0, gr0, pl1, ke1, sz1, se1, gr1, im, ce, wo, pv, fa, pm, pw, fr, ba, rw, ro, co, mo, mi, ki, has, ke, f, ma, wq, dv, cy, sp, e1, e2, e3, rn, cn, di, tr, hI0, hI1, hf, him, hJ0, hJ1, rfl⟩ := hJ
  by_cases c0 : c = 0
  · subst c0
    exact ⟨_, _, _, _, x_e1 (v_euler0) rfl, g_euler rfl rfl 0, (x_JI_i hI0 hI1 hf him hJ0 hJ1), fun _ => x_v_euler hJ0 hI0 (Or.inl rfl) rfl⟩
  · by_cases c1 : c = 1
    · subst c1
      exact ⟨_, _, _, _, x_e1 (v_euler1) rfl, g_euler rfl rfl 1, (x_JI_i hI0 hI1 hf him hJ0 hJ1), fun _ => x_v_euler hJ1 hI1 (Or.inr rfl) rfl⟩
    · have hc : ¬ (c = 0 ∨ c = 1) := fun q => q.elim c0 c1
      exact ⟨_, _, _, _, x_e1 (v_eulerN hc) rfl, g_euler rfl rfl c, (x_JI_i hI0 hI1 hf him hJ0 hJ1), fun _ => (if_neg hc).symm⟩
theorem j_get {h : mm_H} (hJ : x_JI h) (c s : Int32) : x_2 44 97 [.int c, .int s] h True := by
  obtain ⟨pl0, ke0, sz0, se0, gr0, pl1, ke1, sz1, se1, gr1, im, ce, wo, pv, fa, pm, pw, fr, ba, rw, ro, co, mo, mi, ki, has, ke, f, ma, wq, dv, cy, sp, e1, e2, e3, rn, cn, di, tr, hI0, hI1, hf, him, hJ0, hJ1, rfl⟩ := hJ
  by_cases c0 : c = 0
  · subst c0
    exact ⟨_, _, _, _, x_e1 (v_get0 s) rfl, g_get rfl rfl rfl 0 s, (x_JI_i hI0 hI1 hf him hJ0 hJ1), fun _ => x_v_get (n := 0) (by decide) hJ0 s⟩
  · by_cases c1 : c = 1
    · subst c1
      exact ⟨_, _, _, _, x_e1 (v_get1 s) rfl, g_get rfl rfl rfl 1 s, (x_JI_i hI0 hI1 hf him hJ0 hJ1), fun _ => x_v_get (n := 1) (by decide) hJ1 s⟩
    · have hc : ¬ (c = 0 ∨ c = 1) := fun q => q.elim c0 c1
      exact ⟨_, _, _, _, x_e1 (v_getN hc s) rfl, g_get rfl rfl rfl c s, (x_JI_i hI0 hI1 hf him hJ0 hJ1), fun _ => (if_neg (fun q => hc q.1)).symm⟩
theorem j_simplex {h : mm_H} (hJ : x_JI h) (c k i : Int32) : x_2 37 75 [.int c, .int k, .int i] h True := by
  obtain ⟨pl0, ke0, sz0, se0, gr0, pl1, ke1, sz1, se1, gr1, im, ce, wo, pv, fa, pm, pw, fr, ba, rw, ro, co, mo, mi, ki, has, ke, f, ma, wq, dv, cy, sp, e1, e2, e3, rn, cn, di, tr, hI0, hI1, hf, him, hJ0, hJ1, rfl⟩ := hJ
  by_cases c0 : c = 0
  · subst c0
    by_cases hk : ¬ k < 0 ∧ ¬ 4 ≤ k
    · obtain ⟨a, ha, rfl⟩ := x_kin hk
      have hle := hI0.le ha
      by_cases hi : i < 0
      · exact ⟨_, _, _, _, x_e1 (v_simB0 (Or.inl hi)) rfl, g_simplex rfl rfl 0 (nI a) i, (x_JI_i hI0 hI1 hf him hJ0 hJ1), fun _ => (if_neg (fun q => q.2.2.1 hi)).symm⟩
      · obtain ⟨j, hj, rfl⟩ := nI_of hi
        by_cases hjl : j < x_ct pl0 a 255
        · refine ⟨_, _, _, _, x_e1 (v_simG0 ha (hI0.sz ha) hle hjl) rfl, g_simplex rfl rfl 0 (nI a) (nI j), (x_JI_i hI0 hI1 hf him hJ0 hJ1), fun _ => ?_⟩
          have e := x_at_lt (n := 0) hJ0 hI0 ha hjl
          obtain ⟨q, h1, h2, h3, -⟩ := hI0.set ha hjl
          refine Eq.symm ((if_pos ⟨Or.inl rfl, ⟨hk.1, fun z => hk.2 (x_3l4.mp z)⟩, hi, fun z => ?_⟩).trans e)
          exact nI_ne0 (n := q) (by omega) (by omega) (h3.symm.trans (e.symm.trans z))
        · refine ⟨_, _, _, _, x_e1 (v_simB0 (Or.inr (fun q => hjl ?_))) rfl, g_simplex rfl rfl 0 (nI a) (nI j), (x_JI_i hI0 hI1 hf him hJ0 hJ1), fun _ => ?_⟩
          · rw [if_pos hk, mm_cl (by omega), hI0.sz ha] at q
            exact (nI_ltI hj (by omega)).mp q
          · exact (if_neg (fun q => q.2.2.2 (x_at_ge (n := 0) hJ0 hI0 ha hj hjl))).symm
    · refine ⟨_, _, _, _, x_e1 (v_simB0 (?_ : i < 0 ∨ _)) rfl, g_simplex rfl rfl 0 k i, (x_JI_i hI0 hI1 hf him hJ0 hJ1), fun _ => (if_neg (fun q => hk ⟨q.2.1.1, fun y => q.2.1.2 (x_3l4.mpr y)⟩)).symm⟩
      rw [if_neg hk]
      exact Classical.em _
  · by_cases c1 : c = 1
    · subst c1
      by_cases hk : ¬ k < 0 ∧ ¬ 4 ≤ k
      · obtain ⟨a, ha, rfl⟩ := x_kin hk
        have hle := hI1.le ha
        by_cases hi : i < 0
        · exact ⟨_, _, _, _, x_e1 (v_simB1 (Or.inl hi)) rfl, g_simplex rfl rfl 1 (nI a) i, (x_JI_i hI0 hI1 hf him hJ0 hJ1), fun _ => (if_neg (fun q => q.2.2.1 hi)).symm⟩
        · obtain ⟨j, hj, rfl⟩ := nI_of hi
          by_cases hjl : j < x_ct pl1 a 255
          · refine ⟨_, _, _, _, x_e1 (v_simG1 ha (hI1.sz ha) hle hjl) rfl, g_simplex rfl rfl 1 (nI a) (nI j), (x_JI_i hI0 hI1 hf him hJ0 hJ1), fun _ => ?_⟩
            have e := x_at_lt (n := 1) hJ1 hI1 ha hjl
            obtain ⟨q, h1, h2, h3, -⟩ := hI1.set ha hjl
            refine Eq.symm ((if_pos ⟨Or.inr rfl, ⟨hk.1, fun z => hk.2 (x_3l4.mp z)⟩, hi, fun z => ?_⟩).trans e)
            exact nI_ne0 (n := q) (by omega) (by omega) (h3.symm.trans (e.symm.trans z))
          · refine ⟨_, _, _, _, x_e1 (v_simB1 (Or.inr (fun q => hjl ?_))) rfl, g_simplex rfl rfl 1 (nI a) (nI j), (x_JI_i hI0 hI1 hf him hJ0 hJ1), fun _ => ?_⟩
            · rw [if_pos hk, mm_cl (by omega), hI1.sz ha] at q
              exact (nI_ltI hj (by omega)).mp q
            · exact (if_neg (fun q => q.2.2.2 (x_at_ge (n := 1) hJ1 hI1 ha hj hjl))).symm
      · refine ⟨_, _, _, _, x_e1 (v_simB1 (?_ : i < 0 ∨ _)) rfl, g_simplex rfl rfl 1 k i, (x_JI_i hI0 hI1 hf him hJ0 hJ1), fun _ => (if_neg (fun q => hk ⟨q.2.1.1, fun y => q.2.1.2 (x_3l4.mpr y)⟩)).symm⟩
        rw [if_neg hk]
        exact Classical.em _
    · have hc : ¬ (c = 0 ∨ c = 1) := fun q => q.elim c0 c1
      exact ⟨_, _, _, _, x_e1 (v_simplexN hc k i) rfl, g_simplex rfl rfl c k i, (x_JI_i hI0 hI1 hf him hJ0 hJ1), fun _ => (if_neg (fun q => hc q.1)).symm⟩
theorem x_kin1 {k : Int32} (h : ¬ k < 1 ∧ ¬ 4 ≤ k) : ∃ a, 1 ≤ a ∧ a < 4 ∧ k = nI a := by
  obtain ⟨h1, h2⟩ := h
  rw [Int32.lt_iff_toInt_lt, show (1 : Int32).toInt = 1 from rfl] at h1
  rw [Int32.le_iff_toInt_le, show (4 : Int32).toInt = 4 from rfl] at h2
  exact ⟨k.toInt.toNat, by omega, by omega, Int32.toInt_inj.mp (by rw [nI_toInt (by omega)]; omega)⟩
theorem x_inc_out {k : Int32} (hk : ¬ (¬ k < 1 ∧ ¬ 4 ≤ k)) {sz : Nat → Int32} (i j : Int32) : i < 0 ∨ (if ¬ (k - 1) < 0 ∧ ¬ 4 ≤ (k - 1) then sz ((k - 1)).toNatClampNeg else 0) ≤ i ∨ j < 0 ∨ ¬ j < (if ¬ k < 0 ∧ ¬ 4 ≤ k then sz (k).toNatClampNeg else 0) := by
  by_cases i0 : i < 0
  · exact Or.inl i0
  · by_cases j0 : j < 0
    · exact Or.inr (Or.inr (Or.inl j0))
    · by_cases k4 : ¬ k < 0 ∧ ¬ 4 ≤ k
      · have k0 : k = 0 := by
          obtain ⟨a, ha, rfl⟩ := x_kin k4
          by_cases a0 : a = 0
          · rw [a0]
            rfl
          · exact absurd ⟨fun z => absurd ((nI_ltI (b := 1) (by omega) (by decide)).mp z) (by omega), k4.2⟩ hk
        subst k0
        refine Or.inr (Or.inl ?_)
        rw [if_neg (by decide)]
        exact Int32.not_lt.mp i0
      · refine Or.inr (Or.inr (Or.inr ?_))
        rw [if_neg k4]
        exact j0
theorem j_incidence {h : mm_H} (hJ : x_JI h) (c k i j : Int32) : x_2 38 76 [.int c, .int k, .int i, .int j] h True := by
  obtain ⟨pl0, ke0, sz0, se0, gr0, pl1, ke1, sz1, se1, gr1, im, ce, wo, pv, fa, pm, pw, fr, ba, rw, ro, co, mo, mi, ki, has, ke, f, ma, wq, dv, cy, sp, e1, e2, e3, rn, cn, di, tr, hI0, hI1, hf, him, hJ0, hJ1, rfl⟩ := hJ
  by_cases c0 : c = 0
  · subst c0
    by_cases hk : ¬ k < 1 ∧ ¬ 4 ≤ k
    · obtain ⟨a, ha1, ha, rfl⟩ := x_kin1 hk
      obtain ⟨a', rfl⟩ : ∃ a', a = a' + 1 := ⟨a - 1, by omega⟩
      have hle := hI0.le ha
      have hle' := hI0.le (k := a') (by omega)
      have ek : nI (a' + 1) - 1 = nI a' := x_n1 (a := a' + 1) (by omega)
      have hk4 : ¬ nI (a' + 1) < 0 ∧ ¬ 4 ≤ nI (a' + 1) := ⟨nI_pos (by omega), hk.2⟩
      have hk3 : ¬ nI a' < 0 ∧ ¬ 4 ≤ nI a' := ⟨nI_pos (by omega), nI_ge (b := 4) (by omega) (by decide)⟩
      by_cases hij : ∃ i' j', i' < x_ct pl0 a' 255 ∧ j' < x_ct pl0 (a' + 1) 255 ∧ i = nI i' ∧ j = nI j'
      · obtain ⟨i', j', hi, hj, rfl, rfl⟩ := hij
        refine ⟨_, _, _, _, x_e1 (v_incG0 (a := a' + 1) (by omega) ha (hI0.sz (k := a') (by omega)) hle' hi (hI0.sz ha) hle hj) rfl, g_inc rfl rfl 0 (nI (a' + 1)) (nI i') (nI j'), (x_JI_i hI0 hI1 hf him hJ0 hJ1), fun _ => ?_⟩
        have e1 := x_at_lt (n := 0) hJ0 hI0 ha hj
        have e2 := x_at_lt (n := 0) hJ0 hI0 (a := a') (by omega) hi
        obtain ⟨q, h1, h2, h3, h4, h5, -⟩ := hI0.set (k := a') (by omega) hi
        obtain ⟨p, h1p, h2p, h3p, h4p, h5p, -⟩ := hI0.set ha hj
        refine Eq.trans ?_ (if_pos ⟨Or.inl rfl, ⟨hk.1, fun z => hk.2 (x_3l4.mp z)⟩, nI_pos (by omega), nI_pos' (by omega)⟩).symm
        show x_sf (se0 (a' * 24 + i')) (se0 ((a' + 1) * 24 + j')) = x_sg (x_at has 0 (nI (a' + 1)) 255 1 (nI j')) (x_at has 0 (nI (a' + 1) - 1) 255 1 (nI i'))
        rw [ek, e1, e2, h3, h3p]
        exact (x_sgf h2p (x_sz_dm hI0 h1p h2p h5p) h1 h2).symm
      · refine ⟨_, _, _, _, x_e1 (v_incB0 ?_) rfl, g_inc rfl rfl 0 (nI (a' + 1)) i j, (x_JI_i hI0 hI1 hf him hJ0 hJ1), fun _ => ?_⟩
        · rw [ek, if_pos hk3, if_pos hk4, mm_cl (show a' < 2 ^ 31 by omega), mm_cl (show a' + 1 < 2 ^ 31 by omega), hI0.sz (k := a') (by omega), hI0.sz ha]
          by_cases i0 : i < 0
          · exact Or.inl i0
          · by_cases j0 : j < 0
            · exact Or.inr (Or.inr (Or.inl j0))
            · obtain ⟨i', hi2, rfl⟩ := nI_of i0
              obtain ⟨j', hj2, rfl⟩ := nI_of j0
              by_cases i1 : i' < x_ct pl0 a' 255
              · refine Or.inr (Or.inr (Or.inr (fun z => hij ⟨i', j', i1, (nI_ltI hj2 (by omega)).mp z, rfl, rfl⟩)))
              · exact Or.inr (Or.inl (nI_le (by omega) hi2))
        · by_cases hc : (0 = (0 : Int32) ∨ 0 = (1 : Int32)) ∧ (¬ nI (a' + 1) < 1 ∧ ¬ 3 < nI (a' + 1)) ∧ ¬ i < 0 ∧ 0 ≤ j
          · refine Eq.trans ?_ (if_pos hc).symm
            obtain ⟨i', hi2, rfl⟩ := nI_of hc.2.2.1
            obtain ⟨j', hj2, rfl⟩ := nI_of (Int32.not_lt.mpr hc.2.2.2)
            show 0 = x_sg (x_at has 0 (nI (a' + 1)) 255 1 (nI j')) (x_at has 0 (nI (a' + 1) - 1) 255 1 (nI i'))
            rw [ek]
            by_cases i1 : i' < x_ct pl0 a' 255
            · rw [x_at_ge (n := 0) hJ0 hI0 ha hj2 (fun z => hij ⟨i', j', i1, z, rfl, rfl⟩), x_at_lt (n := 0) hJ0 hI0 (a := a') (by omega) i1]
              obtain ⟨q, h1, h2, h3, -⟩ := hI0.set (k := a') (by omega) i1
              rw [h3]
              exact (x_sg00 h1 h2).symm
            · rw [x_at_ge (n := 0) hJ0 hI0 (a := a') (by omega) hi2 i1]
              exact (x_sg0 _).symm
          · exact (if_neg hc).symm
    · refine ⟨_, _, _, _, x_e1 (v_incB0 (x_inc_out hk i j)) rfl, g_inc rfl rfl 0 k i j, (x_JI_i hI0 hI1 hf him hJ0 hJ1), fun _ => (if_neg (fun q => hk ⟨q.2.1.1, fun y => q.2.1.2 (x_3l4.mpr y)⟩)).symm⟩
  · by_cases c1 : c = 1
    · subst c1
      by_cases hk : ¬ k < 1 ∧ ¬ 4 ≤ k
      · obtain ⟨a, ha1, ha, rfl⟩ := x_kin1 hk
        obtain ⟨a', rfl⟩ : ∃ a', a = a' + 1 := ⟨a - 1, by omega⟩
        have hle := hI1.le ha
        have hle' := hI1.le (k := a') (by omega)
        have ek : nI (a' + 1) - 1 = nI a' := x_n1 (a := a' + 1) (by omega)
        have hk4 : ¬ nI (a' + 1) < 0 ∧ ¬ 4 ≤ nI (a' + 1) := ⟨nI_pos (by omega), hk.2⟩
        have hk3 : ¬ nI a' < 0 ∧ ¬ 4 ≤ nI a' := ⟨nI_pos (by omega), nI_ge (b := 4) (by omega) (by decide)⟩
        by_cases hij : ∃ i' j', i' < x_ct pl1 a' 255 ∧ j' < x_ct pl1 (a' + 1) 255 ∧ i = nI i' ∧ j = nI j'
        · obtain ⟨i', j', hi, hj, rfl, rfl⟩ := hij
          refine ⟨_, _, _, _, x_e1 (v_incG1 (a := a' + 1) (by omega) ha (hI1.sz (k := a') (by omega)) hle' hi (hI1.sz ha) hle hj) rfl, g_inc rfl rfl 1 (nI (a' + 1)) (nI i') (nI j'), (x_JI_i hI0 hI1 hf him hJ0 hJ1), fun _ => ?_⟩
          have e1 := x_at_lt (n := 1) hJ1 hI1 ha hj
          have e2 := x_at_lt (n := 1) hJ1 hI1 (a := a') (by omega) hi
          obtain ⟨q, h1, h2, h3, h4, h5, -⟩ := hI1.set (k := a') (by omega) hi
          obtain ⟨p, h1p, h2p, h3p, h4p, h5p, -⟩ := hI1.set ha hj
          refine Eq.trans ?_ (if_pos ⟨Or.inr rfl, ⟨hk.1, fun z => hk.2 (x_3l4.mp z)⟩, nI_pos (by omega), nI_pos' (by omega)⟩).symm
          show x_sf (se1 (a' * 24 + i')) (se1 ((a' + 1) * 24 + j')) = x_sg (x_at has 1 (nI (a' + 1)) 255 1 (nI j')) (x_at has 1 (nI (a' + 1) - 1) 255 1 (nI i'))
          rw [ek, e1, e2, h3, h3p]
          exact (x_sgf h2p (x_sz_dm hI1 h1p h2p h5p) h1 h2).symm
        · refine ⟨_, _, _, _, x_e1 (v_incB1 ?_) rfl, g_inc rfl rfl 1 (nI (a' + 1)) i j, (x_JI_i hI0 hI1 hf him hJ0 hJ1), fun _ => ?_⟩
          · rw [ek, if_pos hk3, if_pos hk4, mm_cl (show a' < 2 ^ 31 by omega), mm_cl (show a' + 1 < 2 ^ 31 by omega), hI1.sz (k := a') (by omega), hI1.sz ha]
            by_cases i0 : i < 0
            · exact Or.inl i0
            · by_cases j0 : j < 0
              · exact Or.inr (Or.inr (Or.inl j0))
              · obtain ⟨i', hi2, rfl⟩ := nI_of i0
                obtain ⟨j', hj2, rfl⟩ := nI_of j0
                by_cases i1 : i' < x_ct pl1 a' 255
                · refine Or.inr (Or.inr (Or.inr (fun z => hij ⟨i', j', i1, (nI_ltI hj2 (by omega)).mp z, rfl, rfl⟩)))
                · exact Or.inr (Or.inl (nI_le (by omega) hi2))
          · by_cases hc : (1 = (0 : Int32) ∨ 1 = (1 : Int32)) ∧ (¬ nI (a' + 1) < 1 ∧ ¬ 3 < nI (a' + 1)) ∧ ¬ i < 0 ∧ 0 ≤ j
            · refine Eq.trans ?_ (if_pos hc).symm
              obtain ⟨i', hi2, rfl⟩ := nI_of hc.2.2.1
              obtain ⟨j', hj2, rfl⟩ := nI_of (Int32.not_lt.mpr hc.2.2.2)
              show 0 = x_sg (x_at has 1 (nI (a' + 1)) 255 1 (nI j')) (x_at has 1 (nI (a' + 1) - 1) 255 1 (nI i'))
              rw [ek]
              by_cases i1 : i' < x_ct pl1 a' 255
              · rw [x_at_ge (n := 1) hJ1 hI1 ha hj2 (fun z => hij ⟨i', j', i1, z, rfl, rfl⟩), x_at_lt (n := 1) hJ1 hI1 (a := a') (by omega) i1]
                obtain ⟨q, h1, h2, h3, -⟩ := hI1.set (k := a') (by omega) i1
                rw [h3]
                exact (x_sg00 h1 h2).symm
              · rw [x_at_ge (n := 1) hJ1 hI1 (a := a') (by omega) hi2 i1]
                exact (x_sg0 _).symm
            · exact (if_neg hc).symm
      · refine ⟨_, _, _, _, x_e1 (v_incB1 (x_inc_out hk i j)) rfl, g_inc rfl rfl 1 k i j, (x_JI_i hI0 hI1 hf him hJ0 hJ1), fun _ => (if_neg (fun q => hk ⟨q.2.1.1, fun y => q.2.1.2 (x_3l4.mpr y)⟩)).symm⟩
    · have hc : ¬ (c = 0 ∨ c = 1) := fun q => q.elim c0 c1
      exact ⟨_, _, _, _, x_e1 (v_incN hc k i j) rfl, g_inc rfl rfl c k i j, (x_JI_i hI0 hI1 hf him hJ0 hJ1), fun _ => (if_neg (fun q => hc q.1)).symm⟩
