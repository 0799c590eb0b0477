/-! THE COUNTER'S MATRICES, cell by cell -/
theorem x_se_inj {pl sz se : Nat → Int32} (hI : x_CI pl sz se) {k r r' : Nat} (hk : k < 4) (h : r < x_ct pl k 255) (h' : r' < x_ct pl k 255) (e : se (k * 24 + r) = se (k * 24 + r')) : r = r' := by
  obtain ⟨q, a1, a2, a3, -, -, a4⟩ := hI.set hk h
  obtain ⟨q', b1, b2, b3, -, -, b4⟩ := hI.set hk h'
  rw [a3, b3] at e
  have := (nI_eq (by omega) (by omega)).mp e
  rw [this] at a4
  exact a4.symm.trans b4
theorem q_shape {pl0 ke0 sz0 se0 gr0 pl1 ke1 sz1 se1 gr1 im ce wo pv fa pm pw fr ba : Nat → Int32} {rw : Nat → Int64} {ro co mo : Int32} {mi : Int64} {ki : Int32} {M : mm_H} {R C : Nat} (hR : R ≤ 48) (hC : C ≤ 48) : mm_TC kM 16 [.ref 14, .int (nI R), .int (nI C)] (kC pl0 ke0 sz0 se0 gr0 pl1 ke1 sz1 se1 gr1 im ce wo pv fa pm pw fr ba rw ro co mo mi ki M) (fun v h => v = none ∧ ∃ ce1, (∀ a b, a < R → b < C → ce1 (a * 48 + b) = 0) ∧ h = (kC pl0 ke0 sz0 se0 gr0 pl1 ke1 sz1 se1 gr1 im ce1 wo pv fa pm pw fr ba rw (nI R) (nI C) mo mi ki M)) := by
  refine mm_TC.of (M := kq_16) rfl rfl ?_
  refine mm_T.s rfl rfl rfl (fun _ => rfl) ?_
  refine mm_T.s rfl rfl rfl (fun _ => rfl) ?_
  refine mm_T.pfi rfl rfl rfl rfl rfl rfl ?_
  refine mm_T.s rfl rfl rfl (fun _ => rfl) ?_
  refine mm_T.s rfl rfl rfl (fun _ => rfl) ?_
  refine mm_T.pfi rfl rfl rfl rfl rfl rfl ?_
  refine mm_T.s rfl rfl rfl (fun _ => rfl) ?_
  refine mm_T.s rfl rfl rfl (fun _ => rfl) ?_
  refine mm_T.up (n := R) (P := fun i L h => ∃ x3 y4 ce1, x3 = nI i ∧ (∀ a b, a < R → b < C → a < i → ce1 (a * 48 + b) = 0) ∧ L = [some (.ref 14), some (.int (nI R)), some (.int (nI C)), some (.int x3), y4] ∧ h = (kC pl0 ke0 sz0 se0 gr0 pl1 ke1 sz1 se1 gr1 im ce1 wo pv fa pm pw fr ba rw (nI R) (nI C) mo mi ki M)) ?_ ?_ 0 (Nat.zero_le _) _ _ ⟨_, _, _, rfl, fun a b _ _ h => absurd h (Nat.not_lt_zero a), rfl, rfl⟩
  · skip
    rintro i _ _ hi ⟨x3, y4, ce1, rfl, hw1, rfl, rfl⟩ K
    refine mm_T.s rfl rfl rfl (fun _ => rfl) ?_
    refine mm_T.s rfl rfl rfl (fun _ => rfl) ?_
    refine mm_T.gf rfl rfl rfl rfl rfl ?_
    refine mm_T.s rfl rfl rfl (fun _ => if_neg (nI_ge hi (by omega))) ?_
    refine mm_T.s rfl rfl rfl (fun _ => rfl) ?_
    refine mm_T.s rfl rfl rfl (fun _ => rfl) ?_
    refine mm_T.up (n := C) (P := fun i1 L h => ∃ x4 ce2, x4 = nI i1 ∧ (∀ a b, a < R → b < C → a < i ∨ a = i ∧ b < i1 → ce2 (a * 48 + b) = 0) ∧ L = [some (.ref 14), some (.int (nI R)), some (.int (nI C)), some (.int (nI i)), some (.int x4)] ∧ h = (kC pl0 ke0 sz0 se0 gr0 pl1 ke1 sz1 se1 gr1 im ce2 wo pv fa pm pw fr ba rw (nI R) (nI C) mo mi ki M)) ?_ ?_ 0 (Nat.zero_le _) _ _ ⟨_, _, rfl, fun a b ha hb hab => hw1 a b ha hb (by omega), rfl, rfl⟩
    · skip
      rintro j _ _ hj ⟨x4, ce2, rfl, hw2, rfl, rfl⟩ K2
      refine mm_T.s rfl rfl rfl (fun _ => rfl) ?_
      refine mm_T.s rfl rfl rfl (fun _ => rfl) ?_
      refine mm_T.gf rfl rfl rfl rfl rfl ?_
      refine mm_T.s rfl rfl rfl (fun _ => if_neg (nI_ge hj (by omega))) ?_
      refine mm_T.s rfl rfl rfl (fun _ => rfl) ?_
      refine mm_T.gf rfl rfl rfl rfl rfl ?_
      refine mm_T.s rfl rfl rfl (fun _ => rfl) ?_
      refine mm_T.s rfl rfl rfl (fun _ => rfl) ?_
      refine mm_T.s rfl rfl rfl (fun _ => rfl) ?_
      refine mm_T.s rfl rfl rfl (fun _ => rfl) ?_
      refine mm_T.s rfl rfl rfl (fun _ => rfl) ?_
      refine mm_T.ti _ (x_48e _ _) ?_
      refine mm_T.s rfl rfl rfl (fun _ => rfl) ?_
      refine mm_T.isN rfl rfl rfl (by omega) (by decide) rfl ?_
      refine mm_T.s rfl rfl rfl (fun _ => rfl) ?_
      refine mm_T.s rfl rfl rfl (fun _ => rfl) ?_
      exact K2 _ _ ⟨_, _, nI_1 j, fun a b ha hb hab => (by
        rw [x_ui2 _ (by omega) (by omega)]
        by_cases e : a = i ∧ b = j
        · rw [if_pos e]
          rfl
        · rw [if_neg e]
          exact hw2 a b ha hb (by omega)), rfl, rfl⟩
    · skip
      rintro _ _ ⟨x4, ce2, rfl, hw2, rfl, rfl⟩
      refine mm_T.s rfl rfl rfl (fun _ => rfl) ?_
      refine mm_T.s rfl rfl rfl (fun _ => rfl) ?_
      refine mm_T.gf rfl rfl rfl rfl rfl ?_
      refine mm_T.s rfl rfl rfl (fun _ => if_pos (nI_le (Nat.le_refl _) (by omega))) ?_
      refine mm_T.s rfl rfl rfl (fun _ => rfl) ?_
      refine mm_T.s rfl rfl rfl (fun _ => rfl) ?_
      exact K _ _ ⟨_, _, _, nI_1 i, fun a b ha hb hab => hw2 a b ha hb (by omega), rfl, rfl⟩
  · skip
    rintro _ _ ⟨x3, y4, ce1, rfl, hw1, rfl, rfl⟩
    refine mm_T.s rfl rfl rfl (fun _ => rfl) ?_
    refine mm_T.s rfl rfl rfl (fun _ => rfl) ?_
    refine mm_T.gf rfl rfl rfl rfl rfl ?_
    refine mm_T.s rfl rfl rfl (fun _ => if_pos (nI_le (Nat.le_refl _) (by omega))) ?_
    exact mm_T.ret rfl rfl rfl (⟨rfl, _, fun a b ha hb => hw1 a b ha hb ha, rfl⟩)
theorem q_wb0 {pl0 ke0 sz0 se0 gr0 pl1 ke1 sz1 se1 gr1 im ce wo pv fa pm pw fr ba : Nat → Int32} {rw : Nat → Int64} {ro co mo : Int32} {mi : Int64} {ki : Int32} {M : mm_H} (hI : x_CI pl0 sz0 se0) {kk : Nat} (hk : kk + 1 < 4) {a b : Nat} (ha : a ≤ 24) (hb : b ≤ 24) (hz : ∀ r j, r < (x_ct pl0 kk 255) → j < (x_ct pl0 (kk + 1) 255) → ce ((a + r) * 48 + (b + j)) = 0) : mm_TC kM 60 [.ref 0, .ref 1, .int (nI (kk + 1)), .int (nI a), .int (nI b)] (kC pl0 ke0 sz0 se0 gr0 pl1 ke1 sz1 se1 gr1 im ce wo pv fa pm pw fr ba rw ro co mo mi ki M) (fun v h => v = none ∧ ∃ ce1, (∀ r j, r < (x_ct pl0 kk 255) → j < (x_ct pl0 (kk + 1) 255) → ce1 ((a + r) * 48 + (b + j)) = x_sf (se0 (kk * 24 + r)) (se0 ((kk + 1) * 24 + j))) ∧ (∀ x y, x < 48 → y < 48 → ¬ (a ≤ x ∧ x < a + (x_ct pl0 kk 255) ∧ b ≤ y ∧ y < b + (x_ct pl0 (kk + 1) 255)) → ce1 (x * 48 + y) = ce (x * 48 + y)) ∧ h = (kC pl0 ke0 sz0 se0 gr0 pl1 ke1 sz1 se1 gr1 im ce1 wo pv fa pm pw fr ba rw ro co mo mi ki M)) := by
  have hm1 := hI.le hk
  have hm0 := hI.le (k := kk) (by omega)
  refine mm_TC.of (M := kq_60) rfl rfl ?_
  refine mm_T.s rfl rfl rfl (fun _ => rfl) ?_
  refine mm_T.s rfl rfl rfl (fun _ => if_neg (nI_ne0 (by omega) (by omega))) ?_
  refine mm_T.s rfl rfl rfl (fun _ => rfl) ?_
  refine mm_T.s rfl rfl rfl (fun _ => rfl) ?_
  refine mm_T.up (n := (x_ct pl0 (kk + 1) 255)) (P := fun i L h => ∃ x5 y6 y7 y8 ce1, x5 = nI i ∧ (∀ r j, r < (x_ct pl0 kk 255) → j < (x_ct pl0 (kk + 1) 255) → ce1 ((a + r) * 48 + (b + j)) = if j < i then x_sf (se0 (kk * 24 + r)) (se0 ((kk + 1) * 24 + j)) else 0) ∧ (∀ x y, x < 48 → y < 48 → ¬ (a ≤ x ∧ x < a + (x_ct pl0 kk 255) ∧ b ≤ y ∧ y < b + (x_ct pl0 (kk + 1) 255)) → ce1 (x * 48 + y) = ce (x * 48 + y)) ∧ L = [some (.ref 0), some (.ref 1), some (.int (nI (kk + 1))), some (.int (nI a)), some (.int (nI b)), some (.int x5), y6, y7, y8] ∧ h = (kC pl0 ke0 sz0 se0 gr0 pl1 ke1 sz1 se1 gr1 im ce1 wo pv fa pm pw fr ba rw ro co mo mi ki M)) ?_ ?_ 0 (Nat.zero_le _) _ _ ⟨_, _, _, _, _, rfl, fun r j hr hj => (by rw [if_neg (Nat.not_lt_zero j)]; exact hz r j hr hj), fun _ _ _ _ _ => rfl, rfl, rfl⟩
  · skip
    rintro i _ _ hi ⟨x5, y6, y7, y8, ce1, rfl, hb1, ho1, rfl, rfl⟩ K
    obtain ⟨q, hq1, hq2, hq, hqd, hqp, hqc⟩ := hI.set hk hi
    have hdm : ¬ x_dm (nI q) = 0 := by
      rw [hqd]
      exact nI_ne0 (by omega) (by omega)
    have E1 : mm_EC kM 4 [.ref 1, .int (nI (kk + 1))] (kC pl0 ke0 sz0 se0 gr0 pl1 ke1 sz1 se1 gr1 im ce1 wo pv fa pm pw fr ba rw ro co mo mi ki M) (some (.int (nI (x_ct pl0 (kk + 1) 255))), (kC pl0 ke0 sz0 se0 gr0 pl1 ke1 sz1 se1 gr1 im ce1 wo pv fa pm pw fr ba rw ro co mo mi ki M)) := by
      rw [← x_m_a hk]
      exact v_sz0 hI _
    have E2 : mm_EC kM 5 [.ref 1, .int (nI (kk + 1)), .int (nI i)] (kC pl0 ke0 sz0 se0 gr0 pl1 ke1 sz1 se1 gr1 im ce1 wo pv fa pm pw fr ba rw ro co mo mi ki M) (some (.int (nI q)), (kC pl0 ke0 sz0 se0 gr0 pl1 ke1 sz1 se1 gr1 im ce1 wo pv fa pm pw fr ba rw ro co mo mi ki M)) := by
      rw [← hq]
      exact v_setAt0 (by omega)
    refine mm_T.s rfl rfl rfl (fun _ => rfl) ?_
    refine mm_T.s rfl rfl rfl (fun _ => rfl) ?_
    refine mm_T.s rfl rfl rfl (fun _ => rfl) ?_
    refine mm_T.iv rfl rfl rfl rfl rfl rfl E1 ?_
    refine mm_T.s rfl rfl rfl (fun _ => if_neg (nI_ge hi (by omega))) ?_
    refine mm_T.s rfl rfl rfl (fun _ => rfl) ?_
    refine mm_T.s rfl rfl rfl (fun _ => rfl) ?_
    refine mm_T.s rfl rfl rfl (fun _ => rfl) ?_
    refine mm_T.iv rfl rfl rfl rfl rfl rfl E2 ?_
    refine mm_T.s rfl rfl rfl (fun _ => rfl) ?_
    refine mm_T.s rfl rfl rfl (fun _ => rfl) ?_
    refine mm_T.s rfl rfl rfl (fun _ => rfl) ?_
    refine mm_T.up (n := 8) (P := fun i1 L h => ∃ x7 y8 ce2, x7 = nI i1 ∧ (∀ r j, r < (x_ct pl0 kk 255) → j < (x_ct pl0 (kk + 1) 255) → ce2 ((a + r) * 48 + (b + j)) = if j < i then x_sf (se0 (kk * 24 + r)) (se0 ((kk + 1) * 24 + j)) else if j = i ∧ ∃ u, u < i1 ∧ x_fv q u = (se0 (kk * 24 + r)) ∧ ¬ x_fv q u = nI q then x_sf (se0 (kk * 24 + r)) (se0 ((kk + 1) * 24 + j)) else 0) ∧ (∀ x y, x < 48 → y < 48 → ¬ (a ≤ x ∧ x < a + (x_ct pl0 kk 255) ∧ b ≤ y ∧ y < b + (x_ct pl0 (kk + 1) 255)) → ce2 (x * 48 + y) = ce (x * 48 + y)) ∧ L = [some (.ref 0), some (.ref 1), some (.int (nI (kk + 1))), some (.int (nI a)), some (.int (nI b)), some (.int (nI i)), some (.int (nI q)), some (.int x7), y8] ∧ h = (kC pl0 ke0 sz0 se0 gr0 pl1 ke1 sz1 se1 gr1 im ce2 wo pv fa pm pw fr ba rw ro co mo mi ki M)) ?_ ?_ 0 (Nat.zero_le _) _ _ ⟨_, _, _, rfl, fun r j hr hj => (by rw [hb1 r j hr hj, if_neg (c := j = i ∧ _) (fun z => absurd z.2.choose_spec.1 (Nat.not_lt_zero _))]), ho1, rfl, rfl⟩
    · skip
      rintro v _ _ hv ⟨x7, y8, ce2, rfl, hb2, ho2, rfl, rfl⟩ K2
      refine mm_T.s rfl rfl rfl (fun _ => rfl) ?_
      refine mm_T.s rfl rfl rfl (fun _ => rfl) ?_
      refine mm_T.s rfl rfl rfl (fun _ => if_neg (nI_ge (b := 8) hv (by decide))) ?_
      refine mm_T.s rfl rfl rfl (fun _ => rfl) ?_
      refine mm_T.s rfl rfl rfl (fun _ => rfl) ?_
      refine mm_T.s rfl rfl rfl (fun _ => rfl) ?_
      refine mm_T.s rfl rfl rfl (fun _ => rfl) ?_
      refine mm_T.s rfl rfl rfl (fun _ => rfl) ?_
      refine mm_T.s rfl rfl rfl (fun _ => rfl) ?_
      refine mm_T.s rfl rfl rfl (fun _ => rfl) ?_
      refine mm_T.s rfl rfl rfl (fun _ => rfl) ?_
      refine mm_T.s rfl rfl rfl (fun _ => rfl) ?_
      refine mm_T.s rfl rfl rfl (fun _ => rfl) ?_
      refine mm_T.ci rfl rfl (fun hb52 => ?_) (fun hb52 => ?_)
      · skip
        have hn : (∀ r j, r < (x_ct pl0 kk 255) → j < (x_ct pl0 (kk + 1) 255) → ce2 ((a + r) * 48 + (b + j)) = if j < i then x_sf (se0 (kk * 24 + r)) (se0 ((kk + 1) * 24 + j)) else if j = i ∧ ∃ u, u < (v + 1) ∧ x_fv q u = (se0 (kk * 24 + r)) ∧ ¬ x_fv q u = nI q then x_sf (se0 (kk * 24 + r)) (se0 ((kk + 1) * 24 + j)) else 0) := fun r j hr hj => by
          rw [hb2 r j hr hj]
          have e : (j = i ∧ ∃ u, u < v ∧ x_fv q u = (se0 (kk * 24 + r)) ∧ ¬ x_fv q u = nI q) ↔ (j = i ∧ ∃ u, u < v + 1 ∧ x_fv q u = (se0 (kk * 24 + r)) ∧ ¬ x_fv q u = nI q) := ⟨fun z => ⟨z.1, z.2.choose, by have := z.2.choose_spec.1; omega, z.2.choose_spec.2⟩, fun z => ⟨z.1, z.2.choose, by
            have h5 := z.2.choose_spec.1
            have h6 : z.2.choose ≠ v := fun y => z.2.choose_spec.2.2 (by rw [y]; exact hb52)
            omega, z.2.choose_spec.2⟩⟩
          simp only [e]
        have ho3 := ho2
        refine mm_T.s rfl rfl rfl (fun _ => rfl) ?_
        refine mm_T.s rfl rfl rfl (fun _ => rfl) ?_
        exact K2 _ _ ⟨_, _, _, nI_1 v, hn, ho3, rfl, rfl⟩
      · skip
        obtain ⟨f, hf1, hf, hA, ef⟩ := x_fv_ok hq2 hv hb52 hdm
        have hfp := hI.2.2.1 q f hq1 hq2 hqp hf1 hf hA
        have hfd : x_dm (nI f) = nI kk := by
          rw [← ef, x_fd hq2 (x_sz_dm hI hq1 hq2 hqp) hv hb52, hqd]
          exact x_n1 (a := kk + 1) (by omega)
        obtain ⟨k9, g1, g2, g3, g4⟩ := hI.2.1 f hf1 hf hfp
        have ek9 : k9 = kk := (nI_eq (by omega) (by omega)).mp (g2.symm.trans hfd)
        subst ek9
        have hjj : x_ct pl0 k9 (f - 1) < x_ct pl0 k9 255 := x_ct_lt hf1 (by omega) hfp hfd
        have E3 : mm_EC kM 7 [.ref 1, .int (nI f)] (kC pl0 ke0 sz0 se0 gr0 pl1 ke1 sz1 se1 gr1 im ce2 wo pv fa pm pw fr ba rw ro co mo mi ki M) (some (.int (nI (x_ct pl0 k9 (f - 1)))), (kC pl0 ke0 sz0 se0 gr0 pl1 ke1 sz1 se1 gr1 im ce2 wo pv fa pm pw fr ba rw ro co mo mi ki M)) := by
          rw [← g3]
          exact v_place0 hf
        have hn : (∀ r j, r < (x_ct pl0 k9 255) → j < (x_ct pl0 (k9 + 1) 255) → (upd ce2 ((a + x_ct pl0 k9 (f - 1)) * 48 + (b + i)) (x_sf (nI f) (nI q))) ((a + r) * 48 + (b + j)) = if j < i then x_sf (se0 (k9 * 24 + r)) (se0 ((k9 + 1) * 24 + j)) else if j = i ∧ ∃ u, u < (v + 1) ∧ x_fv q u = (se0 (k9 * 24 + r)) ∧ ¬ x_fv q u = nI q then x_sf (se0 (k9 * 24 + r)) (se0 ((k9 + 1) * 24 + j)) else 0) := fun r j hr hj => by
          rw [x_ui2 _ (by omega) (by omega)]
          by_cases e : a + r = a + x_ct pl0 k9 (f - 1) ∧ b + j = b + i
          · have er : r = x_ct pl0 k9 (f - 1) := by omega
            have ej : j = i := by omega
            rw [if_pos e, if_neg (by omega), er, ej, if_pos ⟨rfl, v, by omega, ef.trans g4.symm, hb52⟩, g4, hq]
          · rw [if_neg e, hb2 r j hr hj]
            have ee : (j = i ∧ ∃ u, u < v ∧ x_fv q u = (se0 (k9 * 24 + r)) ∧ ¬ x_fv q u = nI q) ↔ (j = i ∧ ∃ u, u < v + 1 ∧ x_fv q u = (se0 (k9 * 24 + r)) ∧ ¬ x_fv q u = nI q) := ⟨fun z => ⟨z.1, z.2.choose, by have := z.2.choose_spec.1; omega, z.2.choose_spec.2⟩, fun z => ⟨z.1, z.2.choose, by
              have h5 := z.2.choose_spec.1
              have h6 : z.2.choose ≠ v := fun y => by
                have h7 := z.2.choose_spec.2.1
                rw [y, ef, ← g4] at h7
                have h8 := x_se_inj hI (by omega) hjj hr h7
                omega
              omega, z.2.choose_spec.2⟩⟩
            simp only [ee]
        have ho3 : (∀ x y, x < 48 → y < 48 → ¬ (a ≤ x ∧ x < a + (x_ct pl0 k9 255) ∧ b ≤ y ∧ y < b + (x_ct pl0 (k9 + 1) 255)) → (upd ce2 ((a + x_ct pl0 k9 (f - 1)) * 48 + (b + i)) (x_sf (nI f) (nI q))) (x * 48 + y) = ce (x * 48 + y)) := fun x y hx hy hxy => by
          rw [x_ui2 _ (by omega) (by omega), if_neg (by omega)]
          exact ho2 x y hx hy hxy
        refine mm_T.lc (L' := [some (.ref 0), some (.ref 1), some (.int (nI (k9 + 1))), some (.int (nI a)), some (.int (nI b)), some (.int (nI i)), some (.int (nI q)), some (.int (nI v)), some (.int (nI f))]) (by rw [← ef]; rfl) ?_
        refine mm_T.s rfl rfl rfl (fun _ => rfl) ?_
        refine mm_T.gf rfl rfl rfl rfl rfl ?_
        refine mm_T.s rfl rfl rfl (fun _ => rfl) ?_
        refine mm_T.s rfl rfl rfl (fun _ => rfl) ?_
        refine mm_T.s rfl rfl rfl (fun _ => rfl) ?_
        refine mm_T.iv rfl rfl rfl rfl rfl rfl E3 ?_
        refine mm_T.s rfl rfl rfl (fun _ => rfl) ?_
        refine mm_T.ti _ (nI_add _ _) ?_
        refine mm_T.s rfl rfl rfl (fun _ => rfl) ?_
        refine mm_T.s rfl rfl rfl (fun _ => rfl) ?_
        refine mm_T.s rfl rfl rfl (fun _ => rfl) ?_
        refine mm_T.ti _ (nI_add _ _) ?_
        refine mm_T.s rfl rfl rfl (fun _ => rfl) ?_
        refine mm_T.s rfl rfl rfl (fun _ => rfl) ?_
        refine mm_T.ic rfl rfl rfl rfl rfl (v_sf _ _) ?_
        refine mm_T.iv rfl rfl rfl rfl rfl rfl (w_write (by omega) (by omega) _) ?_
        refine mm_T.s rfl rfl rfl (fun _ => rfl) ?_
        refine mm_T.s rfl rfl rfl (fun _ => rfl) ?_
        exact K2 _ _ ⟨_, _, _, nI_1 v, hn, ho3, rfl, rfl⟩
    · skip
      rintro _ _ ⟨x7, y8, ce2, rfl, hb2, ho2, rfl, rfl⟩
      have hn : (∀ r j, r < (x_ct pl0 kk 255) → j < (x_ct pl0 (kk + 1) 255) → ce2 ((a + r) * 48 + (b + j)) = if j < (i + 1) then x_sf (se0 (kk * 24 + r)) (se0 ((kk + 1) * 24 + j)) else 0) := fun r j hr hj => by
        rw [hb2 r j hr hj]
        by_cases e1 : j < i
        · rw [if_pos e1, if_pos (show j < i + 1 by omega)]
        · rw [if_neg e1]
          by_cases e2 : j = i
          · rw [if_pos (show j < i + 1 by omega)]
            by_cases e3 : j = i ∧ ∃ u, u < 8 ∧ x_fv q u = (se0 (kk * 24 + r)) ∧ ¬ x_fv q u = nI q
            · rw [if_pos e3]
            · rw [if_neg e3, e2, hq]
              obtain ⟨f, f1, f2, f3, -⟩ := hI.set (k := kk) (by omega) hr
              rw [f3]
              refine (Classical.byContradiction (fun z => e3 ⟨e2, ?_⟩) : (0 : Int32) = x_sf (nI f) (nI q))
              rw [f3]
              exact x_sf_fv hq2 (x_sz_dm hI hq1 hq2 hqp) f2 (fun y => z y.symm)
          · rw [if_neg (fun z => e2 z.1), if_neg (by omega)]
      refine mm_T.s rfl rfl rfl (fun _ => rfl) ?_
      refine mm_T.s rfl rfl rfl (fun _ => rfl) ?_
      refine mm_T.s rfl rfl rfl (fun _ => rfl) ?_
      refine mm_T.s rfl rfl rfl (fun _ => rfl) ?_
      refine mm_T.s rfl rfl rfl (fun _ => rfl) ?_
      exact K _ _ ⟨_, _, _, _, _, nI_1 i, hn, ho2, rfl, rfl⟩
  · skip
    rintro _ _ ⟨x5, y6, y7, y8, ce1, rfl, hb1, ho1, rfl, rfl⟩
    have E1 : mm_EC kM 4 [.ref 1, .int (nI (kk + 1))] (kC pl0 ke0 sz0 se0 gr0 pl1 ke1 sz1 se1 gr1 im ce1 wo pv fa pm pw fr ba rw ro co mo mi ki M) (some (.int (nI (x_ct pl0 (kk + 1) 255))), (kC pl0 ke0 sz0 se0 gr0 pl1 ke1 sz1 se1 gr1 im ce1 wo pv fa pm pw fr ba rw ro co mo mi ki M)) := by
      rw [← x_m_a hk]
      exact v_sz0 hI _
    refine mm_T.s rfl rfl rfl (fun _ => rfl) ?_
    refine mm_T.s rfl rfl rfl (fun _ => rfl) ?_
    refine mm_T.s rfl rfl rfl (fun _ => rfl) ?_
    refine mm_T.iv rfl rfl rfl rfl rfl rfl E1 ?_
    refine mm_T.s rfl rfl rfl (fun _ => if_pos (nI_le (Nat.le_refl _) (by omega))) ?_
    exact mm_T.ret rfl rfl rfl (⟨rfl, _, fun r j hr hj => (by rw [hb1 r j hr hj, if_pos hj]), ho1, rfl⟩)
theorem q_wb1 {pl0 ke0 sz0 se0 gr0 pl1 ke1 sz1 se1 gr1 im ce wo pv fa pm pw fr ba : Nat → Int32} {rw : Nat → Int64} {ro co mo : Int32} {mi : Int64} {ki : Int32} {M : mm_H} (hI : x_CI pl1 sz1 se1) {kk : Nat} (hk : kk + 1 < 4) {a b : Nat} (ha : a ≤ 24) (hb : b ≤ 24) (hz : ∀ r j, r < (x_ct pl1 kk 255) → j < (x_ct pl1 (kk + 1) 255) → ce ((a + r) * 48 + (b + j)) = 0) : mm_TC kM 60 [.ref 0, .ref 7, .int (nI (kk + 1)), .int (nI a), .int (nI b)] (kC pl0 ke0 sz0 se0 gr0 pl1 ke1 sz1 se1 gr1 im ce wo pv fa pm pw fr ba rw ro co mo mi ki M) (fun v h => v = none ∧ ∃ ce1, (∀ r j, r < (x_ct pl1 kk 255) → j < (x_ct pl1 (kk + 1) 255) → ce1 ((a + r) * 48 + (b + j)) = x_sf (se1 (kk * 24 + r)) (se1 ((kk + 1) * 24 + j))) ∧ (∀ x y, x < 48 → y < 48 → ¬ (a ≤ x ∧ x < a + (x_ct pl1 kk 255) ∧ b ≤ y ∧ y < b + (x_ct pl1 (kk + 1) 255)) → ce1 (x * 48 + y) = ce (x * 48 + y)) ∧ h = (kC pl0 ke0 sz0 se0 gr0 pl1 ke1 sz1 se1 gr1 im ce1 wo pv fa pm pw fr ba rw ro co mo mi ki M)) := by
  have hm1 := hI.le hk
  have hm0 := hI.le (k := kk) (by omega)
  refine mm_TC.of (M := kq_60) rfl rfl ?_
  refine mm_T.s rfl rfl rfl (fun _ => rfl) ?_
  refine mm_T.s rfl rfl rfl (fun _ => if_neg (nI_ne0 (by omega) (by omega))) ?_
  refine mm_T.s rfl rfl rfl (fun _ => rfl) ?_
  refine mm_T.s rfl rfl rfl (fun _ => rfl) ?_
  refine mm_T.up (n := (x_ct pl1 (kk + 1) 255)) (P := fun i L h => ∃ x5 y6 y7 y8 ce1, x5 = nI i ∧ (∀ r j, r < (x_ct pl1 kk 255) → j < (x_ct pl1 (kk + 1) 255) → ce1 ((a + r) * 48 + (b + j)) = if j < i then x_sf (se1 (kk * 24 + r)) (se1 ((kk + 1) * 24 + j)) else 0) ∧ (∀ x y, x < 48 → y < 48 → ¬ (a ≤ x ∧ x < a + (x_ct pl1 kk 255) ∧ b ≤ y ∧ y < b + (x_ct pl1 (kk + 1) 255)) → ce1 (x * 48 + y) = ce (x * 48 + y)) ∧ L = [some (.ref 0), some (.ref 7), some (.int (nI (kk + 1))), some (.int (nI a)), some (.int (nI b)), some (.int x5), y6, y7, y8] ∧ h = (kC pl0 ke0 sz0 se0 gr0 pl1 ke1 sz1 se1 gr1 im ce1 wo pv fa pm pw fr ba rw ro co mo mi ki M)) ?_ ?_ 0 (Nat.zero_le _) _ _ ⟨_, _, _, _, _, rfl, fun r j hr hj => (by rw [if_neg (Nat.not_lt_zero j)]; exact hz r j hr hj), fun _ _ _ _ _ => rfl, rfl, rfl⟩
  · skip
    rintro i _ _ hi ⟨x5, y6, y7, y8, ce1, rfl, hb1, ho1, rfl, rfl⟩ K
    obtain ⟨q, hq1, hq2, hq, hqd, hqp, hqc⟩ := hI.set hk hi
    have hdm : ¬ x_dm (nI q) = 0 := by
      rw [hqd]
      exact nI_ne0 (by omega) (by omega)
    have E1 : mm_EC kM 4 [.ref 7, .int (nI (kk + 1))] (kC pl0 ke0 sz0 se0 gr0 pl1 ke1 sz1 se1 gr1 im ce1 wo pv fa pm pw fr ba rw ro co mo mi ki M) (some (.int (nI (x_ct pl1 (kk + 1) 255))), (kC pl0 ke0 sz0 se0 gr0 pl1 ke1 sz1 se1 gr1 im ce1 wo pv fa pm pw fr ba rw ro co mo mi ki M)) := by
      rw [← x_m_a hk]
      exact v_sz1 hI _
    have E2 : mm_EC kM 5 [.ref 7, .int (nI (kk + 1)), .int (nI i)] (kC pl0 ke0 sz0 se0 gr0 pl1 ke1 sz1 se1 gr1 im ce1 wo pv fa pm pw fr ba rw ro co mo mi ki M) (some (.int (nI q)), (kC pl0 ke0 sz0 se0 gr0 pl1 ke1 sz1 se1 gr1 im ce1 wo pv fa pm pw fr ba rw ro co mo mi ki M)) := by
      rw [← hq]
      exact v_setAt1 (by omega)
    refine mm_T.s rfl rfl rfl (fun _ => rfl) ?_
    refine mm_T.s rfl rfl rfl (fun _ => rfl) ?_
    refine mm_T.s rfl rfl rfl (fun _ => rfl) ?_
    refine mm_T.iv rfl rfl rfl rfl rfl rfl E1 ?_
    refine mm_T.s rfl rfl rfl (fun _ => if_neg (nI_ge hi (by omega))) ?_
    refine mm_T.s rfl rfl rfl (fun _ => rfl) ?_
    refine mm_T.s rfl rfl rfl (fun _ => rfl) ?_
    refine mm_T.s rfl rfl rfl (fun _ => rfl) ?_
    refine mm_T.iv rfl rfl rfl rfl rfl rfl E2 ?_
    refine mm_T.s rfl rfl rfl (fun _ => rfl) ?_
    refine mm_T.s rfl rfl rfl (fun _ => rfl) ?_
    refine mm_T.s rfl rfl rfl (fun _ => rfl) ?_
    refine mm_T.up (n := 8) (P := fun i1 L h => ∃ x7 y8 ce2, x7 = nI i1 ∧ (∀ r j, r < (x_ct pl1 kk 255) → j < (x_ct pl1 (kk + 1) 255) → ce2 ((a + r) * 48 + (b + j)) = if j < i then x_sf (se1 (kk * 24 + r)) (se1 ((kk + 1) * 24 + j)) else if j = i ∧ ∃ u, u < i1 ∧ x_fv q u = (se1 (kk * 24 + r)) ∧ ¬ x_fv q u = nI q then x_sf (se1 (kk * 24 + r)) (se1 ((kk + 1) * 24 + j)) else 0) ∧ (∀ x y, x < 48 → y < 48 → ¬ (a ≤ x ∧ x < a + (x_ct pl1 kk 255) ∧ b ≤ y ∧ y < b + (x_ct pl1 (kk + 1) 255)) → ce2 (x * 48 + y) = ce (x * 48 + y)) ∧ L = [some (.ref 0), some (.ref 7), some (.int (nI (kk + 1))), some (.int (nI a)), some (.int (nI b)), some (.int (nI i)), some (.int (nI q)), some (.int x7), y8] ∧ h = (kC pl0 ke0 sz0 se0 gr0 pl1 ke1 sz1 se1 gr1 im ce2 wo pv fa pm pw fr ba rw ro co mo mi ki M)) ?_ ?_ 0 (Nat.zero_le _) _ _ ⟨_, _, _, rfl, fun r j hr hj => (by rw [hb1 r j hr hj, if_neg (c := j = i ∧ _) (fun z => absurd z.2.choose_spec.1 (Nat.not_lt_zero _))]), ho1, rfl, rfl⟩
    · skip
      rintro v _ _ hv ⟨x7, y8, ce2, rfl, hb2, ho2, rfl, rfl⟩ K2
      refine mm_T.s rfl rfl rfl (fun _ => rfl) ?_
      refine mm_T.s rfl rfl rfl (fun _ => rfl) ?_
      refine mm_T.s rfl rfl rfl (fun _ => if_neg (nI_ge (b := 8) hv (by decide))) ?_
      refine mm_T.s rfl rfl rfl (fun _ => rfl) ?_
      refine mm_T.s rfl rfl rfl (fun _ => rfl) ?_
      refine mm_T.s rfl rfl rfl (fun _ => rfl) ?_
      refine mm_T.s rfl rfl rfl (fun _ => rfl) ?_
      refine mm_T.s rfl rfl rfl (fun _ => rfl) ?_
      refine mm_T.s rfl rfl rfl (fun _ => rfl) ?_
      refine mm_T.s rfl rfl rfl (fun _ => rfl) ?_
      refine mm_T.s rfl rfl rfl (fun _ => rfl) ?_
      refine mm_T.s rfl rfl rfl (fun _ => rfl) ?_
      refine mm_T.s rfl rfl rfl (fun _ => rfl) ?_
      refine mm_T.ci rfl rfl (fun hb52 => ?_) (fun hb52 => ?_)
      · skip
        have hn : (∀ r j, r < (x_ct pl1 kk 255) → j < (x_ct pl1 (kk + 1) 255) → ce2 ((a + r) * 48 + (b + j)) = if j < i then x_sf (se1 (kk * 24 + r)) (se1 ((kk + 1) * 24 + j)) else if j = i ∧ ∃ u, u < (v + 1) ∧ x_fv q u = (se1 (kk * 24 + r)) ∧ ¬ x_fv q u = nI q then x_sf (se1 (kk * 24 + r)) (se1 ((kk + 1) * 24 + j)) else 0) := fun r j hr hj => by
          rw [hb2 r j hr hj]
          have e : (j = i ∧ ∃ u, u < v ∧ x_fv q u = (se1 (kk * 24 + r)) ∧ ¬ x_fv q u = nI q) ↔ (j = i ∧ ∃ u, u < v + 1 ∧ x_fv q u = (se1 (kk * 24 + r)) ∧ ¬ x_fv q u = nI q) := ⟨fun z => ⟨z.1, z.2.choose, by have := z.2.choose_spec.1; omega, z.2.choose_spec.2⟩, fun z => ⟨z.1, z.2.choose, by
            have h5 := z.2.choose_spec.1
            have h6 : z.2.choose ≠ v := fun y => z.2.choose_spec.2.2 (by rw [y]; exact hb52)
            omega, z.2.choose_spec.2⟩⟩
          simp only [e]
        have ho3 := ho2
        refine mm_T.s rfl rfl rfl (fun _ => rfl) ?_
        refine mm_T.s rfl rfl rfl (fun _ => rfl) ?_
        exact K2 _ _ ⟨_, _, _, nI_1 v, hn, ho3, rfl, rfl⟩
      · skip
        obtain ⟨f, hf1, hf, hA, ef⟩ := x_fv_ok hq2 hv hb52 hdm
        have hfp := hI.2.2.1 q f hq1 hq2 hqp hf1 hf hA
        have hfd : x_dm (nI f) = nI kk := by
          rw [← ef, x_fd hq2 (x_sz_dm hI hq1 hq2 hqp) hv hb52, hqd]
          exact x_n1 (a := kk + 1) (by omega)
        obtain ⟨k9, g1, g2, g3, g4⟩ := hI.2.1 f hf1 hf hfp
        have ek9 : k9 = kk := (nI_eq (by omega) (by omega)).mp (g2.symm.trans hfd)
        subst ek9
        have hjj : x_ct pl1 k9 (f - 1) < x_ct pl1 k9 255 := x_ct_lt hf1 (by omega) hfp hfd
        have E3 : mm_EC kM 7 [.ref 7, .int (nI f)] (kC pl0 ke0 sz0 se0 gr0 pl1 ke1 sz1 se1 gr1 im ce2 wo pv fa pm pw fr ba rw ro co mo mi ki M) (some (.int (nI (x_ct pl1 k9 (f - 1)))), (kC pl0 ke0 sz0 se0 gr0 pl1 ke1 sz1 se1 gr1 im ce2 wo pv fa pm pw fr ba rw ro co mo mi ki M)) := by
          rw [← g3]
          exact v_place1 hf
        have hn : (∀ r j, r < (x_ct pl1 k9 255) → j < (x_ct pl1 (k9 + 1) 255) → (upd ce2 ((a + x_ct pl1 k9 (f - 1)) * 48 + (b + i)) (x_sf (nI f) (nI q))) ((a + r) * 48 + (b + j)) = if j < i then x_sf (se1 (k9 * 24 + r)) (se1 ((k9 + 1) * 24 + j)) else if j = i ∧ ∃ u, u < (v + 1) ∧ x_fv q u = (se1 (k9 * 24 + r)) ∧ ¬ x_fv q u = nI q then x_sf (se1 (k9 * 24 + r)) (se1 ((k9 + 1) * 24 + j)) else 0) := fun r j hr hj => by
          rw [x_ui2 _ (by omega) (by omega)]
          by_cases e : a + r = a + x_ct pl1 k9 (f - 1) ∧ b + j = b + i
          · have er : r = x_ct pl1 k9 (f - 1) := by omega
            have ej : j = i := by omega
            rw [if_pos e, if_neg (by omega), er, ej, if_pos ⟨rfl, v, by omega, ef.trans g4.symm, hb52⟩, g4, hq]
          · rw [if_neg e, hb2 r j hr hj]
            have ee : (j = i ∧ ∃ u, u < v ∧ x_fv q u = (se1 (k9 * 24 + r)) ∧ ¬ x_fv q u = nI q) ↔ (j = i ∧ ∃ u, u < v + 1 ∧ x_fv q u = (se1 (k9 * 24 + r)) ∧ ¬ x_fv q u = nI q) := ⟨fun z => ⟨z.1, z.2.choose, by have := z.2.choose_spec.1; omega, z.2.choose_spec.2⟩, fun z => ⟨z.1, z.2.choose, by
              have h5 := z.2.choose_spec.1
              have h6 : z.2.choose ≠ v := fun y => by
                have h7 := z.2.choose_spec.2.1
                rw [y, ef, ← g4] at h7
                have h8 := x_se_inj hI (by omega) hjj hr h7
                omega
              omega, z.2.choose_spec.2⟩⟩
            simp only [ee]
        have ho3 : (∀ x y, x < 48 → y < 48 → ¬ (a ≤ x ∧ x < a + (x_ct pl1 k9 255) ∧ b ≤ y ∧ y < b + (x_ct pl1 (k9 + 1) 255)) → (upd ce2 ((a + x_ct pl1 k9 (f - 1)) * 48 + (b + i)) (x_sf (nI f) (nI q))) (x * 48 + y) = ce (x * 48 + y)) := fun x y hx hy hxy => by
          rw [x_ui2 _ (by omega) (by omega), if_neg (by omega)]
          exact ho2 x y hx hy hxy
        refine mm_T.lc (L' := [some (.ref 0), some (.ref 7), some (.int (nI (k9 + 1))), some (.int (nI a)), some (.int (nI b)), some (.int (nI i)), some (.int (nI q)), some (.int (nI v)), some (.int (nI f))]) (by rw [← ef]; rfl) ?_
        refine mm_T.s rfl rfl rfl (fun _ => rfl) ?_
        refine mm_T.gf rfl rfl rfl rfl rfl ?_
        refine mm_T.s rfl rfl rfl (fun _ => rfl) ?_
        refine mm_T.s rfl rfl rfl (fun _ => rfl) ?_
        refine mm_T.s rfl rfl rfl (fun _ => rfl) ?_
        refine mm_T.iv rfl rfl rfl rfl rfl rfl E3 ?_
        refine mm_T.s rfl rfl rfl (fun _ => rfl) ?_
        refine mm_T.ti _ (nI_add _ _) ?_
        refine mm_T.s rfl rfl rfl (fun _ => rfl) ?_
        refine mm_T.s rfl rfl rfl (fun _ => rfl) ?_
        refine mm_T.s rfl rfl rfl (fun _ => rfl) ?_
        refine mm_T.ti _ (nI_add _ _) ?_
        refine mm_T.s rfl rfl rfl (fun _ => rfl) ?_
        refine mm_T.s rfl rfl rfl (fun _ => rfl) ?_
        refine mm_T.ic rfl rfl rfl rfl rfl (v_sf _ _) ?_
        refine mm_T.iv rfl rfl rfl rfl rfl rfl (w_write (by omega) (by omega) _) ?_
        refine mm_T.s rfl rfl rfl (fun _ => rfl) ?_
        refine mm_T.s rfl rfl rfl (fun _ => rfl) ?_
        exact K2 _ _ ⟨_, _, _, nI_1 v, hn, ho3, rfl, rfl⟩
    · skip
      rintro _ _ ⟨x7, y8, ce2, rfl, hb2, ho2, rfl, rfl⟩
      have hn : (∀ r j, r < (x_ct pl1 kk 255) → j < (x_ct pl1 (kk + 1) 255) → ce2 ((a + r) * 48 + (b + j)) = if j < (i + 1) then x_sf (se1 (kk * 24 + r)) (se1 ((kk + 1) * 24 + j)) else 0) := fun r j hr hj => by
        rw [hb2 r j hr hj]
        by_cases e1 : j < i
        · rw [if_pos e1, if_pos (show j < i + 1 by omega)]
        · rw [if_neg e1]
          by_cases e2 : j = i
          · rw [if_pos (show j < i + 1 by omega)]
            by_cases e3 : j = i ∧ ∃ u, u < 8 ∧ x_fv q u = (se1 (kk * 24 + r)) ∧ ¬ x_fv q u = nI q
            · rw [if_pos e3]
            · rw [if_neg e3, e2, hq]
              obtain ⟨f, f1, f2, f3, -⟩ := hI.set (k := kk) (by omega) hr
              rw [f3]
              refine (Classical.byContradiction (fun z => e3 ⟨e2, ?_⟩) : (0 : Int32) = x_sf (nI f) (nI q))
              rw [f3]
              exact x_sf_fv hq2 (x_sz_dm hI hq1 hq2 hqp) f2 (fun y => z y.symm)
          · rw [if_neg (fun z => e2 z.1), if_neg (by omega)]
      refine mm_T.s rfl rfl rfl (fun _ => rfl) ?_
      refine mm_T.s rfl rfl rfl (fun _ => rfl) ?_
      refine mm_T.s rfl rfl rfl (fun _ => rfl) ?_
      refine mm_T.s rfl rfl rfl (fun _ => rfl) ?_
      refine mm_T.s rfl rfl rfl (fun _ => rfl) ?_
      exact K _ _ ⟨_, _, _, _, _, nI_1 i, hn, ho2, rfl, rfl⟩
  · skip
    rintro _ _ ⟨x5, y6, y7, y8, ce1, rfl, hb1, ho1, rfl, rfl⟩
    have E1 : mm_EC kM 4 [.ref 7, .int (nI (kk + 1))] (kC pl0 ke0 sz0 se0 gr0 pl1 ke1 sz1 se1 gr1 im ce1 wo pv fa pm pw fr ba rw ro co mo mi ki M) (some (.int (nI (x_ct pl1 (kk + 1) 255))), (kC pl0 ke0 sz0 se0 gr0 pl1 ke1 sz1 se1 gr1 im ce1 wo pv fa pm pw fr ba rw ro co mo mi ki M)) := by
      rw [← x_m_a hk]
      exact v_sz1 hI _
    refine mm_T.s rfl rfl rfl (fun _ => rfl) ?_
    refine mm_T.s rfl rfl rfl (fun _ => rfl) ?_
    refine mm_T.s rfl rfl rfl (fun _ => rfl) ?_
    refine mm_T.iv rfl rfl rfl rfl rfl rfl E1 ?_
    refine mm_T.s rfl rfl rfl (fun _ => if_pos (nI_le (Nat.le_refl _) (by omega))) ?_
    exact mm_T.ret rfl rfl rfl (⟨rfl, _, fun r j hr hj => (by rw [hb1 r j hr hj, if_pos hj]), ho1, rfl⟩)
