/-! THE COUNTER: the map -/
theorem v_hold1 {pl0 ke0 sz0 se0 gr0 pl1 ke1 sz1 se1 gr1 im ce wo pv fa pm pw fr ba : Nat → Int32} {rw : Nat → Int64} {ro co mo : Int32} {mi : Int64} {ki : Int32} {M : mm_H} (hI1 : x_CI pl1 sz1 se1) {m : Nat} (hm : m < 256) : mm_EC kM 6 [.ref 7, .int (nI m)] (kC pl0 ke0 sz0 se0 gr0 pl1 ke1 sz1 se1 gr1 im ce wo pv fa pm pw fr ba rw ro co mo mi ki M) (some (.int (if pl1 m = -1 then 0 else 1)), (kC pl0 ke0 sz0 se0 gr0 pl1 ke1 sz1 se1 gr1 im ce wo pv fa pm pw fr ba rw ro co mo mi ki M)) := by
  have z := v_holds1 (pl0 := pl0) (ke0 := ke0) (sz0 := sz0) (se0 := se0) (gr0 := gr0) (pl1 := pl1) (ke1 := ke1) (sz1 := sz1) (se1 := se1) (gr1 := gr1) (im := im) (ce := ce) (wo := wo) (pv := pv) (fa := fa) (pm := pm) (pw := pw) (fr := fr) (ba := ba) (rw := rw) (ro := ro) (co := co) (mo := mo) (mi := mi) (ki := ki) (M := M) (nI m)
  rw [mm_cl (by omega)] at z
  have e : (if ¬ nI m ≤ 0 ∧ ¬ 256 ≤ nI m ∧ ¬ pl1 m = -1 then 1 else 0 : Int32) = (if pl1 m = -1 then 0 else 1) := by
    by_cases h : pl1 m = -1
    · rw [if_pos h, if_neg (fun q => q.2.2 h)]
    · rw [if_neg h, if_pos ⟨nI_nle (Nat.pos_of_ne_zero (fun q => h (by rw [q]; exact hI1.2.2.2))) (by omega), nI_ge (b := 256) hm (by decide), h⟩]
  rw [e] at z
  exact z
theorem w_simp {pl0 ke0 sz0 se0 gr0 pl1 ke1 sz1 se1 gr1 im ce wo pv fa pm pw fr ba : Nat → Int32} {rw : Nat → Int64} {ro co mo : Int32} {mi : Int64} {ki : Int32} {M : mm_H} (hI0 : x_CI pl0 sz0 se0) (hI1 : x_CI pl1 sz1 se1) (hf : x_fo im) : mm_TC kM 48 [.ref 0] (kC pl0 ke0 sz0 se0 gr0 pl1 ke1 sz1 se1 gr1 im ce wo pv fa pm pw fr ba rw ro co mo mi ki M) (fun v h => (v = some (.int 1) ∧ x_cs pl0 pl1 im ∨ v = some (.int 0) ∧ ¬ x_cs pl0 pl1 im) ∧ h = (kC pl0 ke0 sz0 se0 gr0 pl1 ke1 sz1 se1 gr1 im ce wo pv fa pm pw fr ba rw ro co mo mi ki M)) := by
  refine mm_TC.of (M := kq_48) rfl rfl ?_
  refine mm_T.s rfl rfl rfl (fun _ => rfl) ?_
  refine mm_T.s rfl rfl rfl (fun _ => rfl) ?_
  refine mm_T.up (n := 4) (P := fun a L h => ∃ x y, x = nI a ∧ (∀ b j, b < a → j < x_ct pl0 b 255 → ¬ pl1 (x_ig im (se0 (b * 24 + j)) 8).toNatClampNeg = -1) ∧ L = [some (.ref 0), some (.int x), y] ∧ h = (kC pl0 ke0 sz0 se0 gr0 pl1 ke1 sz1 se1 gr1 im ce wo pv fa pm pw fr ba rw ro co mo mi ki M)) ?_ ?_ 0 (Nat.zero_le _) _ _ ⟨_, _, rfl, fun b j h => absurd h (Nat.not_lt_zero b), rfl, rfl⟩
  · skip
    rintro a _ _ ha ⟨x, y, rfl, hg, rfl, rfl⟩ K
    have hle := hI0.le ha
    have S1 : mm_EC kM 4 [.ref 1, .int (nI a)] (kC pl0 ke0 sz0 se0 gr0 pl1 ke1 sz1 se1 gr1 im ce wo pv fa pm pw fr ba rw ro co mo mi ki M) (some (.int (nI (x_ct pl0 a 255))), (kC pl0 ke0 sz0 se0 gr0 pl1 ke1 sz1 se1 gr1 im ce wo pv fa pm pw fr ba rw ro co mo mi ki M)) := by
      rw [← x_m_a ha]
      exact v_sz0 hI0 (nI a)
    refine mm_T.s rfl rfl rfl (fun _ => rfl) ?_
    refine mm_T.s rfl rfl rfl (fun _ => rfl) ?_
    refine mm_T.s rfl rfl rfl (fun _ => if_neg (nI_ge (b := 4) ha (by decide))) ?_
    refine mm_T.s rfl rfl rfl (fun _ => rfl) ?_
    refine mm_T.s rfl rfl rfl (fun _ => rfl) ?_
    refine mm_T.up (n := (x_ct pl0 a 255)) (P := fun i L h => ∃ x, x = nI i ∧ (∀ j, j < i → ¬ pl1 (x_ig im (se0 (a * 24 + j)) 8).toNatClampNeg = -1) ∧ L = [some (.ref 0), some (.int (nI a)), some (.int x)] ∧ h = (kC pl0 ke0 sz0 se0 gr0 pl1 ke1 sz1 se1 gr1 im ce wo pv fa pm pw fr ba rw ro co mo mi ki M)) ?_ ?_ 0 (Nat.zero_le _) _ _ ⟨_, rfl, fun j h => absurd h (Nat.not_lt_zero j), rfl, rfl⟩
    · skip
      rintro i _ _ hi ⟨x, rfl, hg2, rfl, rfl⟩ K2
      obtain ⟨q, hq1, hq2, hq, hqd, hqp, hqc⟩ := hI0.set ha hi
      obtain ⟨m, hm, em⟩ := x_ig_lt hf (nI q)
      have E2 : mm_EC kM 5 [.ref 1, .int (nI a), .int (nI i)] (kC pl0 ke0 sz0 se0 gr0 pl1 ke1 sz1 se1 gr1 im ce wo pv fa pm pw fr ba rw ro co mo mi ki M) (some (.int (nI q)), (kC pl0 ke0 sz0 se0 gr0 pl1 ke1 sz1 se1 gr1 im ce wo pv fa pm pw fr ba rw ro co mo mi ki M)) := by
        rw [← hq]
        exact v_setAt0 (by omega)
      have E3 : mm_EC kM 62 [.ref 0, .int (nI q)] (kC pl0 ke0 sz0 se0 gr0 pl1 ke1 sz1 se1 gr1 im ce wo pv fa pm pw fr ba rw ro co mo mi ki M) (some (.int (nI m)), (kC pl0 ke0 sz0 se0 gr0 pl1 ke1 sz1 se1 gr1 im ce wo pv fa pm pw fr ba rw ro co mo mi ki M)) := by
        rw [← em]
        exact v_ig _
      have E4 := v_hold1 (pl0 := pl0) (ke0 := ke0) (sz0 := sz0) (se0 := se0) (gr0 := gr0) (ke1 := ke1) (gr1 := gr1) (im := im) (ce := ce) (wo := wo) (pv := pv) (fa := fa) (pm := pm) (pw := pw) (fr := fr) (ba := ba) (rw := rw) (ro := ro) (co := co) (mo := mo) (mi := mi) (ki := ki) (M := M) hI1 hm
      by_cases h0 : pl1 m = -1
      · rw [if_pos h0] at E4
        refine mm_T.s rfl rfl rfl (fun _ => rfl) ?_
        refine mm_T.s rfl rfl rfl (fun _ => rfl) ?_
        refine mm_T.gf rfl rfl rfl rfl rfl ?_
        refine mm_T.s rfl rfl rfl (fun _ => rfl) ?_
        refine mm_T.iv rfl rfl rfl rfl rfl rfl S1 ?_
        refine mm_T.s rfl rfl rfl (fun _ => if_neg (nI_ge hi (by omega))) ?_
        refine mm_T.s rfl rfl rfl (fun _ => rfl) ?_
        refine mm_T.gf rfl rfl rfl rfl rfl ?_
        refine mm_T.s rfl rfl rfl (fun _ => rfl) ?_
        refine mm_T.s rfl rfl rfl (fun _ => rfl) ?_
        refine mm_T.gf rfl rfl rfl rfl rfl ?_
        refine mm_T.s rfl rfl rfl (fun _ => rfl) ?_
        refine mm_T.s rfl rfl rfl (fun _ => rfl) ?_
        refine mm_T.iv rfl rfl rfl rfl rfl rfl E2 ?_
        refine mm_T.iv rfl rfl rfl rfl rfl rfl E3 ?_
        refine mm_T.iv rfl rfl rfl rfl rfl rfl E4 ?_
        refine mm_T.s rfl rfl rfl (fun _ => rfl) ?_
        refine mm_T.s rfl rfl rfl (fun _ => rfl) ?_
        exact mm_T.ret rfl rfl rfl (⟨Or.inr ⟨rfl, fun q2 => q2 q hq1 hq2 hqp (by rw [em, mm_cl (by omega)]; exact h0)⟩, rfl⟩)
      · rw [if_neg h0] at E4
        refine mm_T.s rfl rfl rfl (fun _ => rfl) ?_
        refine mm_T.s rfl rfl rfl (fun _ => rfl) ?_
        refine mm_T.gf rfl rfl rfl rfl rfl ?_
        refine mm_T.s rfl rfl rfl (fun _ => rfl) ?_
        refine mm_T.iv rfl rfl rfl rfl rfl rfl S1 ?_
        refine mm_T.s rfl rfl rfl (fun _ => if_neg (nI_ge hi (by omega))) ?_
        refine mm_T.s rfl rfl rfl (fun _ => rfl) ?_
        refine mm_T.gf rfl rfl rfl rfl rfl ?_
        refine mm_T.s rfl rfl rfl (fun _ => rfl) ?_
        refine mm_T.s rfl rfl rfl (fun _ => rfl) ?_
        refine mm_T.gf rfl rfl rfl rfl rfl ?_
        refine mm_T.s rfl rfl rfl (fun _ => rfl) ?_
        refine mm_T.s rfl rfl rfl (fun _ => rfl) ?_
        refine mm_T.iv rfl rfl rfl rfl rfl rfl E2 ?_
        refine mm_T.iv rfl rfl rfl rfl rfl rfl E3 ?_
        refine mm_T.iv rfl rfl rfl rfl rfl rfl E4 ?_
        refine mm_T.s rfl rfl rfl (fun _ => rfl) ?_
        refine mm_T.s rfl rfl rfl (fun _ => rfl) ?_
        refine mm_T.s rfl rfl rfl (fun _ => rfl) ?_
        refine K2 _ _ ⟨_, nI_1 i, fun j hj => ?_, rfl, rfl⟩
        by_cases e : j = i
        · rw [e, hq, em, mm_cl (by omega)]
          exact h0
        · exact hg2 j (by omega)
    · skip
      rintro _ _ ⟨x, rfl, hg2, rfl, rfl⟩
      refine mm_T.s rfl rfl rfl (fun _ => rfl) ?_
      refine mm_T.s rfl rfl rfl (fun _ => rfl) ?_
      refine mm_T.gf rfl rfl rfl rfl rfl ?_
      refine mm_T.s rfl rfl rfl (fun _ => rfl) ?_
      refine mm_T.iv rfl rfl rfl rfl rfl rfl S1 ?_
      refine mm_T.s rfl rfl rfl (fun _ => if_pos (nI_le (Nat.le_refl _) (by omega))) ?_
      refine mm_T.s rfl rfl rfl (fun _ => rfl) ?_
      refine mm_T.s rfl rfl rfl (fun _ => rfl) ?_
      refine K _ _ ⟨_, _, nI_1 a, fun b j hb hj => ?_, rfl, rfl⟩
      by_cases e : b = a
      · subst e
        exact hg2 j hj
      · exact hg b j (by omega) hj
  · skip
    rintro _ _ ⟨x, y, rfl, hg, rfl, rfl⟩
    refine mm_T.s rfl rfl rfl (fun _ => rfl) ?_
    refine mm_T.s rfl rfl rfl (fun _ => rfl) ?_
    refine mm_T.s rfl rfl rfl (fun _ => rfl) ?_
    refine mm_T.s rfl rfl rfl (fun _ => rfl) ?_
    refine mm_T.ret rfl rfl rfl ⟨Or.inl ⟨rfl, fun q hq1 hq2 hqp => ?_⟩, rfl⟩
    obtain ⟨kk, h6, h7, h8, h9⟩ := hI0.2.1 q hq1 hq2 hqp
    have := hg kk (x_ct pl0 kk (q - 1)) h6 (x_ct_lt hq1 (by omega) hqp h7)
    rwa [h9] at this

def x_ci (im se ke : Nat → Int32) (a : Nat) (s : Int32) : Nat → Int32
  | 0 => 0
  | t + 1 => if x_ig im (se (a * 24 + t)) 8 = s then x_ci im se ke a s t + x_sn im (se (a * 24 + t)) 8 0 0 0 * ke (se (a * 24 + t)).toNatClampNeg else x_ci im se ke a s t
theorem w_image {pl0 ke0 sz0 se0 gr0 pl1 ke1 sz1 se1 gr1 im ce wo pv fa pm pw fr ba : Nat → Int32} {rw : Nat → Int64} {ro co mo : Int32} {mi : Int64} {ki : Int32} {M : mm_H} (hI0 : x_CI pl0 sz0 se0) (hI1 : x_CI pl1 sz1 se1) (hf : x_fo im) (s : Int32) : mm_TC kM 49 [.ref 0, .int s] (kC pl0 ke0 sz0 se0 gr0 pl1 ke1 sz1 se1 gr1 im ce wo pv fa pm pw fr ba rw ro co mo mi ki M) (fun v h => h = (kC pl0 ke0 sz0 se0 gr0 pl1 ke1 sz1 se1 gr1 im ce wo pv fa pm pw fr ba rw ro co mo mi ki M) ∧ ((¬ s ≤ 0 ∧ ¬ 256 ≤ s ∧ ¬ pl1 s.toNatClampNeg = -1) ∧ x_cs pl0 pl1 im ∧ (∃ a, a < 4 ∧ x_dm s = nI a ∧ v = some (.int (x_ci im se0 ke0 a s (x_ct pl0 a 255)))) ∨ ¬ ((¬ s ≤ 0 ∧ ¬ 256 ≤ s ∧ ¬ pl1 s.toNatClampNeg = -1) ∧ x_cs pl0 pl1 im) ∧ v = some (.int 0))) := by
  have E1 := v_holds1 (pl0 := pl0) (ke0 := ke0) (sz0 := sz0) (se0 := se0) (gr0 := gr0) (pl1 := pl1) (ke1 := ke1) (sz1 := sz1) (se1 := se1) (gr1 := gr1) (im := im) (ce := ce) (wo := wo) (pv := pv) (fa := fa) (pm := pm) (pw := pw) (fr := fr) (ba := ba) (rw := rw) (ro := ro) (co := co) (mo := mo) (mi := mi) (ki := ki) (M := M) s
  refine mm_TC.of (M := kq_49) rfl rfl ?_
  by_cases hh : ¬ s ≤ 0 ∧ ¬ 256 ≤ s ∧ ¬ pl1 s.toNatClampNeg = -1
  · rw [if_pos hh] at E1
    obtain ⟨h1, h2, h3⟩ := id hh
    obtain ⟨p, hp, rfl⟩ := x_255 h1 h2
    rw [mm_cl (by omega)] at h3
    have hp1 : 1 ≤ p := Nat.pos_of_ne_zero (fun q => h3 (by rw [q]; exact hI1.2.2.2))
    obtain ⟨a, ha, hd, -, -⟩ := hI1.2.1 p hp1 hp h3
    have hle := hI0.le ha
    have S1 : mm_EC kM 4 [.ref 1, .int (nI a)] (kC pl0 ke0 sz0 se0 gr0 pl1 ke1 sz1 se1 gr1 im ce wo pv fa pm pw fr ba rw ro co mo mi ki M) (some (.int (nI (x_ct pl0 a 255))), (kC pl0 ke0 sz0 se0 gr0 pl1 ke1 sz1 se1 gr1 im ce wo pv fa pm pw fr ba rw ro co mo mi ki M)) := by
      rw [← x_m_a ha]
      exact v_sz0 hI0 (nI a)
    have D1 : mm_EC kM 54 [.int (nI p)] (kC pl0 ke0 sz0 se0 gr0 pl1 ke1 sz1 se1 gr1 im ce wo pv fa pm pw fr ba rw ro co mo mi ki M) (some (.int (nI a)), (kC pl0 ke0 sz0 se0 gr0 pl1 ke1 sz1 se1 gr1 im ce wo pv fa pm pw fr ba rw ro co mo mi ki M)) := by
      rw [← hd]
      exact z_dm _
    refine mm_T.s rfl rfl rfl (fun _ => rfl) ?_
    refine mm_T.gf rfl rfl rfl rfl rfl ?_
    refine mm_T.s rfl rfl rfl (fun _ => rfl) ?_
    refine mm_T.iv rfl rfl rfl rfl rfl rfl E1 ?_
    refine mm_T.s rfl rfl rfl (fun _ => rfl) ?_
    refine mm_T.s rfl rfl rfl (fun _ => rfl) ?_
    refine mm_T.ivw rfl rfl rfl rfl rfl rfl (w_simp hI0 hI1 hf) ?_
    rintro _ _ ⟨hv, rfl⟩
    rcases hv with ⟨rfl, hs⟩ | ⟨rfl, hs⟩
    · skip
      refine mm_T.s rfl rfl rfl (fun _ => rfl) ?_
      refine mm_T.s rfl rfl rfl (fun _ => rfl) ?_
      refine mm_T.ic rfl rfl rfl rfl rfl D1 ?_
      refine mm_T.s rfl rfl rfl (fun _ => rfl) ?_
      refine mm_T.s rfl rfl rfl (fun _ => rfl) ?_
      refine mm_T.s rfl rfl rfl (fun _ => rfl) ?_
      refine mm_T.s rfl rfl rfl (fun _ => rfl) ?_
      refine mm_T.s rfl rfl rfl (fun _ => rfl) ?_
      refine mm_T.up (n := (x_ct pl0 a 255)) (P := fun i L h => ∃ x4 y5, x4 = nI i ∧ L = [some (.ref 0), some (.int (nI p)), some (.int (nI a)), some (.int (x_ci im se0 ke0 a (nI p) i)), some (.int x4), y5] ∧ h = (kC pl0 ke0 sz0 se0 gr0 pl1 ke1 sz1 se1 gr1 im ce wo pv fa pm pw fr ba rw ro co mo mi ki M)) ?_ ?_ 0 (Nat.zero_le _) _ _ ⟨_, _, rfl, rfl, rfl⟩
      · skip
        rintro i _ _ hi ⟨x4, y5, rfl, rfl, rfl⟩ K
        obtain ⟨q, hq1, hq2, hq, hqd, hqp, hqc⟩ := hI0.set ha hi
        have E2 : mm_EC kM 5 [.ref 1, .int (nI a), .int (nI i)] (kC pl0 ke0 sz0 se0 gr0 pl1 ke1 sz1 se1 gr1 im ce wo pv fa pm pw fr ba rw ro co mo mi ki M) (some (.int (nI q)), (kC pl0 ke0 sz0 se0 gr0 pl1 ke1 sz1 se1 gr1 im ce wo pv fa pm pw fr ba rw ro co mo mi ki M)) := by
          rw [← hq]
          exact v_setAt0 (by omega)
        have E5 : mm_EC kM 8 [.ref 1, .int (nI q)] (kC pl0 ke0 sz0 se0 gr0 pl1 ke1 sz1 se1 gr1 im ce wo pv fa pm pw fr ba rw ro co mo mi ki M) (some (.int (ke0 (nI q).toNatClampNeg)), (kC pl0 ke0 sz0 se0 gr0 pl1 ke1 sz1 se1 gr1 im ce wo pv fa pm pw fr ba rw ro co mo mi ki M)) := by
          rw [mm_cl (by omega)]
          exact v_kept0 hq2
        by_cases hc : x_ig im (nI q) 8 = nI p
        · skip
          refine mm_T.s rfl rfl rfl (fun _ => rfl) ?_
          refine mm_T.s rfl rfl rfl (fun _ => rfl) ?_
          refine mm_T.gf rfl rfl rfl rfl rfl ?_
          refine mm_T.s rfl rfl rfl (fun _ => rfl) ?_
          refine mm_T.iv rfl rfl rfl rfl rfl rfl S1 ?_
          refine mm_T.s rfl rfl rfl (fun _ => if_neg (nI_ge hi (by omega))) ?_
          refine mm_T.s rfl rfl rfl (fun _ => rfl) ?_
          refine mm_T.gf rfl rfl rfl rfl rfl ?_
          refine mm_T.s rfl rfl rfl (fun _ => rfl) ?_
          refine mm_T.s rfl rfl rfl (fun _ => rfl) ?_
          refine mm_T.iv rfl rfl rfl rfl rfl rfl E2 ?_
          refine mm_T.s rfl rfl rfl (fun _ => rfl) ?_
          refine mm_T.s rfl rfl rfl (fun _ => rfl) ?_
          refine mm_T.s rfl rfl rfl (fun _ => rfl) ?_
          refine mm_T.iv rfl rfl rfl rfl rfl rfl (v_ig _) ?_
          refine mm_T.s rfl rfl rfl (fun _ => rfl) ?_
          refine mm_T.s rfl rfl rfl (fun _ => if_pos hc) ?_
          refine mm_T.s rfl rfl rfl (fun _ => rfl) ?_
          refine mm_T.s rfl rfl rfl (fun _ => rfl) ?_
          refine mm_T.s rfl rfl rfl (fun _ => rfl) ?_
          refine mm_T.iv rfl rfl rfl rfl rfl rfl (v_sn _) ?_
          refine mm_T.s rfl rfl rfl (fun _ => rfl) ?_
          refine mm_T.gf rfl rfl rfl rfl rfl ?_
          refine mm_T.s rfl rfl rfl (fun _ => rfl) ?_
          refine mm_T.iv rfl rfl rfl rfl rfl rfl E5 ?_
          refine mm_T.s rfl rfl rfl (fun _ => rfl) ?_
          refine mm_T.s rfl rfl rfl (fun _ => rfl) ?_
          refine mm_T.s rfl rfl rfl (fun _ => rfl) ?_
          refine mm_T.s rfl rfl rfl (fun _ => rfl) ?_
          refine mm_T.s rfl rfl rfl (fun _ => rfl) ?_
          exact K _ _ ⟨_, _, nI_1 i, by rw [show x_ci im se0 ke0 a (nI p) (i + 1) = x_ci im se0 ke0 a (nI p) i + x_sn im (nI q) 8 0 0 0 * ke0 (nI q).toNatClampNeg from by rw [x_ci, hq, if_pos hc]]; rfl, rfl⟩
        · skip
          refine mm_T.s rfl rfl rfl (fun _ => rfl) ?_
          refine mm_T.s rfl rfl rfl (fun _ => rfl) ?_
          refine mm_T.gf rfl rfl rfl rfl rfl ?_
          refine mm_T.s rfl rfl rfl (fun _ => rfl) ?_
          refine mm_T.iv rfl rfl rfl rfl rfl rfl S1 ?_
          refine mm_T.s rfl rfl rfl (fun _ => if_neg (nI_ge hi (by omega))) ?_
          refine mm_T.s rfl rfl rfl (fun _ => rfl) ?_
          refine mm_T.gf rfl rfl rfl rfl rfl ?_
          refine mm_T.s rfl rfl rfl (fun _ => rfl) ?_
          refine mm_T.s rfl rfl rfl (fun _ => rfl) ?_
          refine mm_T.iv rfl rfl rfl rfl rfl rfl E2 ?_
          refine mm_T.s rfl rfl rfl (fun _ => rfl) ?_
          refine mm_T.s rfl rfl rfl (fun _ => rfl) ?_
          refine mm_T.s rfl rfl rfl (fun _ => rfl) ?_
          refine mm_T.iv rfl rfl rfl rfl rfl rfl (v_ig _) ?_
          refine mm_T.s rfl rfl rfl (fun _ => rfl) ?_
          refine mm_T.s rfl rfl rfl (fun _ => if_neg hc) ?_
          refine mm_T.s rfl rfl rfl (fun _ => rfl) ?_
          refine mm_T.s rfl rfl rfl (fun _ => rfl) ?_
          exact K _ _ ⟨_, _, nI_1 i, by rw [show x_ci im se0 ke0 a (nI p) (i + 1) = x_ci im se0 ke0 a (nI p) i from by rw [x_ci, hq, if_neg hc]]; rfl, rfl⟩
      · skip
        rintro _ _ ⟨x4, y5, rfl, rfl, rfl⟩
        refine mm_T.s rfl rfl rfl (fun _ => rfl) ?_
        refine mm_T.s rfl rfl rfl (fun _ => rfl) ?_
        refine mm_T.gf rfl rfl rfl rfl rfl ?_
        refine mm_T.s rfl rfl rfl (fun _ => rfl) ?_
        refine mm_T.iv rfl rfl rfl rfl rfl rfl S1 ?_
        refine mm_T.s rfl rfl rfl (fun _ => if_pos (nI_le (Nat.le_refl _) (by omega))) ?_
        refine mm_T.s rfl rfl rfl (fun _ => rfl) ?_
        exact mm_T.ret rfl rfl rfl (⟨rfl, Or.inl ⟨hh, hs, a, ha, hd, rfl⟩⟩)
    · skip
      refine mm_T.s rfl rfl rfl (fun _ => rfl) ?_
      refine mm_T.s rfl rfl rfl (fun _ => rfl) ?_
      exact mm_T.ret rfl rfl rfl (⟨rfl, Or.inr ⟨fun q => hs q.2, rfl⟩⟩)
  · rw [if_neg hh] at E1
    refine mm_T.s rfl rfl rfl (fun _ => rfl) ?_
    refine mm_T.gf rfl rfl rfl rfl rfl ?_
    refine mm_T.s rfl rfl rfl (fun _ => rfl) ?_
    refine mm_T.iv rfl rfl rfl rfl rfl rfl E1 ?_
    refine mm_T.s rfl rfl rfl (fun _ => rfl) ?_
    refine mm_T.s rfl rfl rfl (fun _ => rfl) ?_
    exact mm_T.ret rfl rfl rfl (⟨rfl, Or.inr ⟨fun q => hh q.1, rfl⟩⟩)

theorem w_lm {pl0 ke0 sz0 se0 gr0 pl1 ke1 sz1 se1 gr1 im ce wo pv fa pm pw fr ba : Nat → Int32} {rw : Nat → Int64} {ro co mo : Int32} {mi : Int64} {ki : Int32} {M : mm_H} (hI0 : x_CI pl0 sz0 se0) (hI1 : x_CI pl1 sz1 se1) (hf : x_fo im) (hs : x_cs pl0 pl1 im) (k : Int32) : mm_TC kM 61 [.ref 0, .int k] (kC pl0 ke0 sz0 se0 gr0 pl1 ke1 sz1 se1 gr1 im ce wo pv fa pm pw fr ba rw ro co mo mi ki M) (fun v h => v = none ∧ ∃ ce', h = (kC pl0 ke0 sz0 se0 gr0 pl1 ke1 sz1 se1 gr1 im ce' wo pv fa pm pw fr ba rw (nI (x_m pl0 (k - 1) + x_m pl1 k)) (nI (x_m pl0 k + x_m pl1 (k + 1))) mo mi ki M)) := by
  have a1 := x_m_le hI0 (k - 1)
  have a2 := x_m_le hI0 k
  have a3 := x_m_le hI1 k
  have a4 := x_m_le hI1 (k + 1)
  refine mm_TC.of (M := kq_61) rfl rfl ?_
  refine mm_T.s rfl rfl rfl (fun _ => rfl) ?_
  refine mm_T.gf rfl rfl rfl rfl rfl ?_
  refine mm_T.s rfl rfl rfl (fun _ => rfl) ?_
  refine mm_T.s rfl rfl rfl (fun _ => rfl) ?_
  refine mm_T.s rfl rfl rfl (fun _ => rfl) ?_
  refine mm_T.iv rfl rfl rfl rfl rfl rfl (v_sz0 hI0 (k - 1)) ?_
  refine mm_T.s rfl rfl rfl (fun _ => rfl) ?_
  refine mm_T.s rfl rfl rfl (fun _ => rfl) ?_
  refine mm_T.gf rfl rfl rfl rfl rfl ?_
  refine mm_T.s rfl rfl rfl (fun _ => rfl) ?_
  refine mm_T.iv rfl rfl rfl rfl rfl rfl (v_sz0 hI0 k) ?_
  refine mm_T.s rfl rfl rfl (fun _ => rfl) ?_
  refine mm_T.s rfl rfl rfl (fun _ => rfl) ?_
  refine mm_T.gf rfl rfl rfl rfl rfl ?_
  refine mm_T.s rfl rfl rfl (fun _ => rfl) ?_
  refine mm_T.s rfl rfl rfl (fun _ => rfl) ?_
  refine mm_T.gf rfl rfl rfl rfl rfl ?_
  refine mm_T.s rfl rfl rfl (fun _ => rfl) ?_
  refine mm_T.iv rfl rfl rfl rfl rfl rfl (v_sz1 hI1 k) ?_
  refine mm_T.s rfl rfl rfl (fun _ => rfl) ?_
  refine mm_T.ti _ (nI_add _ _) ?_
  refine mm_T.s rfl rfl rfl (fun _ => rfl) ?_
  refine mm_T.s rfl rfl rfl (fun _ => rfl) ?_
  refine mm_T.gf rfl rfl rfl rfl rfl ?_
  refine mm_T.s rfl rfl rfl (fun _ => rfl) ?_
  refine mm_T.s rfl rfl rfl (fun _ => rfl) ?_
  refine mm_T.s rfl rfl rfl (fun _ => rfl) ?_
  refine mm_T.iv rfl rfl rfl rfl rfl rfl (v_sz1 hI1 (k + 1)) ?_
  refine mm_T.s rfl rfl rfl (fun _ => rfl) ?_
  refine mm_T.ti _ (nI_add _ _) ?_
  refine mm_T.ivw rfl rfl rfl rfl rfl rfl (w_shape (by omega) (by omega)) ?_
  rintro _ _ ⟨rfl, ce1, rfl⟩
  refine mm_T.s rfl rfl rfl (fun _ => rfl) ?_
  refine mm_T.s rfl rfl rfl (fun _ => rfl) ?_
  refine mm_T.gf rfl rfl rfl rfl rfl ?_
  refine mm_T.s rfl rfl rfl (fun _ => rfl) ?_
  refine mm_T.s rfl rfl rfl (fun _ => rfl) ?_
  refine mm_T.s rfl rfl rfl (fun _ => rfl) ?_
  refine mm_T.ivw rfl rfl rfl rfl rfl rfl (w_wb0 hI0 k (a := 0) (b := 0) (by omega) (by omega)) ?_
  rintro _ _ ⟨rfl, ce2, rfl⟩
  refine mm_T.s rfl rfl rfl (fun _ => rfl) ?_
  refine mm_T.s rfl rfl rfl (fun _ => rfl) ?_
  refine mm_T.gf rfl rfl rfl rfl rfl ?_
  refine mm_T.s rfl rfl rfl (fun _ => rfl) ?_
  refine mm_T.s rfl rfl rfl (fun _ => rfl) ?_
  refine mm_T.s rfl rfl rfl (fun _ => rfl) ?_
  refine mm_T.s rfl rfl rfl (fun _ => rfl) ?_
  refine mm_T.s rfl rfl rfl (fun _ => rfl) ?_
  refine mm_T.ivw rfl rfl rfl rfl rfl rfl (w_wb1 hI1 (k + 1) (a := x_m pl0 (k - 1)) (b := x_m pl0 k) (by omega) (by omega)) ?_
  rintro _ _ ⟨rfl, ce3, rfl⟩
  refine mm_T.s rfl rfl rfl (fun _ => rfl) ?_
  refine mm_T.s rfl rfl rfl (fun _ => rfl) ?_
  refine mm_T.up (n := (x_m pl0 k)) (P := fun i L h => ∃ x4 y5 y6 ce', x4 = nI i ∧ L = [some (.ref 0), some (.int k), some (.int (nI (x_m pl0 (k - 1)))), some (.int (nI (x_m pl0 k))), some (.int x4), y5, y6] ∧ h = (kC pl0 ke0 sz0 se0 gr0 pl1 ke1 sz1 se1 gr1 im ce' wo pv fa pm pw fr ba rw (nI (x_m pl0 (k - 1) + x_m pl1 k)) (nI (x_m pl0 k + x_m pl1 (k + 1))) mo mi ki M)) ?_ ?_ 0 (Nat.zero_le _) _ _ ⟨_, _, _, _, rfl, rfl, rfl⟩
  · skip
    rintro i _ _ hi ⟨x4, y5, y6, ce4, rfl, rfl, rfl⟩ K
    have hi0 := hi
    obtain ⟨kk, hk4, rfl, em⟩ := x_m_pos hi0
    rw [em] at hi0
    obtain ⟨q, hq1, hq2, hq, hqd, hqp, hqc⟩ := hI0.set hk4 hi0
    obtain ⟨m, hm, emm⟩ := x_ig_lt hf (nI q)
    have hpm := hs q hq1 hq2 hqp
    rw [emm, mm_cl (by omega)] at hpm
    obtain ⟨jj, hjj, epl⟩ := hI1.pl (Nat.pos_of_ne_zero (fun q => hpm (by rw [q]; exact hI1.2.2.2))) hm hpm
    have E2 : mm_EC kM 5 [.ref 1, .int (nI kk), .int (nI i)] (kC pl0 ke0 sz0 se0 gr0 pl1 ke1 sz1 se1 gr1 im ce4 wo pv fa pm pw fr ba rw (nI (x_m pl0 (nI kk - 1) + x_m pl1 (nI kk))) (nI (x_m pl0 (nI kk) + x_m pl1 (nI kk + 1))) mo mi ki M) (some (.int (nI q)), (kC pl0 ke0 sz0 se0 gr0 pl1 ke1 sz1 se1 gr1 im ce4 wo pv fa pm pw fr ba rw (nI (x_m pl0 (nI kk - 1) + x_m pl1 (nI kk))) (nI (x_m pl0 (nI kk) + x_m pl1 (nI kk + 1))) mo mi ki M)) := by
      rw [← hq]
      exact v_setAt0 (by omega)
    have E3 : mm_EC kM 62 [.ref 0, .int (nI q)] (kC pl0 ke0 sz0 se0 gr0 pl1 ke1 sz1 se1 gr1 im ce4 wo pv fa pm pw fr ba rw (nI (x_m pl0 (nI kk - 1) + x_m pl1 (nI kk))) (nI (x_m pl0 (nI kk) + x_m pl1 (nI kk + 1))) mo mi ki M) (some (.int (nI m)), (kC pl0 ke0 sz0 se0 gr0 pl1 ke1 sz1 se1 gr1 im ce4 wo pv fa pm pw fr ba rw (nI (x_m pl0 (nI kk - 1) + x_m pl1 (nI kk))) (nI (x_m pl0 (nI kk) + x_m pl1 (nI kk + 1))) mo mi ki M)) := by
      rw [← emm]
      exact v_ig _
    have E4 : mm_EC kM 7 [.ref 7, .int (nI m)] (kC pl0 ke0 sz0 se0 gr0 pl1 ke1 sz1 se1 gr1 im ce4 wo pv fa pm pw fr ba rw (nI (x_m pl0 (nI kk - 1) + x_m pl1 (nI kk))) (nI (x_m pl0 (nI kk) + x_m pl1 (nI kk + 1))) mo mi ki M) (some (.int (nI jj)), (kC pl0 ke0 sz0 se0 gr0 pl1 ke1 sz1 se1 gr1 im ce4 wo pv fa pm pw fr ba rw (nI (x_m pl0 (nI kk - 1) + x_m pl1 (nI kk))) (nI (x_m pl0 (nI kk) + x_m pl1 (nI kk + 1))) mo mi ki M)) := by
      rw [← epl]
      exact v_place1 hm
    refine mm_T.s rfl rfl rfl (fun _ => rfl) ?_
    refine mm_T.s rfl rfl rfl (fun _ => rfl) ?_
    refine mm_T.s rfl rfl rfl (fun _ => if_neg (nI_ge hi (by omega))) ?_
    refine mm_T.s rfl rfl rfl (fun _ => rfl) ?_
    refine mm_T.gf rfl rfl rfl rfl rfl ?_
    refine mm_T.s rfl rfl rfl (fun _ => rfl) ?_
    refine mm_T.s rfl rfl rfl (fun _ => rfl) ?_
    refine mm_T.iv rfl rfl rfl rfl rfl rfl E2 ?_
    refine mm_T.s rfl rfl rfl (fun _ => rfl) ?_
    refine mm_T.s rfl rfl rfl (fun _ => rfl) ?_
    refine mm_T.s rfl rfl rfl (fun _ => rfl) ?_
    refine mm_T.iv rfl rfl rfl rfl rfl rfl (v_sn _) ?_
    refine mm_T.s rfl rfl rfl (fun _ => rfl) ?_
    refine mm_T.s rfl rfl rfl (fun _ => rfl) ?_
    refine mm_T.cz rfl rfl (fun hb104 => ?_) (fun hb104 => ?_)
    · skip
      refine mm_T.s rfl rfl rfl (fun _ => rfl) ?_
      refine mm_T.s rfl rfl rfl (fun _ => rfl) ?_
      exact K _ _ ⟨_, _, _, _, nI_1 i, rfl, rfl⟩
    · skip
      refine mm_T.s rfl rfl rfl (fun _ => rfl) ?_
      refine mm_T.gf rfl rfl rfl rfl rfl ?_
      refine mm_T.s rfl rfl rfl (fun _ => rfl) ?_
      refine mm_T.s rfl rfl rfl (fun _ => rfl) ?_
      refine mm_T.gf rfl rfl rfl rfl rfl ?_
      refine mm_T.s rfl rfl rfl (fun _ => rfl) ?_
      refine mm_T.s rfl rfl rfl (fun _ => rfl) ?_
      refine mm_T.iv rfl rfl rfl rfl rfl rfl E3 ?_
      refine mm_T.iv rfl rfl rfl rfl rfl rfl E4 ?_
      refine mm_T.s rfl rfl rfl (fun _ => rfl) ?_
      refine mm_T.ti _ (nI_add _ _) ?_
      refine mm_T.s rfl rfl rfl (fun _ => rfl) ?_
      refine mm_T.s rfl rfl rfl (fun _ => rfl) ?_
      refine mm_T.iv rfl rfl rfl rfl rfl rfl (w_write (by omega) (by omega) _) ?_
      refine mm_T.s rfl rfl rfl (fun _ => rfl) ?_
      refine mm_T.s rfl rfl rfl (fun _ => rfl) ?_
      exact K _ _ ⟨_, _, _, _, nI_1 i, rfl, rfl⟩
  · skip
    rintro _ _ ⟨x4, y5, y6, ce4, rfl, rfl, rfl⟩
    refine mm_T.s rfl rfl rfl (fun _ => rfl) ?_
    refine mm_T.s rfl rfl rfl (fun _ => rfl) ?_
    refine mm_T.s rfl rfl rfl (fun _ => if_pos (nI_le (Nat.le_refl _) (by omega))) ?_
    exact mm_T.ret rfl rfl rfl (⟨rfl, _, rfl⟩)

theorem x_pQ : ∀ l, l ≤ 1 → x_pw 2147483629 l ≠ 0 := by
  intro l hl
  have : l = 0 ∨ l = 1 := by omega
  rcases this with rfl | rfl <;> decide
theorem w_rank {pl0 ke0 sz0 se0 gr0 pl1 ke1 sz1 se1 gr1 im ce wo pv fa pm pw fr ba : Nat → Int32} {rw : Nat → Int64} {ro co mo : Int32} {mi : Int64} {ki : Int32} {M : mm_H} (hI0 : x_CI pl0 sz0 se0) (hI1 : x_CI pl1 sz1 se1) (hf : x_fo im) (k : Int32) : mm_TC kM 50 [.ref 0, .int k] (kC pl0 ke0 sz0 se0 gr0 pl1 ke1 sz1 se1 gr1 im ce wo pv fa pm pw fr ba rw ro co mo mi ki M) (fun v h => (∃ x, v = some (.int x)) ∧ x_GR pl0 ke0 sz0 se0 gr0 pl1 ke1 sz1 se1 gr1 im M h) := by
  have a1 := x_m_le hI0 (k - 1)
  have a2 := x_m_le hI0 k
  have a3 := x_m_le hI1 k
  have a4 := x_m_le hI1 (k + 1)
  refine mm_TC.of (M := kq_50) rfl rfl ?_
  by_cases hk : k < 0 ∨ 4 ≤ k
  · skip
    refine mm_T.s rfl rfl rfl (fun _ => rfl) ?_
    refine mm_T.ic rfl rfl rfl rfl rfl (z_isD0 hk) ?_
    refine mm_T.s rfl rfl rfl (fun _ => rfl) ?_
    refine mm_T.s rfl rfl rfl (fun _ => rfl) ?_
    exact mm_T.ret rfl rfl rfl (⟨⟨_, rfl⟩, ⟨_, _, _, _, _, _, _, _, _, _, _, _, _, _, rfl⟩⟩)
  · have k0 : ¬ k < 0 := fun q => hk (Or.inl q)
    have k4 : ¬ 4 ≤ k := fun q => hk (Or.inr q)
    refine mm_T.s rfl rfl rfl (fun _ => rfl) ?_
    refine mm_T.ic rfl rfl rfl rfl rfl (z_isD1 k0 k4) ?_
    refine mm_T.s rfl rfl rfl (fun _ => rfl) ?_
    refine mm_T.s rfl rfl rfl (fun _ => rfl) ?_
    refine mm_T.ivw rfl rfl rfl rfl rfl rfl (w_simp hI0 hI1 hf) ?_
    rintro _ _ ⟨hv, rfl⟩
    rcases hv with ⟨rfl, hs⟩ | ⟨rfl, hs⟩
    · skip
      refine mm_T.s rfl rfl rfl (fun _ => rfl) ?_
      refine mm_T.s rfl rfl rfl (fun _ => rfl) ?_
      refine mm_T.s rfl rfl rfl (fun _ => rfl) ?_
      refine mm_T.ivw rfl rfl rfl rfl rfl rfl (w_lm hI0 hI1 hf hs k) ?_
      rintro _ _ ⟨rfl, ce1, rfl⟩
      refine mm_T.s rfl rfl rfl (fun _ => rfl) ?_
      refine mm_T.gf rfl rfl rfl rfl rfl ?_
      refine mm_T.s rfl rfl rfl (fun _ => rfl) ?_
      refine mm_T.s rfl rfl rfl (fun _ => rfl) ?_
      refine mm_T.ivw rfl rfl rfl rfl rfl rfl (w_elim (by omega) (by omega) (n := 1) (by decide) x_pP) ?_
      rintro _ _ ⟨t1, wo1, pv1, mi1, ht1, hmi1, hpv1, rfl, rfl⟩
      refine mm_T.s rfl rfl rfl (fun _ => rfl) ?_
      refine mm_T.gf rfl rfl rfl rfl rfl ?_
      refine mm_T.s rfl rfl rfl (fun _ => rfl) ?_
      refine mm_T.s rfl rfl rfl (fun _ => rfl) ?_
      refine mm_T.ivw rfl rfl rfl rfl rfl rfl (w_elim (by omega) (by omega) (n := 1) (by decide) x_pQ) ?_
      rintro _ _ ⟨t2, wo2, pv2, mi2, ht2, hmi2, hpv2, rfl, rfl⟩
      refine mm_T.s rfl rfl rfl (fun _ => rfl) ?_
      refine mm_T.s rfl rfl rfl (fun _ => rfl) ?_
      refine mm_T.s rfl rfl rfl (fun _ => rfl) ?_
      refine mm_T.s rfl rfl rfl (fun _ => rfl) ?_
      refine mm_T.s rfl rfl rfl (fun _ => rfl) ?_
      refine mm_T.gf rfl rfl rfl rfl rfl ?_
      refine mm_T.s rfl rfl rfl (fun _ => rfl) ?_
      refine mm_T.s rfl rfl rfl (fun _ => rfl) ?_
      refine mm_T.ivw rfl rfl rfl rfl rfl rfl (w_br0 hI0 k x_pP) ?_
      rintro _ _ ⟨⟨t3, rfl⟩, ce3, wo3, pv3, ro3, co3, mo3, mi3, rfl⟩
      refine mm_T.s rfl rfl rfl (fun _ => rfl) ?_
      refine mm_T.s rfl rfl rfl (fun _ => rfl) ?_
      refine mm_T.s rfl rfl rfl (fun _ => rfl) ?_
      refine mm_T.gf rfl rfl rfl rfl rfl ?_
      refine mm_T.s rfl rfl rfl (fun _ => rfl) ?_
      refine mm_T.s rfl rfl rfl (fun _ => rfl) ?_
      refine mm_T.s rfl rfl rfl (fun _ => rfl) ?_
      refine mm_T.s rfl rfl rfl (fun _ => rfl) ?_
      refine mm_T.ivw rfl rfl rfl rfl rfl rfl (w_br1 hI1 (k + 1) x_pP) ?_
      rintro _ _ ⟨⟨t4, rfl⟩, ce4, wo4, pv4, ro4, co4, mo4, mi4, rfl⟩
      refine mm_T.s rfl rfl rfl (fun _ => rfl) ?_
      exact mm_T.ret rfl rfl rfl (⟨⟨_, rfl⟩, ⟨_, _, _, _, _, _, _, _, _, _, _, _, _, _, rfl⟩⟩)
    · skip
      refine mm_T.s rfl rfl rfl (fun _ => rfl) ?_
      refine mm_T.s rfl rfl rfl (fun _ => rfl) ?_
      exact mm_T.ret rfl rfl rfl (⟨⟨_, rfl⟩, ⟨_, _, _, _, _, _, _, _, _, _, _, _, _, _, rfl⟩⟩)

