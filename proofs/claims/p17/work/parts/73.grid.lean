/-! THE GRID: factors and orders end well -/
theorem mm_T.ti {G : List mm_M} {scr : mm_X} {k pc : Nat} {L : mm_L} {r : List Value} {h : mm_H} {Q : Option Value → mm_H → Prop} {x : Int32} (y : Int32) (e : x = y) (he : mm_T G scr k pc L (.int y :: r) h Q) : mm_T G scr k pc L (.int x :: r) h Q := e ▸ he
theorem mm_T.hc {G : List mm_M} {scr : mm_X} {k pc : Nat} {L : mm_L} {r : List Value} {h h' : mm_H} {Q : Option Value → mm_H → Prop} (e : h = h') (he : mm_T G scr k pc L r h' Q) : mm_T G scr k pc L r h Q := e ▸ he
theorem x_iup {a b : Int32} (h : a < b) : (a + 1).toInt = a.toInt + 1 := by
  have h1 := Int32.lt_iff_toInt_lt.mp h
  have h2 := b.toInt_lt
  have h3 := a.le_toInt
  rw [Int32.toInt_add]
  exact Int.bmod_eq_of_le (by simp; omega) (by simp; omega)
theorem w_factor {pl0 ke0 sz0 se0 gr0 pl1 ke1 sz1 se1 gr1 im ce wo pv fa pm pw fr ba : Nat → Int32} {rw : Nat → Int64} {ro co mo : Int32} {mi : Int64} {ki : Int32} {M : mm_H} {i : Nat} (hi : i < 48) : mm_EC kM 18 [.ref 14, .int (nI i)] (kC pl0 ke0 sz0 se0 gr0 pl1 ke1 sz1 se1 gr1 im ce wo pv fa pm pw fr ba rw ro co mo mi ki M) (some (.int (fa i)), (kC pl0 ke0 sz0 se0 gr0 pl1 ke1 sz1 se1 gr1 im ce wo pv fa pm pw fr ba rw ro co mo mi ki M)) := by
  refine ⟨kq_18, rfl, rfl, ?_⟩
  refine mm_E.s rfl rfl rfl (fun _ => rfl) ?_
  refine mm_E.gf rfl rfl rfl rfl rfl ?_
  refine mm_E.s rfl rfl rfl (fun _ => rfl) ?_
  refine mm_E.ia rfl rfl rfl (mm_bd hi (by decide)) (v := fa i) (by rw [mm_cl (by omega)]) ?_
  exact mm_E.ret rfl rfl rfl

theorem w_div {pl0 ke0 sz0 se0 gr0 pl1 ke1 sz1 se1 gr1 im ce wo pv fa pm pw fr ba : Nat → Int32} {rw : Nat → Int64} {mo : Int32} {mi : Int64} {M : mm_H} {R C : Nat} (hR : R ≤ 48) (hC : C ≤ 48) {K : Nat} (hK : K ≤ 10) (hkd : x_kd pm pw K) {i : Nat} (hi : i < K) (rk : Int32) : mm_TC kM 30 [.ref 14, .int (nI i), .int rk] (kC pl0 ke0 sz0 se0 gr0 pl1 ke1 sz1 se1 gr1 im ce wo pv fa pm pw fr ba rw (nI R) (nI C) mo mi (nI K) M) (fun v h => (∃ x, v = some (.int x)) ∧ ∃ wo' pv' mo' mi', h = (kC pl0 ke0 sz0 se0 gr0 pl1 ke1 sz1 se1 gr1 im ce wo' pv' fa pm pw fr ba rw (nI R) (nI C) mo' mi' (nI K) M)) := by
  obtain ⟨P, e, hP, he, hP2, he1, hPe⟩ := hkd i hi
  have he31 := x_pw31 hP2 hPe
  refine mm_TC.of (M := kq_30) rfl rfl ?_
  refine mm_T.s rfl rfl rfl (fun _ => rfl) ?_
  refine mm_T.s rfl rfl rfl (fun _ => rfl) ?_
  refine mm_T.gf rfl rfl rfl rfl rfl ?_
  refine mm_T.s rfl rfl rfl (fun _ => rfl) ?_
  refine mm_T.ia rfl rfl rfl (mm_bd (by omega) (by decide)) (v := nI P) (by rw [mm_cl (by omega)]; exact hP) ?_
  refine mm_T.s rfl rfl rfl (fun _ => rfl) ?_
  refine mm_T.gf rfl rfl rfl rfl rfl ?_
  refine mm_T.s rfl rfl rfl (fun _ => rfl) ?_
  refine mm_T.ia rfl rfl rfl (mm_bd (by omega) (by decide)) (v := nI e) (by rw [mm_cl (by omega)]; exact he) ?_
  refine mm_T.ivw rfl rfl rfl rfl rfl rfl (w_elim hR hC he31 (x_pw0 hP2 hPe)) ?_
  rintro _ _ ⟨t2, wo2, pv2, mi2, ht2, hmi2, hpv2, rfl, rfl⟩
  refine mm_T.s rfl rfl rfl (fun _ => rfl) ?_
  refine mm_T.s rfl rfl rfl (fun _ => rfl) ?_
  refine mm_T.s rfl rfl rfl (fun _ => rfl) ?_
  refine mm_T.s rfl rfl rfl (fun _ => rfl) ?_
  refine mm_T.s rfl rfl rfl (fun _ => rfl) ?_
  refine mm_T.gf rfl rfl rfl rfl rfl ?_
  refine mm_T.s rfl rfl rfl (fun _ => rfl) ?_
  refine mm_T.ia rfl rfl rfl (mm_bd (by omega) (by decide)) (v := nI e) (by rw [mm_cl (by omega)]; exact he) ?_
  refine mm_T.s rfl rfl rfl (fun _ => rfl) ?_
  refine mm_T.s rfl rfl rfl (fun _ => rfl) ?_
  refine mm_T.s rfl rfl rfl (fun _ => rfl) ?_
  refine mm_T.s rfl rfl rfl (fun _ => rfl) ?_
  refine mm_T.up (n := e) (P := fun l L h => ∃ x4 x5 : Int32, x5 = nI l ∧ L = [some (.ref 14), some (.int (nI i)), some (.int rk), some (.int (nI t2)), some (.int x4), some (.int x5)] ∧ h = (kC pl0 ke0 sz0 se0 gr0 pl1 ke1 sz1 se1 gr1 im ce wo2 pv2 fa pm pw fr ba rw (nI R) (nI C) (x_pw (nI P) e) mi2 (nI K) M)) ?_ ?_ 0 (Nat.zero_le _) _ _ ⟨_, _, rfl, rfl, rfl⟩
  · skip
    rintro l _ _ hl ⟨x4, x5, rfl, rfl, rfl⟩ KK
    refine mm_T.s rfl rfl rfl (fun _ => rfl) ?_
    refine mm_T.s rfl rfl rfl (fun _ => rfl) ?_
    refine mm_T.gf rfl rfl rfl rfl rfl ?_
    refine mm_T.s rfl rfl rfl (fun _ => rfl) ?_
    refine mm_T.ia rfl rfl rfl (mm_bd (by omega) (by decide)) (v := nI e) (by rw [mm_cl (by omega)]; exact he) ?_
    refine mm_T.s rfl rfl rfl (fun _ => if_neg (nI_ge hl (by omega))) ?_
    refine mm_T.s rfl rfl rfl (fun _ => rfl) ?_
    refine mm_T.s rfl rfl rfl (fun _ => rfl) ?_
    refine mm_T.s rfl rfl rfl (fun _ => rfl) ?_
    refine mm_T.gf rfl rfl rfl rfl rfl ?_
    refine mm_T.s rfl rfl rfl (fun _ => rfl) ?_
    refine mm_T.ia rfl rfl rfl (mm_bd (by omega) (by decide)) rfl ?_
    refine mm_T.s rfl rfl rfl (fun _ => rfl) ?_
    refine mm_T.s rfl rfl rfl (fun _ => rfl) ?_
    refine mm_T.s rfl rfl rfl (fun _ => rfl) ?_
    refine mm_T.s rfl rfl rfl (fun _ => rfl) ?_
    refine mm_T.s rfl rfl rfl (fun _ => rfl) ?_
    exact KK _ _ ⟨_, _, nI_1 l, rfl, rfl⟩
  · skip
    rintro _ _ ⟨x4, x5, rfl, rfl, rfl⟩
    refine mm_T.s rfl rfl rfl (fun _ => rfl) ?_
    refine mm_T.s rfl rfl rfl (fun _ => rfl) ?_
    refine mm_T.gf rfl rfl rfl rfl rfl ?_
    refine mm_T.s rfl rfl rfl (fun _ => rfl) ?_
    refine mm_T.ia rfl rfl rfl (mm_bd (by omega) (by decide)) (v := nI e) (by rw [mm_cl (by omega)]; exact he) ?_
    refine mm_T.s rfl rfl rfl (fun _ => if_pos (nI_le (Nat.le_refl _) (by omega))) ?_
    refine mm_T.s rfl rfl rfl (fun _ => rfl) ?_
    exact mm_T.ret rfl rfl rfl (⟨⟨_, rfl⟩, _, _, _, _, rfl⟩)

theorem w_ff {pl0 ke0 sz0 se0 gr0 pl1 ke1 sz1 se1 gr1 im ce wo pv fa pm pw fr ba : Nat → Int32} {rw : Nat → Int64} {mo : Int32} {mi : Int64} {ki : Int32} {M : mm_H} {R C : Nat} (hR : R ≤ 48) (hC : C ≤ 48) : mm_TC kM 28 [.ref 14] (kC pl0 ke0 sz0 se0 gr0 pl1 ke1 sz1 se1 gr1 im ce wo pv fa pm pw fr ba rw (nI R) (nI C) mo mi ki M) (fun v h => ∃ t wo' pv' fa' pm' pw' mo' mi' ki', t ≤ R ∧ v = some (.int (nI t)) ∧ h = (kC pl0 ke0 sz0 se0 gr0 pl1 ke1 sz1 se1 gr1 im ce wo' pv' fa' pm' pw' fr ba rw (nI R) (nI C) mo' mi' ki' M)) := by
  refine mm_TC.of (M := kq_28) rfl rfl ?_
  refine mm_T.s rfl rfl rfl (fun _ => rfl) ?_
  refine mm_T.ivw rfl rfl rfl rfl rfl rfl (w_split hR hC) ?_
  rintro _ _ ⟨t, wo1, pv1, mi1, pm1, pw1, K, ht, hK, hkd, rfl, rfl⟩
  refine mm_T.s rfl rfl rfl (fun _ => rfl) ?_
  refine mm_T.s rfl rfl rfl (fun _ => rfl) ?_
  refine mm_T.s rfl rfl rfl (fun _ => rfl) ?_
  refine mm_T.up (n := t) (P := fun i L h => ∃ x fa', x = nI i ∧ L = [some (.ref 14), some (.int (nI t)), some (.int x), none, none, none] ∧ h = (kC pl0 ke0 sz0 se0 gr0 pl1 ke1 sz1 se1 gr1 im ce wo1 pv1 fa' pm1 pw1 fr ba rw (nI R) (nI C) (x_pw 2147483647 1) mi1 (nI K) M)) ?_ ?_ 0 (Nat.zero_le _) _ _ ⟨_, _, rfl, rfl, rfl⟩
  · skip
    rintro i _ _ hi ⟨x, fa1, rfl, rfl, rfl⟩ KK
    refine mm_T.s rfl rfl rfl (fun _ => rfl) ?_
    refine mm_T.s rfl rfl rfl (fun _ => rfl) ?_
    refine mm_T.s rfl rfl rfl (fun _ => if_neg (nI_ge hi (by omega))) ?_
    refine mm_T.s rfl rfl rfl (fun _ => rfl) ?_
    refine mm_T.gf rfl rfl rfl rfl rfl ?_
    refine mm_T.s rfl rfl rfl (fun _ => rfl) ?_
    refine mm_T.s rfl rfl rfl (fun _ => rfl) ?_
    refine mm_T.is rfl rfl rfl (mm_bd (by omega) (by decide)) rfl ?_
    refine mm_T.s rfl rfl rfl (fun _ => rfl) ?_
    refine mm_T.s rfl rfl rfl (fun _ => rfl) ?_
    exact KK _ _ ⟨_, _, nI_1 i, rfl, rfl⟩
  · skip
    rintro _ _ ⟨x, fa1, rfl, rfl, rfl⟩
    refine mm_T.s rfl rfl rfl (fun _ => rfl) ?_
    refine mm_T.s rfl rfl rfl (fun _ => rfl) ?_
    refine mm_T.s rfl rfl rfl (fun _ => if_pos (nI_le (Nat.le_refl _) (by omega))) ?_
    refine mm_T.s rfl rfl rfl (fun _ => rfl) ?_
    refine mm_T.s rfl rfl rfl (fun _ => rfl) ?_
    refine mm_T.up (n := K) (P := fun i L h => ∃ x y3 y4 y5 wo' pv' fa' mo' mi', x = nI i ∧ L = [some (.ref 14), some (.int (nI t)), some (.int x), y3, y4, y5] ∧ h = (kC pl0 ke0 sz0 se0 gr0 pl1 ke1 sz1 se1 gr1 im ce wo' pv' fa' pm1 pw1 fr ba rw (nI R) (nI C) mo' mi' (nI K) M)) ?_ ?_ 0 (Nat.zero_le _) _ _ ⟨_, _, _, _, _, _, _, _, _, rfl, rfl, rfl⟩
    · skip
      rintro i _ _ hi ⟨x, y3, y4, y5, wo2, pv2, fa2, mo2, mi2, rfl, rfl, rfl⟩ K1
      obtain ⟨P, e, hP, he, hP2, he1, hPe⟩ := hkd i hi
      have he31 := x_pw31 hP2 hPe
      refine mm_T.s rfl rfl rfl (fun _ => rfl) ?_
      refine mm_T.s rfl rfl rfl (fun _ => rfl) ?_
      refine mm_T.gf rfl rfl rfl rfl rfl ?_
      refine mm_T.s rfl rfl rfl (fun _ => if_neg (nI_ge hi (by omega))) ?_
      refine mm_T.s rfl rfl rfl (fun _ => rfl) ?_
      refine mm_T.s rfl rfl rfl (fun _ => rfl) ?_
      refine mm_T.gf rfl rfl rfl rfl rfl ?_
      refine mm_T.s rfl rfl rfl (fun _ => rfl) ?_
      refine mm_T.ia rfl rfl rfl (mm_bd (by omega) (by decide)) (v := nI P) (by rw [mm_cl (by omega)]; exact hP) ?_
      refine mm_T.s rfl rfl rfl (fun _ => rfl) ?_
      refine mm_T.gf rfl rfl rfl rfl rfl ?_
      refine mm_T.s rfl rfl rfl (fun _ => rfl) ?_
      refine mm_T.ia rfl rfl rfl (mm_bd (by omega) (by decide)) (v := nI e) (by rw [mm_cl (by omega)]; exact he) ?_
      refine mm_T.ivw rfl rfl rfl rfl rfl rfl (w_elim hR hC he31 (x_pw0 hP2 hPe)) ?_
      rintro _ _ ⟨t3, wo3, pv3, mi3, ht3, hmi3, hpv3, rfl, rfl⟩
      refine mm_T.s rfl rfl rfl (fun _ => rfl) ?_
      refine mm_T.s rfl rfl rfl (fun _ => rfl) ?_
      refine mm_T.s rfl rfl rfl (fun _ => rfl) ?_
      refine mm_T.s rfl rfl rfl (fun _ => rfl) ?_
      refine mm_T.s rfl rfl rfl (fun _ => rfl) ?_
      refine mm_T.up (n := e) (P := fun l L h => ∃ s x3 x4 y5 fa', s ≤ 48 * l ∧ x3 = nI s ∧ x4 = nI l ∧ L = [some (.ref 14), some (.int (nI t)), some (.int (nI i)), some (.int x3), some (.int x4), y5] ∧ h = (kC pl0 ke0 sz0 se0 gr0 pl1 ke1 sz1 se1 gr1 im ce wo3 pv3 fa' pm1 pw1 fr ba rw (nI R) (nI C) (x_pw (nI P) e) mi3 (nI K) M)) ?_ ?_ 0 (Nat.zero_le _) _ _ ⟨0, _, _, _, _, Nat.le_refl _, rfl, rfl, rfl, rfl⟩
      · skip
        rintro l _ _ hl ⟨s, x3, x4, y5, fa3, hs, rfl, rfl, rfl, rfl⟩ K2
        obtain ⟨m, hm, em⟩ := hpv3 l hl
        refine mm_T.s rfl rfl rfl (fun _ => rfl) ?_
        refine mm_T.s rfl rfl rfl (fun _ => rfl) ?_
        refine mm_T.gf rfl rfl rfl rfl rfl ?_
        refine mm_T.s rfl rfl rfl (fun _ => rfl) ?_
        refine mm_T.ia rfl rfl rfl (mm_bd (by omega) (by decide)) (v := nI e) (by rw [mm_cl (by omega)]; exact he) ?_
        refine mm_T.s rfl rfl rfl (fun _ => if_neg (nI_ge hl (by omega))) ?_
        refine mm_T.s rfl rfl rfl (fun _ => rfl) ?_
        refine mm_T.s rfl rfl rfl (fun _ => rfl) ?_
        refine mm_T.gf rfl rfl rfl rfl rfl ?_
        refine mm_T.s rfl rfl rfl (fun _ => rfl) ?_
        refine mm_T.ia rfl rfl rfl (mm_bd (by omega) (by decide)) (v := nI m) (by rw [mm_cl (by omega)]; exact em) ?_
        refine mm_T.s rfl rfl rfl (fun _ => rfl) ?_
        refine mm_T.ti (nI (s + m)) (nI_add s m) ?_
        refine mm_T.s rfl rfl rfl (fun _ => rfl) ?_
        refine mm_T.s rfl rfl rfl (fun _ => rfl) ?_
        refine mm_T.s rfl rfl rfl (fun _ => rfl) ?_
        refine mm_T.wf (P := fun d L h => ∃ j x5 fa', d = t - j ∧ j ≤ 48 * 40 ∧ x5 = nI j ∧ L = [some (.ref 14), some (.int (nI t)), some (.int (nI i)), some (.int (nI (s + m))), some (.int (nI l)), some (.int x5)] ∧ h = (kC pl0 ke0 sz0 se0 gr0 pl1 ke1 sz1 se1 gr1 im ce wo3 pv3 fa' pm1 pw1 fr ba rw (nI R) (nI C) (x_pw (nI P) e) mi3 (nI K) M)) ?_ (t - (s + m)) _ _ ⟨s + m, _, _, rfl, by omega, rfl, rfl, rfl⟩
        rintro d _ _ ⟨j, x5, fa4, hd, hj, rfl, rfl, rfl⟩ K3
        by_cases hjt : j < t
        · skip
          refine mm_T.s rfl rfl rfl (fun _ => rfl) ?_
          refine mm_T.s rfl rfl rfl (fun _ => rfl) ?_
          refine mm_T.s rfl rfl rfl (fun _ => if_neg (nI_ge hjt (by omega))) ?_
          refine mm_T.s rfl rfl rfl (fun _ => rfl) ?_
          refine mm_T.gf rfl rfl rfl rfl rfl ?_
          refine mm_T.s rfl rfl rfl (fun _ => rfl) ?_
          refine mm_T.s rfl rfl rfl (fun _ => rfl) ?_
          refine mm_T.ia rfl rfl rfl (mm_bd (by omega) (by decide)) rfl ?_
          refine mm_T.s rfl rfl rfl (fun _ => rfl) ?_
          refine mm_T.gf rfl rfl rfl rfl rfl ?_
          refine mm_T.s rfl rfl rfl (fun _ => rfl) ?_
          refine mm_T.ia rfl rfl rfl (mm_bd (by omega) (by decide)) rfl ?_
          refine mm_T.s rfl rfl rfl (fun _ => rfl) ?_
          refine mm_T.is rfl rfl rfl (mm_bd (by omega) (by decide)) rfl ?_
          refine mm_T.s rfl rfl rfl (fun _ => rfl) ?_
          refine mm_T.s rfl rfl rfl (fun _ => rfl) ?_
          exact K3 (t - (j + 1)) _ _ (by omega) ⟨j + 1, _, _, rfl, by omega, nI_1 j, rfl, rfl⟩
        · skip
          refine mm_T.s rfl rfl rfl (fun _ => rfl) ?_
          refine mm_T.s rfl rfl rfl (fun _ => rfl) ?_
          refine mm_T.s rfl rfl rfl (fun _ => if_pos (nI_le (by omega) (by omega))) ?_
          refine mm_T.s rfl rfl rfl (fun _ => rfl) ?_
          refine mm_T.s rfl rfl rfl (fun _ => rfl) ?_
          exact K2 _ _ ⟨s + m, _, _, _, _, by omega, rfl, nI_1 l, rfl, rfl⟩
      · skip
        rintro _ _ ⟨s, x3, x4, y5, fa3, hs, rfl, rfl, rfl, rfl⟩
        refine mm_T.s rfl rfl rfl (fun _ => rfl) ?_
        refine mm_T.s rfl rfl rfl (fun _ => rfl) ?_
        refine mm_T.gf rfl rfl rfl rfl rfl ?_
        refine mm_T.s rfl rfl rfl (fun _ => rfl) ?_
        refine mm_T.ia rfl rfl rfl (mm_bd (by omega) (by decide)) (v := nI e) (by rw [mm_cl (by omega)]; exact he) ?_
        refine mm_T.s rfl rfl rfl (fun _ => if_pos (nI_le (Nat.le_refl _) (by omega))) ?_
        refine mm_T.s rfl rfl rfl (fun _ => rfl) ?_
        refine mm_T.s rfl rfl rfl (fun _ => rfl) ?_
        exact K1 _ _ ⟨_, _, _, _, _, _, _, _, _, nI_1 i, rfl, rfl⟩
    · skip
      rintro _ _ ⟨x, y3, y4, y5, wo2, pv2, fa2, mo2, mi2, rfl, rfl, rfl⟩
      refine mm_T.s rfl rfl rfl (fun _ => rfl) ?_
      refine mm_T.s rfl rfl rfl (fun _ => rfl) ?_
      refine mm_T.gf rfl rfl rfl rfl rfl ?_
      refine mm_T.s rfl rfl rfl (fun _ => if_pos (nI_le (Nat.le_refl _) (by omega))) ?_
      refine mm_T.s rfl rfl rfl (fun _ => rfl) ?_
      exact mm_T.ret rfl rfl rfl (⟨t, _, _, _, _, _, _, _, _, ht, rfl, rfl⟩)

theorem w_ord {pl0 ke0 sz0 se0 gr0 pl1 ke1 sz1 se1 gr1 im ce wo pv fa pm pw fr ba : Nat → Int32} {rw : Nat → Int64} {mo : Int32} {mi : Int64} {ki : Int32} {M : mm_H} {R C : Nat} (hR : R ≤ 48) (hC : C ≤ 48) (hC1 : 1 ≤ C) : mm_TC kM 29 [.ref 14] (kC pl0 ke0 sz0 se0 gr0 pl1 ke1 sz1 se1 gr1 im ce wo pv fa pm pw fr ba rw (nI R) (nI C) mo mi ki M) (fun v h => (∃ x, v = some (.int x)) ∧ ∃ wo' pv' pm' pw' mo' mi' ki', h = (kC pl0 ke0 sz0 se0 gr0 pl1 ke1 sz1 se1 gr1 im ce wo' pv' fa pm' pw' fr ba rw (nI R) (nI C) mo' mi' ki' M)) := by
  refine mm_TC.of (M := kq_29) rfl rfl ?_
  refine mm_T.s rfl rfl rfl (fun _ => rfl) ?_
  refine mm_T.gf rfl rfl rfl rfl rfl ?_
  refine mm_T.s rfl rfl rfl (fun _ => rfl) ?_
  refine mm_T.s rfl rfl rfl (fun _ => rfl) ?_
  refine mm_T.s rfl rfl rfl (fun _ => rfl) ?_
  refine mm_T.s rfl rfl rfl (fun _ => rfl) ?_
  refine mm_T.s rfl rfl rfl (fun _ => rfl) ?_
  refine mm_T.ti (nI (C - 1)) (pk_sub (b := 1) hC1) ?_
  refine mm_T.pfi rfl rfl rfl rfl rfl rfl ?_
  refine mm_T.s rfl rfl rfl (fun _ => rfl) ?_
  refine mm_T.ivw rfl rfl rfl rfl rfl rfl (w_split hR (C := C - 1) (by omega)) ?_
  rintro _ _ ⟨t, wo1, pv1, mi1, pm1, pw1, K, ht, hK, hkd, rfl, rfl⟩
  refine mm_T.s rfl rfl rfl (fun _ => rfl) ?_
  refine mm_T.s rfl rfl rfl (fun _ => rfl) ?_
  refine mm_T.s rfl rfl rfl (fun _ => rfl) ?_
  refine mm_T.pfi rfl rfl rfl rfl rfl rfl ?_
  refine mm_T.s rfl rfl rfl (fun _ => rfl) ?_
  refine mm_T.s rfl rfl rfl (fun _ => rfl) ?_
  refine mm_T.s rfl rfl rfl (fun _ => rfl) ?_
  refine mm_T.ivw rfl rfl rfl rfl rfl rfl (w_elim hR hC (n := 1) (by decide) x_pP) ?_
  rintro _ _ ⟨t2, wo2, pv2, mi2, ht2, hmi2, hpv2, rfl, rfl⟩
  refine mm_T.s rfl rfl rfl (fun _ => rfl) ?_
  refine mm_T.ci rfl rfl (fun hb30 => ?_) (fun hb30 => ?_)
  · skip
    refine mm_T.s rfl rfl rfl (fun _ => rfl) ?_
    refine mm_T.s rfl rfl rfl (fun _ => rfl) ?_
    refine mm_T.s rfl rfl rfl (fun _ => rfl) ?_
    refine mm_T.s rfl rfl rfl (fun _ => rfl) ?_
    refine mm_T.up (n := K) (P := fun i L h => ∃ x3 x4 y5 y6 y7 wo' pv' mo' mi', x4 = nI i ∧ L = [some (.ref 14), some (.int (nI C)), some (.int (nI t)), some (.int x3), some (.int x4), y5, y6, y7] ∧ h = (kC pl0 ke0 sz0 se0 gr0 pl1 ke1 sz1 se1 gr1 im ce wo' pv' fa pm1 pw1 fr ba rw (nI R) (nI C) mo' mi' (nI K) M)) ?_ ?_ 0 (Nat.zero_le _) _ _ ⟨_, _, _, _, _, _, _, _, _, rfl, rfl, rfl⟩
    · skip
      rintro i _ _ hi ⟨x3, x4, y5, y6, y7, wo3, pv3, mo3, mi3, rfl, rfl, rfl⟩ K1
      refine mm_T.s rfl rfl rfl (fun _ => rfl) ?_
      refine mm_T.s rfl rfl rfl (fun _ => rfl) ?_
      refine mm_T.gf rfl rfl rfl rfl rfl ?_
      refine mm_T.s rfl rfl rfl (fun _ => if_neg (nI_ge hi (by omega))) ?_
      refine mm_T.s rfl rfl rfl (fun _ => rfl) ?_
      refine mm_T.s rfl rfl rfl (fun _ => rfl) ?_
      refine mm_T.s rfl rfl rfl (fun _ => rfl) ?_
      refine mm_T.s rfl rfl rfl (fun _ => rfl) ?_
      refine mm_T.ti (nI (C - 1)) (pk_sub (b := 1) hC1) ?_
      refine mm_T.pfi rfl rfl rfl rfl rfl rfl ?_
      refine mm_T.s rfl rfl rfl (fun _ => rfl) ?_
      refine mm_T.s rfl rfl rfl (fun _ => rfl) ?_
      refine mm_T.s rfl rfl rfl (fun _ => rfl) ?_
      refine mm_T.ivw rfl rfl rfl rfl rfl rfl (w_div hR (C := C - 1) (by omega) hK hkd hi _) ?_
      rintro _ _ ⟨⟨wout, rfl⟩, wo4, pv4, mo4, mi4, rfl⟩
      refine mm_T.s rfl rfl rfl (fun _ => rfl) ?_
      refine mm_T.s rfl rfl rfl (fun _ => rfl) ?_
      refine mm_T.s rfl rfl rfl (fun _ => rfl) ?_
      refine mm_T.pfi rfl rfl rfl rfl rfl rfl ?_
      refine mm_T.s rfl rfl rfl (fun _ => rfl) ?_
      refine mm_T.s rfl rfl rfl (fun _ => rfl) ?_
      refine mm_T.s rfl rfl rfl (fun _ => rfl) ?_
      refine mm_T.ivw rfl rfl rfl rfl rfl rfl (w_div hR hC hK hkd hi _) ?_
      rintro _ _ ⟨⟨wi, rfl⟩, wo5, pv5, mo5, mi5, rfl⟩
      refine mm_T.s rfl rfl rfl (fun _ => rfl) ?_
      refine mm_T.s rfl rfl rfl (fun _ => rfl) ?_
      refine mm_T.s rfl rfl rfl (fun _ => rfl) ?_
      refine mm_T.wf (P := fun d L h => ∃ x3 x7 : Int32, d = (wout.toInt - x7.toInt).toNat ∧ L = [some (.ref 14), some (.int (nI C)), some (.int (nI t)), some (.int x3), some (.int (nI i)), some (.int wout), some (.int wi), some (.int x7)] ∧ h = (kC pl0 ke0 sz0 se0 gr0 pl1 ke1 sz1 se1 gr1 im ce wo5 pv5 fa pm1 pw1 fr ba rw (nI R) (nI C) mo5 mi5 (nI K) M)) ?_ (wout.toInt - wi.toInt).toNat _ _ ⟨_, _, rfl, rfl, rfl⟩
      rintro d _ _ ⟨x3, x7, hd, rfl, rfl⟩ K2
      by_cases h7 : x7 < wout
      · have u1 := x_iup h7
        have u2 := Int32.lt_iff_toInt_lt.mp h7
        refine mm_T.s rfl rfl rfl (fun _ => rfl) ?_
        refine mm_T.s rfl rfl rfl (fun _ => rfl) ?_
        refine mm_T.s rfl rfl rfl (fun _ => if_neg (fun q => absurd h7 (Int32.not_lt.mpr q))) ?_
        refine mm_T.s rfl rfl rfl (fun _ => rfl) ?_
        refine mm_T.s rfl rfl rfl (fun _ => rfl) ?_
        refine mm_T.gf rfl rfl rfl rfl rfl ?_
        refine mm_T.s rfl rfl rfl (fun _ => rfl) ?_
        refine mm_T.ia rfl rfl rfl (mm_bd (by omega) (by decide)) rfl ?_
        refine mm_T.s rfl rfl rfl (fun _ => rfl) ?_
        refine mm_T.s rfl rfl rfl (fun _ => rfl) ?_
        refine mm_T.s rfl rfl rfl (fun _ => rfl) ?_
        refine mm_T.s rfl rfl rfl (fun _ => rfl) ?_
        exact K2 ((wout.toInt - (x7 + 1).toInt).toNat) _ _ (by omega) ⟨_, _, rfl, rfl, rfl⟩
      · skip
        refine mm_T.s rfl rfl rfl (fun _ => rfl) ?_
        refine mm_T.s rfl rfl rfl (fun _ => rfl) ?_
        refine mm_T.s rfl rfl rfl (fun _ => if_pos (Int32.not_lt.mp h7)) ?_
        refine mm_T.s rfl rfl rfl (fun _ => rfl) ?_
        refine mm_T.s rfl rfl rfl (fun _ => rfl) ?_
        exact K1 _ _ ⟨_, _, _, _, _, _, _, _, _, nI_1 i, rfl, rfl⟩
    · skip
      rintro _ _ ⟨x3, x4, y5, y6, y7, wo3, pv3, mo3, mi3, rfl, rfl, rfl⟩
      refine mm_T.s rfl rfl rfl (fun _ => rfl) ?_
      refine mm_T.s rfl rfl rfl (fun _ => rfl) ?_
      refine mm_T.gf rfl rfl rfl rfl rfl ?_
      refine mm_T.s rfl rfl rfl (fun _ => if_pos (nI_le (Nat.le_refl _) (by omega))) ?_
      refine mm_T.s rfl rfl rfl (fun _ => rfl) ?_
      exact mm_T.ret rfl rfl rfl (⟨⟨_, rfl⟩, _, _, _, _, _, _, _, rfl⟩)
  · skip
    refine mm_T.s rfl rfl rfl (fun _ => rfl) ?_
    exact mm_T.ret rfl rfl rfl (⟨⟨_, rfl⟩, _, _, _, _, _, _, _, rfl⟩)

theorem w_red {pl0 ke0 sz0 se0 gr0 pl1 ke1 sz1 se1 gr1 im ce wo pv fa pm pw fr ba : Nat → Int32} {rw : Nat → Int64} {ro co mo : Int32} {mi : Int64} {ki : Int32} {M : mm_H} (z : Int64) : mm_TC kM 32 [.ref 21, .long z] (kC pl0 ke0 sz0 se0 gr0 pl1 ke1 sz1 se1 gr1 im ce wo pv fa pm pw fr ba rw ro co mo mi ki M) (fun v h => (∃ x, v = some (.long x)) ∧ h = (kC pl0 ke0 sz0 se0 gr0 pl1 ke1 sz1 se1 gr1 im ce wo pv fa pm pw fr ba rw ro co mo mi ki M)) := by
  refine mm_TC.of (M := kq_32) rfl rfl ?_
  refine mm_T.s rfl rfl rfl (fun _ => rfl) ?_
  refine mm_T.s rfl rfl rfl (fun _ => rfl) ?_
  refine mm_T.s rfl rfl rfl (fun _ => rfl) ?_
  refine mm_T.s rfl rfl rfl (fun _ => rfl) ?_
  refine mm_T.up (n := 24) (P := fun i L h => ∃ (y : Int64) (x : Int32), x = nI i ∧ L = [some (.ref 21), some (.long z), none, some (.long y), none, some (.int x)] ∧ h = (kC pl0 ke0 sz0 se0 gr0 pl1 ke1 sz1 se1 gr1 im ce wo pv fa pm pw fr ba rw ro co mo mi ki M)) ?_ ?_ 0 (Nat.zero_le _) _ _ ⟨_, _, rfl, rfl, rfl⟩
  · skip
    rintro i _ _ hi ⟨y, x, rfl, rfl, rfl⟩ K
    refine mm_T.s rfl rfl rfl (fun _ => rfl) ?_
    refine mm_T.s rfl rfl rfl (fun _ => rfl) ?_
    refine mm_T.s rfl rfl rfl (fun _ => if_neg (nI_ge (b := 24) hi (by decide))) ?_
    refine mm_T.s rfl rfl rfl (fun _ => rfl) ?_
    refine mm_T.s rfl rfl rfl (fun _ => rfl) ?_
    refine mm_T.s rfl rfl rfl (fun _ => rfl) ?_
    refine mm_T.s rfl rfl rfl (fun _ => rfl) ?_
    refine mm_T.s rfl rfl rfl (fun _ => rfl) ?_
    refine mm_T.s rfl rfl rfl (fun _ => rfl) ?_
    refine mm_T.s rfl rfl rfl (fun _ => rfl) ?_
    refine mm_T.cz rfl rfl (fun hb20 => ?_) (fun hb20 => ?_)
    · skip
      refine mm_T.s rfl rfl rfl (fun _ => rfl) ?_
      refine mm_T.s rfl rfl rfl (fun _ => rfl) ?_
      exact K _ _ ⟨_, _, nI_1 i, rfl, rfl⟩
    · skip
      refine mm_T.s rfl rfl rfl (fun _ => rfl) ?_
      refine mm_T.s rfl rfl rfl (fun _ => rfl) ?_
      refine mm_T.gf rfl rfl rfl rfl rfl ?_
      refine mm_T.s rfl rfl rfl (fun _ => rfl) ?_
      refine mm_T.la rfl rfl rfl (mm_bd hi (by decide)) rfl ?_
      refine mm_T.s rfl rfl rfl (fun _ => rfl) ?_
      refine mm_T.s rfl rfl rfl (fun _ => rfl) ?_
      refine mm_T.s rfl rfl rfl (fun _ => rfl) ?_
      refine mm_T.s rfl rfl rfl (fun _ => rfl) ?_
      exact K _ _ ⟨_, _, nI_1 i, rfl, rfl⟩
  · skip
    rintro _ _ ⟨y, x, rfl, rfl, rfl⟩
    refine mm_T.s rfl rfl rfl (fun _ => rfl) ?_
    refine mm_T.s rfl rfl rfl (fun _ => rfl) ?_
    refine mm_T.s rfl rfl rfl (fun _ => rfl) ?_
    refine mm_T.s rfl rfl rfl (fun _ => rfl) ?_
    exact mm_T.ret rfl rfl rfl (⟨⟨_, rfl⟩, rfl⟩)

theorem w_take {pl0 ke0 sz0 se0 gr0 pl1 ke1 sz1 se1 gr1 im ce wo pv fa pm pw fr ba : Nat → Int32} {rw : Nat → Int64} {ro co mo : Int32} {mi : Int64} {ki : Int32} {M : mm_H} (z : Int64) : mm_TC kM 33 [.ref 21, .long z] (kC pl0 ke0 sz0 se0 gr0 pl1 ke1 sz1 se1 gr1 im ce wo pv fa pm pw fr ba rw ro co mo mi ki M) (fun v h => (∃ x, v = some (.int x)) ∧ ∃ rw', h = (kC pl0 ke0 sz0 se0 gr0 pl1 ke1 sz1 se1 gr1 im ce wo pv fa pm pw fr ba rw' ro co mo mi ki M)) := by
  refine mm_TC.of (M := kq_33) rfl rfl ?_
  refine mm_T.s rfl rfl rfl (fun _ => rfl) ?_
  refine mm_T.s rfl rfl rfl (fun _ => rfl) ?_
  refine mm_T.ivw rfl rfl rfl rfl rfl rfl (w_red z) ?_
  rintro _ _ ⟨⟨y, rfl⟩, rfl⟩
  refine mm_T.s rfl rfl rfl (fun _ => rfl) ?_
  refine mm_T.s rfl rfl rfl (fun _ => rfl) ?_
  refine mm_T.s rfl rfl rfl (fun _ => rfl) ?_
  refine mm_T.up (n := 24) (P := fun i L h => ∃ (x : Int32), x = nI i ∧ L = [some (.ref 21), some (.long z), none, some (.long y), none, some (.int x)] ∧ h = (kC pl0 ke0 sz0 se0 gr0 pl1 ke1 sz1 se1 gr1 im ce wo pv fa pm pw fr ba rw ro co mo mi ki M)) ?_ ?_ 0 (Nat.zero_le _) _ _ ⟨_, rfl, rfl, rfl⟩
  · skip
    rintro i _ _ hi ⟨x, rfl, rfl, rfl⟩ K
    refine mm_T.s rfl rfl rfl (fun _ => rfl) ?_
    refine mm_T.s rfl rfl rfl (fun _ => rfl) ?_
    refine mm_T.s rfl rfl rfl (fun _ => if_neg (nI_ge (b := 24) hi (by decide))) ?_
    refine mm_T.s rfl rfl rfl (fun _ => rfl) ?_
    refine mm_T.s rfl rfl rfl (fun _ => rfl) ?_
    refine mm_T.s rfl rfl rfl (fun _ => rfl) ?_
    refine mm_T.s rfl rfl rfl (fun _ => rfl) ?_
    refine mm_T.s rfl rfl rfl (fun _ => rfl) ?_
    refine mm_T.s rfl rfl rfl (fun _ => rfl) ?_
    refine mm_T.s rfl rfl rfl (fun _ => rfl) ?_
    refine mm_T.cz rfl rfl (fun hb24 => ?_) (fun hb24 => ?_)
    · skip
      refine mm_T.s rfl rfl rfl (fun _ => rfl) ?_
      refine mm_T.s rfl rfl rfl (fun _ => rfl) ?_
      exact K _ _ ⟨_, nI_1 i, rfl, rfl⟩
    · skip
      refine mm_T.s rfl rfl rfl (fun _ => rfl) ?_
      refine mm_T.gf rfl rfl rfl rfl rfl ?_
      refine mm_T.s rfl rfl rfl (fun _ => rfl) ?_
      refine mm_T.s rfl rfl rfl (fun _ => rfl) ?_
      refine mm_T.ls rfl rfl rfl (mm_bd hi (by decide)) rfl ?_
      refine mm_T.s rfl rfl rfl (fun _ => rfl) ?_
      exact mm_T.ret rfl rfl rfl (⟨⟨_, rfl⟩, _, rfl⟩)
  · skip
    rintro _ _ ⟨x, rfl, rfl, rfl⟩
    refine mm_T.s rfl rfl rfl (fun _ => rfl) ?_
    refine mm_T.s rfl rfl rfl (fun _ => rfl) ?_
    refine mm_T.s rfl rfl rfl (fun _ => rfl) ?_
    refine mm_T.s rfl rfl rfl (fun _ => rfl) ?_
    exact mm_T.ret rfl rfl rfl (⟨⟨_, rfl⟩, _, rfl⟩)

