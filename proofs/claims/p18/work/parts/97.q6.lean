/-! BETTI NUMBERS MODULO SMALL PRIMES: equal answers -/
theorem x_pv_c {E E' : Nat → Nat → Int} {col : Nat} : ∀ d t, (∀ a, t ≤ a → a < t + d → E a col = E' a col) → x_pv E col d t = x_pv E' col d t
  | 0, _, _ => rfl
  | d + 1, t, h => by
    show (if E t col = 0 then x_pv E col d (t + 1) else t) = (if E' t col = 0 then x_pv E' col d (t + 1) else t)
    rw [h t (Nat.le_refl _) (by omega), x_pv_c d (t + 1) (fun a h1 h2 => h a (by omega) (by omega))]
theorem x_st_c {R C : Nat} {p : Int} {iv : Int → Int} {E E' : Nat → Nat → Int} (h : ∀ a b, a < R → b < C → E a b = E' a b) : ∀ j, j ≤ C → (x_st R p iv E j).2 ≤ R ∧ (x_st R p iv E j).2 = (x_st R p iv E' j).2 ∧ ∀ a b, a < R → b < C → (x_st R p iv E j).1 a b = (x_st R p iv E' j).1 a b
  | 0, _ => ⟨Nat.zero_le _, rfl, h⟩
  | j + 1, hj => by
    obtain ⟨i1, i2, i3⟩ := x_st_c (p := p) (iv := iv) h j (by omega)
    have hr := x_pv_R (x_st R p iv E j) i1 j
    have ep : x_pv (x_st R p iv E j).1 j (R - (x_st R p iv E j).2) (x_st R p iv E j).2 = x_pv (x_st R p iv E' j).1 j (R - (x_st R p iv E' j).2) (x_st R p iv E' j).2 := by
      rw [← i2]
      exact x_pv_c _ _ (fun a h1 h2 => i3 a j (by omega) (by omega))
    show (x_s1 R p iv j (x_st R p iv E j)).2 ≤ R ∧ (x_s1 R p iv j (x_st R p iv E j)).2 = (x_s1 R p iv j (x_st R p iv E' j)).2 ∧ ∀ a b, a < R → b < C → (x_s1 R p iv j (x_st R p iv E j)).1 a b = (x_s1 R p iv j (x_st R p iv E' j)).1 a b
    unfold x_s1
    rw [← ep]
    by_cases c : x_pv (x_st R p iv E j).1 j (R - (x_st R p iv E j).2) (x_st R p iv E j).2 < R
    · rw [if_pos c, if_pos c]
      refine ⟨by show (x_st R p iv E j).2 + 1 ≤ R; omega, by show (x_st R p iv E j).2 + 1 = (x_st R p iv E' j).2 + 1; omega, fun a b ha hb => ?_⟩
      have hg : ∀ a b, a < R → b < C → (x_st R p iv E j).1 (x_tw (x_st R p iv E j).2 (x_pv (x_st R p iv E j).1 j (R - (x_st R p iv E j).2) (x_st R p iv E j).2) a) b = (x_st R p iv E' j).1 (x_tw (x_st R p iv E' j).2 (x_pv (x_st R p iv E j).1 j (R - (x_st R p iv E j).2) (x_st R p iv E j).2) a) b := fun a b ha hb => by
        rw [← i2]
        exact i3 _ b (x_tw_lt (by omega) c ha) hb
      have h5 := hg (x_st R p iv E j).2 j (by omega) (by omega)
      have h6 := hg (x_st R p iv E j).2 b (by omega) hb
      simp only [x_el]
      rw [hg a b ha hb, hg a j ha (by omega), h5, h6, i2]
    · rw [if_neg c, if_neg c]
      exact ⟨i1, i2, i3⟩
/-- the inverse that the counter finds -/
def x_ivP (p : Int32) (x : Int) : Int := (x_icv p (Int32.ofInt x)).toInt
/-- the rank of a boundary modulo p -/
def x_rk (pl se : Nat → Int32) (p : Int32) (k : Int32) : Nat := (x_st (x_m pl (k - 1)) p.toInt (x_ivP p) (fun r j => (x_sf (se ((k.toNatClampNeg - 1) * 24 + r)) (se (k.toNatClampNeg * 24 + j))).toInt % p.toInt) (x_m pl k)).2
def x_bv (pl se : Nat → Int32) (p : Int32) (k : Int32) : Int32 := nI (x_m pl k) - nI (x_rk pl se p k) - nI (x_rk pl se p (k + 1))
theorem x_rk_eq {pl se : Nat → Int32} {p k : Int32} {E : Nat → Nat → Int} (h : ∀ kk, kk + 1 < 4 → k = nI (kk + 1) → ∀ r j, r < x_ct pl kk 255 → j < x_ct pl (kk + 1) 255 → E r j = (x_sf (se (kk * 24 + r)) (se ((kk + 1) * 24 + j))).toInt % p.toInt) : (x_st (x_m pl (k - 1)) p.toInt (x_ivP p) E (x_m pl k)).2 = x_rk pl se p k := by
  refine (x_st_c (fun r j hr hj => ?_) _ (Nat.le_refl _)).2.1
  obtain ⟨a, ha, rfl, em⟩ := x_m_pos hj
  obtain ⟨a', ha', ea, em'⟩ := x_m_pos hr
  have e0 : 1 ≤ a := by
    rcases Nat.eq_zero_or_pos a with q | q
    · subst q
      exact absurd (ea.symm.trans (show nI 0 - 1 = -1 from rfl)) (x_nm1 (by omega))
    · exact q
  obtain ⟨kk, rfl⟩ : ∃ kk, a = kk + 1 := ⟨a - 1, by omega⟩
  have e1 : nI (kk + 1) - 1 = nI kk := x_n1 (a := kk + 1) (by omega)
  have e2 : a' = kk := (nI_eq (by omega) (by omega)).mp (ea.symm.trans e1)
  rw [em] at hj
  rw [em', e2] at hr
  rw [mm_cl (by omega), Nat.add_sub_cancel]
  exact h kk ha rfl r j hr hj
/-- primes at which both sides find the same inverses -/
def x_GP (p : Int32) : Prop := (0 < p.toInt ∧ p.toInt < 2 ^ 31) ∧ x_IC p (x_ivP p) ∧ x_IM p.toInt64 (x_ivP p) ∧ ∀ x, 0 < x → x < p.toInt → x_ivP p x * x % p.toInt = 1 % p.toInt
theorem x_gpT : ([2, 3, 5, 7, 11, 13].all fun P => (List.range P).all fun x => decide (x = 0) || (decide ((x_fcv (nI P).toInt64 (nI x).toInt64).toInt = (x_icv (nI P) (nI x)).toInt) && decide (0 ≤ (x_icv (nI P) (nI x)).toInt) && decide ((x_icv (nI P) (nI x)).toInt < (P : Int)) && decide ((x_icv (nI P) (nI x)).toInt * (x : Int) % (P : Int) = 1 % (P : Int)))) = true := by decide +kernel
theorem x_ofI {n : Nat} (h : n < 2 ^ 31) : Int32.ofInt (n : Int) = nI n := by
  apply Int32.toInt_inj.mp
  rw [nI_toInt h, Int32.toInt_ofInt, show Int32.size = 4294967296 from rfl]
  exact Int.bmod_eq_of_le (by omega) (by omega)
theorem x_gp {P : Nat} (hP : P ∈ [2, 3, 5, 7, 11, 13]) : x_GP (nI P) := by
  have hb : 2 ≤ P ∧ P ≤ 13 := by
    simp only [List.mem_cons, List.not_mem_nil, or_false] at hP
    omega
  have ep : (nI P).toInt = (P : Int) := nI_toInt (by omega)
  have h0 := List.all_eq_true.mp x_gpT P hP
  have h1 : ∀ x, 0 < x → x < P → ((x_fcv (nI P).toInt64 (nI x).toInt64).toInt = (x_icv (nI P) (nI x)).toInt ∧ 0 ≤ (x_icv (nI P) (nI x)).toInt) ∧ (x_icv (nI P) (nI x)).toInt < (P : Int) ∧ (x_icv (nI P) (nI x)).toInt * (x : Int) % (P : Int) = 1 % (P : Int) := fun x hx0 hx => by
    have h2 := List.all_eq_true.mp h0 x (List.mem_range.mpr hx)
    simp only [Bool.or_eq_true, Bool.and_eq_true, decide_eq_true_eq] at h2
    rcases h2 with h2 | h2
    · omega
    · exact ⟨h2.1.1, h2.1.2, h2.2⟩
  have hv : ∀ x : Nat, x < P → x_ivP (nI P) (x : Int) = (x_icv (nI P) (nI x)).toInt := fun x hx => by
    unfold x_ivP
    rw [x_ofI (by omega)]
  refine ⟨by rw [ep]; omega, fun x g1 g2 => ?_, fun x g1 g2 => ?_, fun x g1 g2 => ?_⟩
  · rw [ep] at g2 ⊢
    obtain ⟨n, hn⟩ : ∃ n : Nat, x.toInt = (n : Int) := ⟨x.toInt.toNat, by omega⟩
    have ex : x = nI n := Int32.toInt_inj.mp (by rw [nI_toInt (by omega), hn])
    have z := h1 n (by omega) (by omega)
    rw [hn, hv n (by omega), ex]
    exact ⟨rfl, z.1.2, z.2.1⟩
  · rw [x_i64, ep] at g2
    rw [x_i64, ep]
    obtain ⟨n, hn⟩ : ∃ n : Nat, x.toInt = (n : Int) := ⟨x.toInt.toNat, by omega⟩
    have ex : x = (nI n).toInt64 := Int64.toInt_inj.mp (by rw [x_i64, nI_toInt (by omega), hn])
    have z := h1 n (by omega) (by omega)
    rw [hn, hv n (by omega), ex]
    exact ⟨z.1.1, z.1.2, z.2.1⟩
  · rw [ep] at g2 ⊢
    obtain ⟨n, rfl⟩ : ∃ n : Nat, x = (n : Int) := ⟨x.toNat, by omega⟩
    rw [hv n (by omega)]
    exact (h1 n (by omega) (by omega)).2.2
theorem q_lb0 {pl0 ke0 sz0 se0 gr0 pl1 ke1 sz1 se1 gr1 im ce wo pv fa pm pw fr ba : Nat → Int32} {rw : Nat → Int64} {ro co mo : Int32} {mi : Int64} {ki : Int32} {M : mm_H} (hI : x_CI pl0 sz0 se0) {kk : Nat} (hk : kk + 1 < 4) : mm_TC kM 59 [.ref 0, .ref 1, .int (nI (kk + 1))] (kC pl0 ke0 sz0 se0 gr0 pl1 ke1 sz1 se1 gr1 im ce wo pv fa pm pw fr ba rw ro co mo mi ki M) (fun v h => v = none ∧ ∃ ce1, (∀ r j, r < x_ct pl0 kk 255 → j < x_ct pl0 (kk + 1) 255 → ce1 (r * 48 + j) = x_sf (se0 (kk * 24 + r)) (se0 ((kk + 1) * 24 + j))) ∧ h = (kC pl0 ke0 sz0 se0 gr0 pl1 ke1 sz1 se1 gr1 im ce1 wo pv fa pm pw fr ba rw (nI (x_m pl0 (nI (kk + 1) - 1))) (nI (x_m pl0 (nI (kk + 1)))) mo mi ki M)) := by
  have h1 := x_m_le hI (nI (kk + 1))
  have h2 := x_m_le hI (nI (kk + 1) - 1)
  have e1 : x_m pl0 (nI (kk + 1) - 1) = x_ct pl0 kk 255 := by rw [x_n1 (a := kk + 1) (by omega)]; exact x_m_a (by omega)
  have e2 : x_m pl0 (nI (kk + 1)) = x_ct pl0 (kk + 1) 255 := x_m_a hk
  refine mm_TC.of (M := kq_59) rfl rfl ?_
  refine mm_T.s rfl rfl rfl (fun _ => rfl) ?_
  refine mm_T.gf rfl rfl rfl rfl rfl ?_
  refine mm_T.s rfl rfl rfl (fun _ => rfl) ?_
  refine mm_T.s rfl rfl rfl (fun _ => rfl) ?_
  refine mm_T.s rfl rfl rfl (fun _ => rfl) ?_
  refine mm_T.s rfl rfl rfl (fun _ => rfl) ?_
  refine mm_T.iv rfl rfl rfl rfl rfl rfl (v_sz0 hI _) ?_
  refine mm_T.ti (nI (x_m pl0 (nI (kk + 1) - 1))) rfl ?_
  refine mm_T.s rfl rfl rfl (fun _ => rfl) ?_
  refine mm_T.s rfl rfl rfl (fun _ => rfl) ?_
  refine mm_T.iv rfl rfl rfl rfl rfl rfl (v_sz0 hI _) ?_
  refine mm_T.ivw rfl rfl rfl rfl rfl rfl (q_shape (by omega) (by omega)) ?_
  rintro _ _ ⟨rfl, ce1, hz1, rfl⟩
  refine mm_T.s rfl rfl rfl (fun _ => rfl) ?_
  refine mm_T.s rfl rfl rfl (fun _ => rfl) ?_
  refine mm_T.s rfl rfl rfl (fun _ => rfl) ?_
  refine mm_T.s rfl rfl rfl (fun _ => rfl) ?_
  refine mm_T.s rfl rfl rfl (fun _ => rfl) ?_
  refine mm_T.ivw rfl rfl rfl rfl rfl rfl (q_wb0 hI hk (a := 0) (b := 0) (by omega) (by omega) (fun r j hr hj => (by rw [Nat.zero_add, Nat.zero_add]; exact hz1 r j (by omega) (by omega)))) ?_
  rintro _ _ ⟨rfl, ce2, hb2, -, rfl⟩
  have hb3 : ∀ r j, r < x_ct pl0 kk 255 → j < x_ct pl0 (kk + 1) 255 → ce2 (r * 48 + j) = x_sf (se0 (kk * 24 + r)) (se0 ((kk + 1) * 24 + j)) := fun r j hr hj => (by
    have z := hb2 r j hr hj
    rw [Nat.zero_add, Nat.zero_add] at z
    exact z)
  exact mm_T.ret rfl rfl rfl (⟨rfl, _, hb3, rfl⟩)
theorem q_br0 {pl0 ke0 sz0 se0 gr0 pl1 ke1 sz1 se1 gr1 im ce wo pv fa pm pw fr ba : Nat → Int32} {rw : Nat → Int64} {ro co mo : Int32} {mi : Int64} {ki : Int32} {M : mm_H} (hI : x_CI pl0 sz0 se0) {p : Int32} (hp : x_GP p) (k : Int32) : mm_TC kM 58 [.ref 0, .ref 1, .int k, .int p] (kC pl0 ke0 sz0 se0 gr0 pl1 ke1 sz1 se1 gr1 im ce wo pv fa pm pw fr ba rw ro co mo mi ki M) (fun v h => v = some (.int (nI (x_rk pl0 se0 p k))) ∧ ∃ ce1 wo1 pv1 ro1 co1 mo1 mi1, h = (kC pl0 ke0 sz0 se0 gr0 pl1 ke1 sz1 se1 gr1 im ce1 wo1 pv1 fa pm pw fr ba rw ro1 co1 mo1 mi1 ki M)) := by
  have h1 := x_m_le hI k
  have h2 := x_m_le hI (k - 1)
  refine mm_TC.of (M := kq_58) rfl rfl ?_
  by_cases hk : ∃ kk, kk + 1 < 4 ∧ k = nI (kk + 1)
  · obtain ⟨kk, hk4, rfl⟩ := hk
    refine mm_T.s rfl rfl rfl (fun _ => rfl) ?_
    refine mm_T.s rfl rfl rfl (fun _ => rfl) ?_
    refine mm_T.s rfl rfl rfl (fun _ => rfl) ?_
    refine mm_T.ivw rfl rfl rfl rfl rfl rfl (q_lb0 hI hk4) ?_
    rintro _ _ ⟨rfl, ce1, hb1, rfl⟩
    refine mm_T.s rfl rfl rfl (fun _ => rfl) ?_
    refine mm_T.gf rfl rfl rfl rfl rfl ?_
    refine mm_T.s rfl rfl rfl (fun _ => rfl) ?_
    refine mm_T.s rfl rfl rfl (fun _ => rfl) ?_
    refine mm_T.ivw rfl rfl rfl rfl rfl rfl (q_elim (by omega) (by omega) hp.1.1 hp.2.1 hp.2.2.2) ?_
    rintro _ _ ⟨rfl, wo2, pv2, mi2, rfl⟩
    have er := x_rk_eq (pl := pl0) (se := se0) (p := p) (k := nI (kk + 1)) (E := fun a b => (ce1 (a * 48 + b)).toInt % p.toInt) (fun k9 h9 e9 r j hr hj => (by
      have e : k9 = kk := by
        have := (nI_eq (by omega) (by omega)).mp e9
        omega
      subst e
      show (ce1 (r * 48 + j)).toInt % p.toInt = _
      rw [hb1 r j hr hj]))
    exact mm_T.ret rfl rfl rfl (⟨by rw [er], _, _, _, _, _, _, _, rfl⟩)
  · skip
    refine mm_T.s rfl rfl rfl (fun _ => rfl) ?_
    refine mm_T.s rfl rfl rfl (fun _ => rfl) ?_
    refine mm_T.s rfl rfl rfl (fun _ => rfl) ?_
    refine mm_T.ivw rfl rfl rfl rfl rfl rfl (w_lb0 hI k) ?_
    rintro _ _ ⟨rfl, ce1, rfl⟩
    refine mm_T.s rfl rfl rfl (fun _ => rfl) ?_
    refine mm_T.gf rfl rfl rfl rfl rfl ?_
    refine mm_T.s rfl rfl rfl (fun _ => rfl) ?_
    refine mm_T.s rfl rfl rfl (fun _ => rfl) ?_
    refine mm_T.ivw rfl rfl rfl rfl rfl rfl (q_elim (by omega) (by omega) hp.1.1 hp.2.1 hp.2.2.2) ?_
    rintro _ _ ⟨rfl, wo2, pv2, mi2, rfl⟩
    have er := x_rk_eq (pl := pl0) (se := se0) (p := p) (k := k) (E := fun a b => (ce1 (a * 48 + b)).toInt % p.toInt) (fun k9 h9 e9 r j hr hj => absurd ⟨k9, h9, e9⟩ hk)
    exact mm_T.ret rfl rfl rfl (⟨by rw [er], _, _, _, _, _, _, _, rfl⟩)
theorem q_ih0 {pl0 ke0 sz0 se0 gr0 pl1 ke1 sz1 se1 gr1 im ce wo pv fa pm pw fr ba : Nat → Int32} {rw : Nat → Int64} {ro co mo : Int32} {mi : Int64} {ki : Int32} {M : mm_H} (hI : x_CI pl0 sz0 se0) {p : Int32} (hp : x_GP p) {k : Int32} (k0 : ¬ k < 0) (k4 : ¬ 4 ≤ k) : mm_TC kM 57 [.ref 0, .int 0, .int k, .int p] (kC pl0 ke0 sz0 se0 gr0 pl1 ke1 sz1 se1 gr1 im ce wo pv fa pm pw fr ba rw ro co mo mi ki M) (fun v h => v = some (.int (x_bv pl0 se0 p k)) ∧ x_GR pl0 ke0 sz0 se0 gr0 pl1 ke1 sz1 se1 gr1 im M h) := by
  refine mm_TC.of (M := kq_57) rfl rfl ?_
  refine mm_T.s rfl rfl rfl (fun _ => rfl) ?_
  refine mm_T.s rfl rfl rfl (fun _ => rfl) ?_
  refine mm_T.iv rfl rfl rfl rfl rfl rfl v_cx0 ?_
  refine mm_T.s rfl rfl rfl (fun _ => rfl) ?_
  refine mm_T.s rfl rfl rfl (fun _ => rfl) ?_
  refine mm_T.s rfl rfl rfl (fun _ => rfl) ?_
  refine mm_T.s rfl rfl rfl (fun _ => rfl) ?_
  refine mm_T.ic rfl rfl rfl rfl rfl (z_isD1 k0 k4) ?_
  refine mm_T.s rfl rfl rfl (fun _ => rfl) ?_
  refine mm_T.s rfl rfl rfl (fun _ => rfl) ?_
  refine mm_T.s rfl rfl rfl (fun _ => rfl) ?_
  refine mm_T.iv rfl rfl rfl rfl rfl rfl (v_sz0 hI k) ?_
  refine mm_T.s rfl rfl rfl (fun _ => rfl) ?_
  refine mm_T.s rfl rfl rfl (fun _ => rfl) ?_
  refine mm_T.s rfl rfl rfl (fun _ => rfl) ?_
  refine mm_T.s rfl rfl rfl (fun _ => rfl) ?_
  refine mm_T.ivw rfl rfl rfl rfl rfl rfl (q_br0 hI hp k) ?_
  rintro _ _ ⟨rfl, ce1, wo1, pv1, ro1, co1, mo1, mi1, rfl⟩
  refine mm_T.s rfl rfl rfl (fun _ => rfl) ?_
  refine mm_T.s rfl rfl rfl (fun _ => rfl) ?_
  refine mm_T.s rfl rfl rfl (fun _ => rfl) ?_
  refine mm_T.s rfl rfl rfl (fun _ => rfl) ?_
  refine mm_T.s rfl rfl rfl (fun _ => rfl) ?_
  refine mm_T.s rfl rfl rfl (fun _ => rfl) ?_
  refine mm_T.s rfl rfl rfl (fun _ => rfl) ?_
  refine mm_T.ivw rfl rfl rfl rfl rfl rfl (q_br0 hI hp (k + 1)) ?_
  rintro _ _ ⟨rfl, ce2, wo2, pv2, ro2, co2, mo2, mi2, rfl⟩
  refine mm_T.s rfl rfl rfl (fun _ => rfl) ?_
  exact mm_T.ret rfl rfl rfl (⟨rfl, ⟨_, _, _, _, _, _, _, _, _, _, _, _, _, _, rfl⟩⟩)
theorem q_lb1 {pl0 ke0 sz0 se0 gr0 pl1 ke1 sz1 se1 gr1 im ce wo pv fa pm pw fr ba : Nat → Int32} {rw : Nat → Int64} {ro co mo : Int32} {mi : Int64} {ki : Int32} {M : mm_H} (hI : x_CI pl1 sz1 se1) {kk : Nat} (hk : kk + 1 < 4) : mm_TC kM 59 [.ref 0, .ref 7, .int (nI (kk + 1))] (kC pl0 ke0 sz0 se0 gr0 pl1 ke1 sz1 se1 gr1 im ce wo pv fa pm pw fr ba rw ro co mo mi ki M) (fun v h => v = none ∧ ∃ ce1, (∀ r j, r < x_ct pl1 kk 255 → j < x_ct pl1 (kk + 1) 255 → ce1 (r * 48 + j) = x_sf (se1 (kk * 24 + r)) (se1 ((kk + 1) * 24 + j))) ∧ h = (kC pl0 ke0 sz0 se0 gr0 pl1 ke1 sz1 se1 gr1 im ce1 wo pv fa pm pw fr ba rw (nI (x_m pl1 (nI (kk + 1) - 1))) (nI (x_m pl1 (nI (kk + 1)))) mo mi ki M)) := by
  have h1 := x_m_le hI (nI (kk + 1))
  have h2 := x_m_le hI (nI (kk + 1) - 1)
  have e1 : x_m pl1 (nI (kk + 1) - 1) = x_ct pl1 kk 255 := by rw [x_n1 (a := kk + 1) (by omega)]; exact x_m_a (by omega)
  have e2 : x_m pl1 (nI (kk + 1)) = x_ct pl1 (kk + 1) 255 := x_m_a hk
  refine mm_TC.of (M := kq_59) rfl rfl ?_
  refine mm_T.s rfl rfl rfl (fun _ => rfl) ?_
  refine mm_T.gf rfl rfl rfl rfl rfl ?_
  refine mm_T.s rfl rfl rfl (fun _ => rfl) ?_
  refine mm_T.s rfl rfl rfl (fun _ => rfl) ?_
  refine mm_T.s rfl rfl rfl (fun _ => rfl) ?_
  refine mm_T.s rfl rfl rfl (fun _ => rfl) ?_
  refine mm_T.iv rfl rfl rfl rfl rfl rfl (v_sz1 hI _) ?_
  refine mm_T.ti (nI (x_m pl1 (nI (kk + 1) - 1))) rfl ?_
  refine mm_T.s rfl rfl rfl (fun _ => rfl) ?_
  refine mm_T.s rfl rfl rfl (fun _ => rfl) ?_
  refine mm_T.iv rfl rfl rfl rfl rfl rfl (v_sz1 hI _) ?_
  refine mm_T.ivw rfl rfl rfl rfl rfl rfl (q_shape (by omega) (by omega)) ?_
  rintro _ _ ⟨rfl, ce1, hz1, rfl⟩
  refine mm_T.s rfl rfl rfl (fun _ => rfl) ?_
  refine mm_T.s rfl rfl rfl (fun _ => rfl) ?_
  refine mm_T.s rfl rfl rfl (fun _ => rfl) ?_
  refine mm_T.s rfl rfl rfl (fun _ => rfl) ?_
  refine mm_T.s rfl rfl rfl (fun _ => rfl) ?_
  refine mm_T.ivw rfl rfl rfl rfl rfl rfl (q_wb1 hI hk (a := 0) (b := 0) (by omega) (by omega) (fun r j hr hj => (by rw [Nat.zero_add, Nat.zero_add]; exact hz1 r j (by omega) (by omega)))) ?_
  rintro _ _ ⟨rfl, ce2, hb2, -, rfl⟩
  have hb3 : ∀ r j, r < x_ct pl1 kk 255 → j < x_ct pl1 (kk + 1) 255 → ce2 (r * 48 + j) = x_sf (se1 (kk * 24 + r)) (se1 ((kk + 1) * 24 + j)) := fun r j hr hj => (by
    have z := hb2 r j hr hj
    rw [Nat.zero_add, Nat.zero_add] at z
    exact z)
  exact mm_T.ret rfl rfl rfl (⟨rfl, _, hb3, rfl⟩)
theorem q_br1 {pl0 ke0 sz0 se0 gr0 pl1 ke1 sz1 se1 gr1 im ce wo pv fa pm pw fr ba : Nat → Int32} {rw : Nat → Int64} {ro co mo : Int32} {mi : Int64} {ki : Int32} {M : mm_H} (hI : x_CI pl1 sz1 se1) {p : Int32} (hp : x_GP p) (k : Int32) : mm_TC kM 58 [.ref 0, .ref 7, .int k, .int p] (kC pl0 ke0 sz0 se0 gr0 pl1 ke1 sz1 se1 gr1 im ce wo pv fa pm pw fr ba rw ro co mo mi ki M) (fun v h => v = some (.int (nI (x_rk pl1 se1 p k))) ∧ ∃ ce1 wo1 pv1 ro1 co1 mo1 mi1, h = (kC pl0 ke0 sz0 se0 gr0 pl1 ke1 sz1 se1 gr1 im ce1 wo1 pv1 fa pm pw fr ba rw ro1 co1 mo1 mi1 ki M)) := by
  have h1 := x_m_le hI k
  have h2 := x_m_le hI (k - 1)
  refine mm_TC.of (M := kq_58) rfl rfl ?_
  by_cases hk : ∃ kk, kk + 1 < 4 ∧ k = nI (kk + 1)
  · obtain ⟨kk, hk4, rfl⟩ := hk
    refine mm_T.s rfl rfl rfl (fun _ => rfl) ?_
    refine mm_T.s rfl rfl rfl (fun _ => rfl) ?_
    refine mm_T.s rfl rfl rfl (fun _ => rfl) ?_
    refine mm_T.ivw rfl rfl rfl rfl rfl rfl (q_lb1 hI hk4) ?_
    rintro _ _ ⟨rfl, ce1, hb1, rfl⟩
    refine mm_T.s rfl rfl rfl (fun _ => rfl) ?_
    refine mm_T.gf rfl rfl rfl rfl rfl ?_
    refine mm_T.s rfl rfl rfl (fun _ => rfl) ?_
    refine mm_T.s rfl rfl rfl (fun _ => rfl) ?_
    refine mm_T.ivw rfl rfl rfl rfl rfl rfl (q_elim (by omega) (by omega) hp.1.1 hp.2.1 hp.2.2.2) ?_
    rintro _ _ ⟨rfl, wo2, pv2, mi2, rfl⟩
    have er := x_rk_eq (pl := pl1) (se := se1) (p := p) (k := nI (kk + 1)) (E := fun a b => (ce1 (a * 48 + b)).toInt % p.toInt) (fun k9 h9 e9 r j hr hj => (by
      have e : k9 = kk := by
        have := (nI_eq (by omega) (by omega)).mp e9
        omega
      subst e
      show (ce1 (r * 48 + j)).toInt % p.toInt = _
      rw [hb1 r j hr hj]))
    exact mm_T.ret rfl rfl rfl (⟨by rw [er], _, _, _, _, _, _, _, rfl⟩)
  · skip
    refine mm_T.s rfl rfl rfl (fun _ => rfl) ?_
    refine mm_T.s rfl rfl rfl (fun _ => rfl) ?_
    refine mm_T.s rfl rfl rfl (fun _ => rfl) ?_
    refine mm_T.ivw rfl rfl rfl rfl rfl rfl (w_lb1 hI k) ?_
    rintro _ _ ⟨rfl, ce1, rfl⟩
    refine mm_T.s rfl rfl rfl (fun _ => rfl) ?_
    refine mm_T.gf rfl rfl rfl rfl rfl ?_
    refine mm_T.s rfl rfl rfl (fun _ => rfl) ?_
    refine mm_T.s rfl rfl rfl (fun _ => rfl) ?_
    refine mm_T.ivw rfl rfl rfl rfl rfl rfl (q_elim (by omega) (by omega) hp.1.1 hp.2.1 hp.2.2.2) ?_
    rintro _ _ ⟨rfl, wo2, pv2, mi2, rfl⟩
    have er := x_rk_eq (pl := pl1) (se := se1) (p := p) (k := k) (E := fun a b => (ce1 (a * 48 + b)).toInt % p.toInt) (fun k9 h9 e9 r j hr hj => absurd ⟨k9, h9, e9⟩ hk)
    exact mm_T.ret rfl rfl rfl (⟨by rw [er], _, _, _, _, _, _, _, rfl⟩)
theorem q_ih1 {pl0 ke0 sz0 se0 gr0 pl1 ke1 sz1 se1 gr1 im ce wo pv fa pm pw fr ba : Nat → Int32} {rw : Nat → Int64} {ro co mo : Int32} {mi : Int64} {ki : Int32} {M : mm_H} (hI : x_CI pl1 sz1 se1) {p : Int32} (hp : x_GP p) {k : Int32} (k0 : ¬ k < 0) (k4 : ¬ 4 ≤ k) : mm_TC kM 57 [.ref 0, .int 1, .int k, .int p] (kC pl0 ke0 sz0 se0 gr0 pl1 ke1 sz1 se1 gr1 im ce wo pv fa pm pw fr ba rw ro co mo mi ki M) (fun v h => v = some (.int (x_bv pl1 se1 p k)) ∧ x_GR pl0 ke0 sz0 se0 gr0 pl1 ke1 sz1 se1 gr1 im M h) := by
  refine mm_TC.of (M := kq_57) rfl rfl ?_
  refine mm_T.s rfl rfl rfl (fun _ => rfl) ?_
  refine mm_T.s rfl rfl rfl (fun _ => rfl) ?_
  refine mm_T.iv rfl rfl rfl rfl rfl rfl v_cx1 ?_
  refine mm_T.s rfl rfl rfl (fun _ => rfl) ?_
  refine mm_T.s rfl rfl rfl (fun _ => rfl) ?_
  refine mm_T.s rfl rfl rfl (fun _ => rfl) ?_
  refine mm_T.s rfl rfl rfl (fun _ => rfl) ?_
  refine mm_T.ic rfl rfl rfl rfl rfl (z_isD1 k0 k4) ?_
  refine mm_T.s rfl rfl rfl (fun _ => rfl) ?_
  refine mm_T.s rfl rfl rfl (fun _ => rfl) ?_
  refine mm_T.s rfl rfl rfl (fun _ => rfl) ?_
  refine mm_T.iv rfl rfl rfl rfl rfl rfl (v_sz1 hI k) ?_
  refine mm_T.s rfl rfl rfl (fun _ => rfl) ?_
  refine mm_T.s rfl rfl rfl (fun _ => rfl) ?_
  refine mm_T.s rfl rfl rfl (fun _ => rfl) ?_
  refine mm_T.s rfl rfl rfl (fun _ => rfl) ?_
  refine mm_T.ivw rfl rfl rfl rfl rfl rfl (q_br1 hI hp k) ?_
  rintro _ _ ⟨rfl, ce1, wo1, pv1, ro1, co1, mo1, mi1, rfl⟩
  refine mm_T.s rfl rfl rfl (fun _ => rfl) ?_
  refine mm_T.s rfl rfl rfl (fun _ => rfl) ?_
  refine mm_T.s rfl rfl rfl (fun _ => rfl) ?_
  refine mm_T.s rfl rfl rfl (fun _ => rfl) ?_
  refine mm_T.s rfl rfl rfl (fun _ => rfl) ?_
  refine mm_T.s rfl rfl rfl (fun _ => rfl) ?_
  refine mm_T.s rfl rfl rfl (fun _ => rfl) ?_
  refine mm_T.ivw rfl rfl rfl rfl rfl rfl (q_br1 hI hp (k + 1)) ?_
  rintro _ _ ⟨rfl, ce2, wo2, pv2, ro2, co2, mo2, mi2, rfl⟩
  refine mm_T.s rfl rfl rfl (fun _ => rfl) ?_
  exact mm_T.ret rfl rfl rfl (⟨rfl, ⟨_, _, _, _, _, _, _, _, _, _, _, _, _, _, rfl⟩⟩)
theorem q_ihD {pl0 ke0 sz0 se0 gr0 pl1 ke1 sz1 se1 gr1 im ce wo pv fa pm pw fr ba : Nat → Int32} {rw : Nat → Int64} {ro co mo : Int32} {mi : Int64} {ki : Int32} {M : mm_H} {c k p : Int32} (hc : c = 0 ∨ c = 1) (hk : k < 0 ∨ 4 ≤ k) : mm_TC kM 57 [.ref 0, .int c, .int k, .int p] (kC pl0 ke0 sz0 se0 gr0 pl1 ke1 sz1 se1 gr1 im ce wo pv fa pm pw fr ba rw ro co mo mi ki M) (fun v h => v = some (.int (-1)) ∧ x_GR pl0 ke0 sz0 se0 gr0 pl1 ke1 sz1 se1 gr1 im M h) := by
  refine mm_TC.of (M := kq_57) rfl rfl ?_
  rcases hc with rfl | rfl
  · skip
    refine mm_T.s rfl rfl rfl (fun _ => rfl) ?_
    refine mm_T.s rfl rfl rfl (fun _ => rfl) ?_
    refine mm_T.iv rfl rfl rfl rfl rfl rfl v_cx0 ?_
    refine mm_T.s rfl rfl rfl (fun _ => rfl) ?_
    refine mm_T.s rfl rfl rfl (fun _ => rfl) ?_
    refine mm_T.s rfl rfl rfl (fun _ => rfl) ?_
    refine mm_T.s rfl rfl rfl (fun _ => rfl) ?_
    refine mm_T.ic rfl rfl rfl rfl rfl (z_isD0 hk) ?_
    refine mm_T.s rfl rfl rfl (fun _ => rfl) ?_
    refine mm_T.s rfl rfl rfl (fun _ => rfl) ?_
    exact mm_T.ret rfl rfl rfl (⟨rfl, ⟨_, _, _, _, _, _, _, _, _, _, _, _, _, _, rfl⟩⟩)
  · skip
    refine mm_T.s rfl rfl rfl (fun _ => rfl) ?_
    refine mm_T.s rfl rfl rfl (fun _ => rfl) ?_
    refine mm_T.iv rfl rfl rfl rfl rfl rfl v_cx1 ?_
    refine mm_T.s rfl rfl rfl (fun _ => rfl) ?_
    refine mm_T.s rfl rfl rfl (fun _ => rfl) ?_
    refine mm_T.s rfl rfl rfl (fun _ => rfl) ?_
    refine mm_T.s rfl rfl rfl (fun _ => rfl) ?_
    refine mm_T.ic rfl rfl rfl rfl rfl (z_isD0 hk) ?_
    refine mm_T.s rfl rfl rfl (fun _ => rfl) ?_
    refine mm_T.s rfl rfl rfl (fun _ => rfl) ?_
    exact mm_T.ret rfl rfl rfl (⟨rfl, ⟨_, _, _, _, _, _, _, _, _, _, _, _, _, _, rfl⟩⟩)
theorem q_ihN {pl0 ke0 sz0 se0 gr0 pl1 ke1 sz1 se1 gr1 im ce wo pv fa pm pw fr ba : Nat → Int32} {rw : Nat → Int64} {ro co mo : Int32} {mi : Int64} {ki : Int32} {M : mm_H} {c k p : Int32} (hc : ¬ (c = 0 ∨ c = 1)) : mm_TC kM 57 [.ref 0, .int c, .int k, .int p] (kC pl0 ke0 sz0 se0 gr0 pl1 ke1 sz1 se1 gr1 im ce wo pv fa pm pw fr ba rw ro co mo mi ki M) (fun v h => v = some (.int (-1)) ∧ x_GR pl0 ke0 sz0 se0 gr0 pl1 ke1 sz1 se1 gr1 im M h) := by
  refine mm_TC.of (M := kq_57) rfl rfl ?_
  refine mm_T.s rfl rfl rfl (fun _ => rfl) ?_
  refine mm_T.s rfl rfl rfl (fun _ => rfl) ?_
  refine mm_T.iv rfl rfl rfl rfl rfl rfl (v_cxN hc) ?_
  refine mm_T.s rfl rfl rfl (fun _ => rfl) ?_
  refine mm_T.s rfl rfl rfl (fun _ => rfl) ?_
  refine mm_T.s rfl rfl rfl (fun _ => rfl) ?_
  refine mm_T.s rfl rfl rfl (fun _ => rfl) ?_
  exact mm_T.ret rfl rfl rfl (⟨rfl, ⟨_, _, _, _, _, _, _, _, _, _, _, _, _, _, rfl⟩⟩)
theorem q_bm {pl0 ke0 sz0 se0 gr0 pl1 ke1 sz1 se1 gr1 im ce wo pv fa pm pw fr ba : Nat → Int32} {rw : Nat → Int64} {ro co mo : Int32} {mi : Int64} {ki : Int32} {M : mm_H} {c k : Int32} {P : Nat} (hP : P ∈ [2, 3, 5, 7, 11, 13]) {w : Int32} (hE : mm_TC kM 57 [.ref 0, .int c, .int k, .int (nI P)] (kC pl0 ke0 sz0 se0 gr0 pl1 ke1 sz1 se1 gr1 im ce wo pv fa pm pw fr ba rw ro co mo mi ki M) (fun v h => v = some (.int w) ∧ x_GR pl0 ke0 sz0 se0 gr0 pl1 ke1 sz1 se1 gr1 im M h)) : mm_TC kM 42 [.ref 0, .int c, .int k, .int (nI P)] (kC pl0 ke0 sz0 se0 gr0 pl1 ke1 sz1 se1 gr1 im ce wo pv fa pm pw fr ba rw ro co mo mi ki M) (fun v h => v = some (.int w) ∧ x_GR pl0 ke0 sz0 se0 gr0 pl1 ke1 sz1 se1 gr1 im M h) := by
  refine mm_TC.of (M := kq_42) rfl rfl ?_
  have hP2 : P = 2 ∨ P = 3 ∨ P = 5 ∨ P = 7 ∨ P = 11 ∨ P = 13 := by simpa only [List.mem_cons, List.not_mem_nil, or_false] using hP
  rcases hP2 with rfl | rfl | rfl | rfl | rfl | rfl
  · skip
    refine mm_T.s rfl rfl rfl (fun _ => rfl) ?_
    refine mm_T.s rfl rfl rfl (fun _ => rfl) ?_
    refine mm_T.s rfl rfl rfl (fun _ => rfl) ?_
    refine mm_T.s rfl rfl rfl (fun _ => rfl) ?_
    refine mm_T.s rfl rfl rfl (fun _ => rfl) ?_
    refine mm_T.s rfl rfl rfl (fun _ => rfl) ?_
    refine mm_T.s rfl rfl rfl (fun _ => rfl) ?_
    refine mm_T.ivw rfl rfl rfl rfl rfl rfl hE ?_
    rintro _ _ ⟨rfl, hG⟩
    exact mm_T.ret rfl rfl rfl (⟨rfl, hG⟩)
  · skip
    refine mm_T.s rfl rfl rfl (fun _ => rfl) ?_
    refine mm_T.s rfl rfl rfl (fun _ => rfl) ?_
    refine mm_T.s rfl rfl rfl (fun _ => rfl) ?_
    refine mm_T.s rfl rfl rfl (fun _ => rfl) ?_
    refine mm_T.s rfl rfl rfl (fun _ => rfl) ?_
    refine mm_T.s rfl rfl rfl (fun _ => rfl) ?_
    refine mm_T.s rfl rfl rfl (fun _ => rfl) ?_
    refine mm_T.s rfl rfl rfl (fun _ => rfl) ?_
    refine mm_T.s rfl rfl rfl (fun _ => rfl) ?_
    refine mm_T.s rfl rfl rfl (fun _ => rfl) ?_
    refine mm_T.ivw rfl rfl rfl rfl rfl rfl hE ?_
    rintro _ _ ⟨rfl, hG⟩
    exact mm_T.ret rfl rfl rfl (⟨rfl, hG⟩)
  · skip
    refine mm_T.s rfl rfl rfl (fun _ => rfl) ?_
    refine mm_T.s rfl rfl rfl (fun _ => rfl) ?_
    refine mm_T.s rfl rfl rfl (fun _ => rfl) ?_
    refine mm_T.s rfl rfl rfl (fun _ => rfl) ?_
    refine mm_T.s rfl rfl rfl (fun _ => rfl) ?_
    refine mm_T.s rfl rfl rfl (fun _ => rfl) ?_
    refine mm_T.s rfl rfl rfl (fun _ => rfl) ?_
    refine mm_T.s rfl rfl rfl (fun _ => rfl) ?_
    refine mm_T.s rfl rfl rfl (fun _ => rfl) ?_
    refine mm_T.s rfl rfl rfl (fun _ => rfl) ?_
    refine mm_T.s rfl rfl rfl (fun _ => rfl) ?_
    refine mm_T.s rfl rfl rfl (fun _ => rfl) ?_
    refine mm_T.s rfl rfl rfl (fun _ => rfl) ?_
    refine mm_T.ivw rfl rfl rfl rfl rfl rfl hE ?_
    rintro _ _ ⟨rfl, hG⟩
    exact mm_T.ret rfl rfl rfl (⟨rfl, hG⟩)
  · skip
    refine mm_T.s rfl rfl rfl (fun _ => rfl) ?_
    refine mm_T.s rfl rfl rfl (fun _ => rfl) ?_
    refine mm_T.s rfl rfl rfl (fun _ => rfl) ?_
    refine mm_T.s rfl rfl rfl (fun _ => rfl) ?_
    refine mm_T.s rfl rfl rfl (fun _ => rfl) ?_
    refine mm_T.s rfl rfl rfl (fun _ => rfl) ?_
    refine mm_T.s rfl rfl rfl (fun _ => rfl) ?_
    refine mm_T.s rfl rfl rfl (fun _ => rfl) ?_
    refine mm_T.s rfl rfl rfl (fun _ => rfl) ?_
    refine mm_T.s rfl rfl rfl (fun _ => rfl) ?_
    refine mm_T.s rfl rfl rfl (fun _ => rfl) ?_
    refine mm_T.s rfl rfl rfl (fun _ => rfl) ?_
    refine mm_T.s rfl rfl rfl (fun _ => rfl) ?_
    refine mm_T.s rfl rfl rfl (fun _ => rfl) ?_
    refine mm_T.s rfl rfl rfl (fun _ => rfl) ?_
    refine mm_T.s rfl rfl rfl (fun _ => rfl) ?_
    refine mm_T.ivw rfl rfl rfl rfl rfl rfl hE ?_
    rintro _ _ ⟨rfl, hG⟩
    exact mm_T.ret rfl rfl rfl (⟨rfl, hG⟩)
  · skip
    refine mm_T.s rfl rfl rfl (fun _ => rfl) ?_
    refine mm_T.s rfl rfl rfl (fun _ => rfl) ?_
    refine mm_T.s rfl rfl rfl (fun _ => rfl) ?_
    refine mm_T.s rfl rfl rfl (fun _ => rfl) ?_
    refine mm_T.s rfl rfl rfl (fun _ => rfl) ?_
    refine mm_T.s rfl rfl rfl (fun _ => rfl) ?_
    refine mm_T.s rfl rfl rfl (fun _ => rfl) ?_
    refine mm_T.s rfl rfl rfl (fun _ => rfl) ?_
    refine mm_T.s rfl rfl rfl (fun _ => rfl) ?_
    refine mm_T.s rfl rfl rfl (fun _ => rfl) ?_
    refine mm_T.s rfl rfl rfl (fun _ => rfl) ?_
    refine mm_T.s rfl rfl rfl (fun _ => rfl) ?_
    refine mm_T.s rfl rfl rfl (fun _ => rfl) ?_
    refine mm_T.s rfl rfl rfl (fun _ => rfl) ?_
    refine mm_T.s rfl rfl rfl (fun _ => rfl) ?_
    refine mm_T.s rfl rfl rfl (fun _ => rfl) ?_
    refine mm_T.s rfl rfl rfl (fun _ => rfl) ?_
    refine mm_T.s rfl rfl rfl (fun _ => rfl) ?_
    refine mm_T.s rfl rfl rfl (fun _ => rfl) ?_
    refine mm_T.ivw rfl rfl rfl rfl rfl rfl hE ?_
    rintro _ _ ⟨rfl, hG⟩
    exact mm_T.ret rfl rfl rfl (⟨rfl, hG⟩)
  · skip
    refine mm_T.s rfl rfl rfl (fun _ => rfl) ?_
    refine mm_T.s rfl rfl rfl (fun _ => rfl) ?_
    refine mm_T.s rfl rfl rfl (fun _ => rfl) ?_
    refine mm_T.s rfl rfl rfl (fun _ => rfl) ?_
    refine mm_T.s rfl rfl rfl (fun _ => rfl) ?_
    refine mm_T.s rfl rfl rfl (fun _ => rfl) ?_
    refine mm_T.s rfl rfl rfl (fun _ => rfl) ?_
    refine mm_T.s rfl rfl rfl (fun _ => rfl) ?_
    refine mm_T.s rfl rfl rfl (fun _ => rfl) ?_
    refine mm_T.s rfl rfl rfl (fun _ => rfl) ?_
    refine mm_T.s rfl rfl rfl (fun _ => rfl) ?_
    refine mm_T.s rfl rfl rfl (fun _ => rfl) ?_
    refine mm_T.s rfl rfl rfl (fun _ => rfl) ?_
    refine mm_T.s rfl rfl rfl (fun _ => rfl) ?_
    refine mm_T.s rfl rfl rfl (fun _ => rfl) ?_
    refine mm_T.s rfl rfl rfl (fun _ => rfl) ?_
    refine mm_T.s rfl rfl rfl (fun _ => rfl) ?_
    refine mm_T.s rfl rfl rfl (fun _ => rfl) ?_
    refine mm_T.s rfl rfl rfl (fun _ => rfl) ?_
    refine mm_T.s rfl rfl rfl (fun _ => rfl) ?_
    refine mm_T.s rfl rfl rfl (fun _ => rfl) ?_
    refine mm_T.s rfl rfl rfl (fun _ => rfl) ?_
    refine mm_T.ivw rfl rfl rfl rfl rfl rfl hE ?_
    rintro _ _ ⟨rfl, hG⟩
    exact mm_T.ret rfl rfl rfl (⟨rfl, hG⟩)
theorem x_BM_E {pl ke has kp sz se : Nat → Int32} {n : Nat} (h : x_J1 pl ke has kp n) (hI : x_CI pl sz se) {k : Int32} {ma : Nat → Int64} (hB : x_BM has n k ma) {p : Int32} : (x_st (x_mn has n (k - 1) 255) p.toInt (x_ivP p) (fun a b => (ma (48 * a + b)).toInt % p.toInt) (x_mn has n k 255)).2 = x_rk pl se p k := by
  rw [h.m hI, h.m hI]
  obtain ⟨ma0, -, hB1, -⟩ := hB
  refine x_rk_eq (fun kk hk ek r j hr hj => ?_)
  obtain ⟨q, a1, a2, a3, a4, a5, a6⟩ := hI.set (k := kk) (by omega) hr
  obtain ⟨s, b1, b2, b3, b4, b5, b6⟩ := hI.set hk hj
  have e1 : k - 1 = nI kk := by rw [ek]; exact x_n1 (a := kk + 1) (by omega)
  have z := hB1 q s a1 (by omega) ((h.cd a2 _).mpr ⟨a5, by rw [e1]; exact a4⟩) b1 (by omega) ((h.cd b2 _).mpr ⟨b5, by rw [ek]; exact b4⟩)
  rw [e1, ek, h.mn kk (q - 1) (by omega), h.mn (kk + 1) (s - 1) (by omega), a6, b6, Nat.zero_add, Nat.zero_add] at z
  show (ma (48 * r + j)).toInt % p.toInt = _
  rw [z, x_i64, a3, b3, x_sgf b2 (x_sz_dm hI b1 b2 b5) a1 a2]
theorem m_bmE {c : Nat → mm_C} {has ke f cy sp e1 e2 e3 : Nat → Int32} {ma wo dv : Nat → Int64} {ro co di tr : Int32} {pl kc sz se : Nat → Int32} (hI : x_MI has) {n : Nat} (hn : n < 2) (hJ : x_J1 pl kc has ke n) (hC : x_CI pl sz se) {P : Nat} (hP : P ∈ [2, 3, 5, 7, 11, 13]) {k : Int32} (k0 : ¬ k < 0) (k3 : ¬ 3 < k) : mm_TC kM 88 [.ref 25, .int (nI n), .int k, .int (nI P)] (kD c has ke f ma wo dv cy sp e1 e2 e3 ro co di tr) (fun v h => v = some (.int (x_bv pl se (nI P) k)) ∧ x_GM c has ke f h) := by
  have a1 := hI n hn k
  have a2 := hI n hn (k - 1)
  have a3 := hI n hn (k + 1)
  have a4 := hI n hn (k + 1 - 1)
  have hp := x_gp hP
  have hb : nI n = 0 ∨ nI n = 1 := by
    have : n = 0 ∨ n = 1 := by omega
    rcases this with rfl | rfl
    · exact Or.inl rfl
    · exact Or.inr rfl
  have q1 : 0 < (nI P).toInt64.toInt := by rw [x_i64]; exact hp.1.1
  have q2 : (nI P).toInt64.toInt < 2 ^ 31 := by rw [x_i64]; exact hp.1.2
  have q4 : ∀ x, 0 < x → x < (nI P).toInt64.toInt → x_ivP (nI P) x * x % (nI P).toInt64.toInt = 1 % (nI P).toInt64.toInt := by rw [x_i64]; exact hp.2.2.2
  refine mm_TC.of (M := kq_88) rfl rfl ?_
  have hP2 : P = 2 ∨ P = 3 ∨ P = 5 ∨ P = 7 ∨ P = 11 ∨ P = 13 := by simpa only [List.mem_cons, List.not_mem_nil, or_false] using hP
  have key : mm_T kM none 88 38 [some (.ref 25), some (.int (nI n)), some (.int k), some (.int (nI P)), none, none] [.int 1] (kD c has ke f ma wo dv cy sp e1 e2 e3 ro co di tr) (fun v h => v = some (.int (x_bv pl se (nI P) k)) ∧ x_GM c has ke f h) := by
    refine mm_T.s rfl rfl rfl (fun _ => rfl) ?_
    refine mm_T.s rfl rfl rfl (fun _ => rfl) ?_
    refine mm_T.ic rfl rfl rfl rfl rfl (x_isC1 hb) ?_
    refine mm_T.s rfl rfl rfl (fun _ => rfl) ?_
    refine mm_T.s rfl rfl rfl (fun _ => rfl) ?_
    refine mm_T.ic rfl rfl rfl rfl rfl (x_isD1 k0 k3) ?_
    refine mm_T.s rfl rfl rfl (fun _ => rfl) ?_
    refine mm_T.s rfl rfl rfl (fun _ => rfl) ?_
    refine mm_T.s rfl rfl rfl (fun _ => rfl) ?_
    refine mm_T.s rfl rfl rfl (fun _ => rfl) ?_
    refine mm_T.s rfl rfl rfl (fun _ => rfl) ?_
    refine mm_T.s rfl rfl rfl (fun _ => rfl) ?_
    refine mm_T.ivw rfl rfl rfl rfl rfl rfl (m_bo hI hn k) ?_
    rintro _ _ ⟨rfl, ma1, hB1, rfl⟩
    refine mm_T.s rfl rfl rfl (fun _ => rfl) ?_
    refine mm_T.s rfl rfl rfl (fun _ => rfl) ?_
    refine mm_T.s rfl rfl rfl (fun _ => rfl) ?_
    refine mm_T.ivw rfl rfl rfl rfl rfl rfl (m_rmE (by omega) (by omega) q1 q2 hp.2.2.1 q4) ?_
    rintro _ _ ⟨rfl, wo1, rfl⟩
    have er1 := x_BM_E hJ hC hB1 (p := nI P)
    rw [x_i64, er1]
    refine mm_T.s rfl rfl rfl (fun _ => rfl) ?_
    refine mm_T.s rfl rfl rfl (fun _ => rfl) ?_
    refine mm_T.s rfl rfl rfl (fun _ => rfl) ?_
    refine mm_T.s rfl rfl rfl (fun _ => rfl) ?_
    refine mm_T.s rfl rfl rfl (fun _ => rfl) ?_
    refine mm_T.s rfl rfl rfl (fun _ => rfl) ?_
    refine mm_T.ivw rfl rfl rfl rfl rfl rfl (m_bo hI hn (k + 1)) ?_
    rintro _ _ ⟨rfl, ma2, hB2, rfl⟩
    refine mm_T.s rfl rfl rfl (fun _ => rfl) ?_
    refine mm_T.s rfl rfl rfl (fun _ => rfl) ?_
    refine mm_T.s rfl rfl rfl (fun _ => rfl) ?_
    refine mm_T.iv rfl rfl rfl rfl rfl rfl (g_many rfl rfl hn k) ?_
    refine mm_T.s rfl rfl rfl (fun _ => rfl) ?_
    refine mm_T.s rfl rfl rfl (fun _ => rfl) ?_
    refine mm_T.s rfl rfl rfl (fun _ => rfl) ?_
    refine mm_T.s rfl rfl rfl (fun _ => rfl) ?_
    refine mm_T.s rfl rfl rfl (fun _ => rfl) ?_
    refine mm_T.ivw rfl rfl rfl rfl rfl rfl (m_rmE (by omega) (by omega) q1 q2 hp.2.2.1 q4) ?_
    rintro _ _ ⟨rfl, wo2, rfl⟩
    have er2 := x_BM_E hJ hC hB2 (p := nI P)
    rw [x_i64, er2, hJ.m hC]
    refine mm_T.s rfl rfl rfl (fun _ => rfl) ?_
    exact mm_T.ret rfl rfl rfl (⟨rfl, _, _, _, _, _, _, _, _, _, _, _, _, rfl⟩)
  rcases hP2 with rfl | rfl | rfl | rfl | rfl | rfl
  · skip
    refine mm_T.s rfl rfl rfl (fun _ => rfl) ?_
    refine mm_T.s rfl rfl rfl (fun _ => rfl) ?_
    refine mm_T.s rfl rfl rfl (fun _ => rfl) ?_
    refine mm_T.s rfl rfl rfl (fun _ => rfl) ?_
    refine mm_T.s rfl rfl rfl (fun _ => rfl) ?_
    exact key
  · skip
    refine mm_T.s rfl rfl rfl (fun _ => rfl) ?_
    refine mm_T.s rfl rfl rfl (fun _ => rfl) ?_
    refine mm_T.s rfl rfl rfl (fun _ => rfl) ?_
    refine mm_T.s rfl rfl rfl (fun _ => rfl) ?_
    refine mm_T.s rfl rfl rfl (fun _ => rfl) ?_
    refine mm_T.s rfl rfl rfl (fun _ => rfl) ?_
    refine mm_T.s rfl rfl rfl (fun _ => rfl) ?_
    refine mm_T.s rfl rfl rfl (fun _ => rfl) ?_
    exact key
  · skip
    refine mm_T.s rfl rfl rfl (fun _ => rfl) ?_
    refine mm_T.s rfl rfl rfl (fun _ => rfl) ?_
    refine mm_T.s rfl rfl rfl (fun _ => rfl) ?_
    refine mm_T.s rfl rfl rfl (fun _ => rfl) ?_
    refine mm_T.s rfl rfl rfl (fun _ => rfl) ?_
    refine mm_T.s rfl rfl rfl (fun _ => rfl) ?_
    refine mm_T.s rfl rfl rfl (fun _ => rfl) ?_
    refine mm_T.s rfl rfl rfl (fun _ => rfl) ?_
    refine mm_T.s rfl rfl rfl (fun _ => rfl) ?_
    refine mm_T.s rfl rfl rfl (fun _ => rfl) ?_
    refine mm_T.s rfl rfl rfl (fun _ => rfl) ?_
    exact key
  · skip
    refine mm_T.s rfl rfl rfl (fun _ => rfl) ?_
    refine mm_T.s rfl rfl rfl (fun _ => rfl) ?_
    refine mm_T.s rfl rfl rfl (fun _ => rfl) ?_
    refine mm_T.s rfl rfl rfl (fun _ => rfl) ?_
    refine mm_T.s rfl rfl rfl (fun _ => rfl) ?_
    refine mm_T.s rfl rfl rfl (fun _ => rfl) ?_
    refine mm_T.s rfl rfl rfl (fun _ => rfl) ?_
    refine mm_T.s rfl rfl rfl (fun _ => rfl) ?_
    refine mm_T.s rfl rfl rfl (fun _ => rfl) ?_
    refine mm_T.s rfl rfl rfl (fun _ => rfl) ?_
    refine mm_T.s rfl rfl rfl (fun _ => rfl) ?_
    refine mm_T.s rfl rfl rfl (fun _ => rfl) ?_
    refine mm_T.s rfl rfl rfl (fun _ => rfl) ?_
    refine mm_T.s rfl rfl rfl (fun _ => rfl) ?_
    exact key
  · skip
    refine mm_T.s rfl rfl rfl (fun _ => rfl) ?_
    refine mm_T.s rfl rfl rfl (fun _ => rfl) ?_
    refine mm_T.s rfl rfl rfl (fun _ => rfl) ?_
    refine mm_T.s rfl rfl rfl (fun _ => rfl) ?_
    refine mm_T.s rfl rfl rfl (fun _ => rfl) ?_
    refine mm_T.s rfl rfl rfl (fun _ => rfl) ?_
    refine mm_T.s rfl rfl rfl (fun _ => rfl) ?_
    refine mm_T.s rfl rfl rfl (fun _ => rfl) ?_
    refine mm_T.s rfl rfl rfl (fun _ => rfl) ?_
    refine mm_T.s rfl rfl rfl (fun _ => rfl) ?_
    refine mm_T.s rfl rfl rfl (fun _ => rfl) ?_
    refine mm_T.s rfl rfl rfl (fun _ => rfl) ?_
    refine mm_T.s rfl rfl rfl (fun _ => rfl) ?_
    refine mm_T.s rfl rfl rfl (fun _ => rfl) ?_
    refine mm_T.s rfl rfl rfl (fun _ => rfl) ?_
    refine mm_T.s rfl rfl rfl (fun _ => rfl) ?_
    refine mm_T.s rfl rfl rfl (fun _ => rfl) ?_
    exact key
  · skip
    refine mm_T.s rfl rfl rfl (fun _ => rfl) ?_
    refine mm_T.s rfl rfl rfl (fun _ => rfl) ?_
    refine mm_T.s rfl rfl rfl (fun _ => rfl) ?_
    refine mm_T.s rfl rfl rfl (fun _ => rfl) ?_
    refine mm_T.s rfl rfl rfl (fun _ => rfl) ?_
    refine mm_T.s rfl rfl rfl (fun _ => rfl) ?_
    refine mm_T.s rfl rfl rfl (fun _ => rfl) ?_
    refine mm_T.s rfl rfl rfl (fun _ => rfl) ?_
    refine mm_T.s rfl rfl rfl (fun _ => rfl) ?_
    refine mm_T.s rfl rfl rfl (fun _ => rfl) ?_
    refine mm_T.s rfl rfl rfl (fun _ => rfl) ?_
    refine mm_T.s rfl rfl rfl (fun _ => rfl) ?_
    refine mm_T.s rfl rfl rfl (fun _ => rfl) ?_
    refine mm_T.s rfl rfl rfl (fun _ => rfl) ?_
    refine mm_T.s rfl rfl rfl (fun _ => rfl) ?_
    refine mm_T.s rfl rfl rfl (fun _ => rfl) ?_
    refine mm_T.s rfl rfl rfl (fun _ => rfl) ?_
    refine mm_T.s rfl rfl rfl (fun _ => rfl) ?_
    refine mm_T.s rfl rfl rfl (fun _ => rfl) ?_
    refine mm_T.s rfl rfl rfl (fun _ => rfl) ?_
    exact key
