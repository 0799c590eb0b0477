/-! A COMPLEX AS IT SHOULD BE -/
def x_CI (pl sz se : Nat → Int32) : Prop := (∀ k, k < 4 → sz k = nI (x_ct pl k 255) ∧ x_ct pl k 255 ≤ 24) ∧ (∀ q, 1 ≤ q → q < 256 → ¬ pl q = -1 → ∃ k, k < 4 ∧ x_dm (nI q) = nI k ∧ pl q = nI (x_ct pl k (q - 1)) ∧ se (k * 24 + x_ct pl k (q - 1)) = nI q) ∧ (∀ q p, 1 ≤ q → q < 256 → ¬ pl q = -1 → 1 ≤ p → p < 256 → x_A q p → ¬ pl p = -1) ∧ pl 0 = -1
theorem x_ct_sur (pl : Nat → Int32) (k : Nat) : ∀ (t j : Nat), j < x_ct pl k t → ∃ q, 1 ≤ q ∧ q ≤ t ∧ ¬ pl q = -1 ∧ x_dm (nI q) = nI k ∧ x_ct pl k (q - 1) = j
  | 0, j, h => absurd h (Nat.not_lt_zero j)
  | t + 1, j, h => by
    by_cases c : ¬ pl (t + 1) = -1 ∧ x_dm (nI (t + 1)) = nI k
    · rw [show x_ct pl k (t + 1) = x_ct pl k t + 1 from if_pos c] at h
      by_cases e : j = x_ct pl k t
      · exact ⟨t + 1, by omega, Nat.le_refl _, c.1, c.2, e.symm⟩
      · obtain ⟨q, h1, h2, h3⟩ := x_ct_sur pl k t j (by omega)
        exact ⟨q, h1, by omega, h3⟩
    · rw [show x_ct pl k (t + 1) = x_ct pl k t from if_neg c] at h
      obtain ⟨q, h1, h2, h3⟩ := x_ct_sur pl k t j h
      exact ⟨q, h1, by omega, h3⟩
theorem x_ct_lt {pl : Nat → Int32} {k q t : Nat} (h1 : 1 ≤ q) (h2 : q ≤ t) (h3 : ¬ pl q = -1) (h4 : x_dm (nI q) = nI k) : x_ct pl k (q - 1) < x_ct pl k t := by
  obtain ⟨p, rfl⟩ : ∃ p, q = p + 1 := ⟨q - 1, by omega⟩
  have e : x_ct pl k (p + 1) = x_ct pl k p + 1 := if_pos ⟨h3, h4⟩
  have z := x_ct_le pl k (t - (p + 1)) (p + 1)
  rw [show p + 1 + (t - (p + 1)) = t by omega] at z
  show x_ct pl k p < _
  omega
theorem x_CI.sz {pl sz se : Nat → Int32} (h : x_CI pl sz se) {k : Nat} (hk : k < 4) : sz k = nI (x_ct pl k 255) := (h.1 k hk).1
theorem x_CI.le {pl sz se : Nat → Int32} (h : x_CI pl sz se) {k : Nat} (hk : k < 4) : x_ct pl k 255 ≤ 24 := (h.1 k hk).2
theorem x_CI.set {pl sz se : Nat → Int32} (h : x_CI pl sz se) {k j : Nat} (hk : k < 4) (hj : j < x_ct pl k 255) : ∃ q, 1 ≤ q ∧ q < 256 ∧ se (k * 24 + j) = nI q ∧ x_dm (nI q) = nI k ∧ ¬ pl q = -1 ∧ x_ct pl k (q - 1) = j := by
  obtain ⟨q, h1, h2, h3, h4, h5⟩ := x_ct_sur pl k 255 j hj
  obtain ⟨k', h6, h7, h8, h9⟩ := h.2.1 q h1 (by omega) h3
  have e : k' = k := (nI_eq (by omega) (by omega)).mp (h7.symm.trans h4)
  subst e
  rw [h5] at h9
  exact ⟨q, h1, by omega, h9, h4, h3, h5⟩
theorem x_CI.pl {pl sz se : Nat → Int32} (h : x_CI pl sz se) {q : Nat} (h1 : 1 ≤ q) (h2 : q < 256) (h3 : ¬ pl q = -1) : ∃ j, j < 24 ∧ pl q = nI j := by
  obtain ⟨k, h6, h7, h8, h9⟩ := h.2.1 q h1 h2 h3
  have a := x_ct_lt (t := 255) h1 (by omega) h3 h7
  have b := h.le h6
  exact ⟨_, by omega, h8⟩
/-- how many of a dimension, whatever it is -/
def x_m (pl : Nat → Int32) (k : Int32) : Nat := if ¬ k < 0 ∧ ¬ 4 ≤ k then x_ct pl k.toNatClampNeg 255 else 0
theorem x_m_a {pl : Nat → Int32} {a : Nat} (h : a < 4) : x_m pl (nI a) = x_ct pl a 255 := by
  unfold x_m
  rw [if_pos ⟨nI_pos (by omega), nI_ge (b := 4) h (by decide)⟩, mm_cl (by omega)]
theorem x_m_cases (pl : Nat → Int32) (k : Int32) : (∃ a, a < 4 ∧ k = nI a ∧ x_m pl k = x_ct pl a 255) ∨ x_m pl k = 0 := by
  by_cases c : ¬ k < 0 ∧ ¬ 4 ≤ k
  · obtain ⟨j, hj, rfl⟩ := nI_of2 (x := k) (M := 3) (n := 3) rfl c.1 (Int32.not_lt.mp (fun q => c.2 (x_34 q)))
    exact Or.inl ⟨j, by omega, rfl, x_m_a (by omega)⟩
  · exact Or.inr (if_neg c)
theorem x_m_le {pl sz se : Nat → Int32} (h : x_CI pl sz se) (k : Int32) : x_m pl k ≤ 24 := by
  rcases x_m_cases pl k with ⟨a, ha, -, e⟩ | e
  · rw [e]
    exact h.le ha
  · omega
theorem x_m_pos {pl : Nat → Int32} {k : Int32} {i : Nat} (h : i < x_m pl k) : ∃ a, a < 4 ∧ k = nI a ∧ x_m pl k = x_ct pl a 255 := by
  rcases x_m_cases pl k with h1 | h1
  · exact h1
  · omega
/-- a set without a vertex -/
def x_fv (q v : Nat) : Int32 := nI q &&& (((1 : Int32) <<< (nI v &&& 31)) ^^^ (Int32.ofInt (-1)))
theorem x_fvT : ((List.range 256).all fun q => (List.range 8).all fun v => decide (x_fv q v = nI q) || (decide (x_fv q v = nI (x_fv q v).toNatClampNeg) && decide ((x_fv q v).toNatClampNeg < 256) && decide (x_A q (x_fv q v).toNatClampNeg) && (decide (1 ≤ (x_fv q v).toNatClampNeg) || decide (x_dm (nI q) = 0)))) = true := by decide +kernel
theorem x_fv_ok {q v : Nat} (hq : q < 256) (hv : v < 8) (h : ¬ x_fv q v = nI q) (hd : ¬ x_dm (nI q) = 0) : ∃ f, 1 ≤ f ∧ f < 256 ∧ x_A q f ∧ x_fv q v = nI f := by
  have h1 := List.all_eq_true.mp (List.all_eq_true.mp x_fvT q (List.mem_range.mpr hq)) v (List.mem_range.mpr hv)
  simp only [Bool.or_eq_true, Bool.and_eq_true, decide_eq_true_eq] at h1
  rcases h1 with h1 | ⟨⟨⟨h1, h2⟩, h3⟩, h4⟩
  · exact absurd h1 h
  · exact ⟨_, h4.resolve_right hd, h2, h3, h1⟩
theorem x_and {q : Nat} (hq : q < 256) (y : Int32) : ∃ j, j < 256 ∧ nI q &&& y = nI j := by
  refine ⟨q &&& y.toBitVec.toNat, Nat.lt_of_le_of_lt Nat.and_le_left hq, ?_⟩
  apply Int32.toBitVec_inj.mp
  apply BitVec.eq_of_toNat_eq
  have h1 : q &&& y.toBitVec.toNat < 2 ^ 32 := Nat.lt_of_le_of_lt Nat.and_le_left (by omega)
  rw [pk_tn h1, Int32.toBitVec_and, BitVec.toNat_and, pk_tn (by omega)]
/-- what the counter holds after calls that only reckon -/
def x_GR (pl0 ke0 sz0 se0 gr0 pl1 ke1 sz1 se1 gr1 im : Nat → Int32) (M : mm_H) (h : mm_H) : Prop := ∃ (ce wo pv fa pm pw fr ba : Nat → Int32) (rw : Nat → Int64) (ro co mo : Int32) (mi : Int64) (ki : Int32), h = kC pl0 ke0 sz0 se0 gr0 pl1 ke1 sz1 se1 gr1 im ce wo pv fa pm pw fr ba rw ro co mo mi ki M
