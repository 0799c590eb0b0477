/-! SPANS: tables of triangles and their edges -/
def t_b (q : Nat) : Nat := (nI q &&& (nI q - 1)).toNatClampNeg
def t_m (q : Nat) : Nat := (nI (t_b q) &&& -(nI (t_b q))).toNatClampNeg
def t_f (q : Nat) : Nat := (nI q &&& (2 * nI (t_m q) - 1)).toNatClampNeg
def t_l (q : Nat) : Nat := q - t_m q
abbrev t_ok (q e : Nat) : Prop := 1 ≤ e ∧ e < 256 ∧ x_A q e ∧ x_sz8 (nI e) 8 = 2
abbrev t_P (q : Nat) : Prop := nI q &&& (nI q - 1) = nI (t_b q) ∧ nI (t_b q) &&& -(nI (t_b q)) = nI (t_m q) ∧ nI q &&& (2 * nI (t_m q) - 1) = nI (t_f q) ∧ t_ok q (t_f q) ∧ t_ok q (t_b q) ∧ t_ok q (t_l q) ∧ t_f q ≠ t_b q ∧ t_f q ≠ t_l q ∧ t_b q ≠ t_l q
theorem t_T1 : ((List.range 256).all fun q => !(decide (x_sz8 (nI q) 8 = 3)) || decide (t_P q)) = true := by decide +kernel
theorem t_T2 : ((List.range 256).all fun q => !(decide (x_sz8 (nI q) 8 = 3)) || ((List.range 256).all fun e => !(decide (x_sz8 (nI e) 8 = 2)) || decide ((nI q &&& nI e = nI e) ↔ (e = t_f q ∨ e = t_b q ∨ e = t_l q)))) = true := by decide +kernel
abbrev t_Q (q a b : Nat) : Prop := q - 2 ^ b = t_f q ∧ q - 2 ^ a = t_b q ∧ 2 ^ a + 2 ^ b = t_l q
theorem t_T3 : ((List.range 256).all fun q => !(decide (x_sz8 (nI q) 8 = 3)) || ((List.range 8).all fun a => (List.range 8).all fun b => !(decide (x_lh q a b)) || decide (t_Q q a b))) = true := by decide +kernel
theorem t_p {q : Nat} (hq : q < 256) (h3 : x_sz8 (nI q) 8 = 3) : t_P q := by
  have h1 := List.all_eq_true.mp t_T1 q (List.mem_range.mpr hq)
  rcases Bool.or_eq_true _ _ ▸ h1 with z | z
  · rw [decide_eq_true h3] at z
    cases z
  · exact of_decide_eq_true z
theorem t_c {q e : Nat} (hq : q < 256) (h3 : x_sz8 (nI q) 8 = 3) (he : e < 256) (h2 : x_sz8 (nI e) 8 = 2) : (nI q &&& nI e = nI e) ↔ (e = t_f q ∨ e = t_b q ∨ e = t_l q) := by
  have h1 := List.all_eq_true.mp t_T2 q (List.mem_range.mpr hq)
  rcases Bool.or_eq_true _ _ ▸ h1 with z | z
  · rw [decide_eq_true h3] at z
    cases z
  · have h4 := List.all_eq_true.mp z e (List.mem_range.mpr he)
    rcases Bool.or_eq_true _ _ ▸ h4 with z | z
    · rw [decide_eq_true h2] at z
      cases z
    · exact of_decide_eq_true z
theorem t_q {q a b : Nat} (hq : q < 256) (h3 : x_sz8 (nI q) 8 = 3) (h : x_lh q a b) : t_Q q a b := by
  have h1 := List.all_eq_true.mp t_T3 q (List.mem_range.mpr hq)
  rcases Bool.or_eq_true _ _ ▸ h1 with z | z
  · rw [decide_eq_true h3] at z
    cases z
  · have h4 := List.all_eq_true.mp (List.all_eq_true.mp z a (List.mem_range.mpr h.1)) b (List.mem_range.mpr h.2.1)
    rcases Bool.or_eq_true _ _ ▸ h4 with z | z
    · rw [decide_eq_true h] at z
      cases z
    · exact of_decide_eq_true z
/-- the triangle with number t, the numbers of its edges -/
def x_tS (se : Nat → Int32) (t : Nat) : Nat := (se (2 * 24 + t)).toNatClampNeg
def x_tA (pl se : Nat → Int32) (t : Nat) : Nat := x_ct pl 1 (t_f (x_tS se t) - 1)
def x_tB (pl se : Nat → Int32) (t : Nat) : Nat := x_ct pl 1 (t_b (x_tS se t) - 1)
def x_tC (pl se : Nat → Int32) (t : Nat) : Nat := x_ct pl 1 (t_l (x_tS se t) - 1)
theorem x_d3 {q : Nat} (hq : q < 256) (h : x_dm (nI q) = nI 2) : x_sz8 (nI q) 8 = 3 := ((x_dm_sz hq _).mp h).trans (by decide)
theorem x_d2 {q : Nat} (hq : q < 256) (h : x_dm (nI q) = nI 1) : x_sz8 (nI q) 8 = 2 := ((x_dm_sz hq _).mp h).trans (by decide)
theorem x_2d {q : Nat} (hq : q < 256) (h : x_sz8 (nI q) 8 = 2) : x_dm (nI q) = nI 1 := (x_dm_sz hq _).mpr (h.trans (by decide))
theorem x_3d {q : Nat} (hq : q < 256) (h : x_sz8 (nI q) 8 = 3) : x_dm (nI q) = nI 2 := (x_dm_sz hq _).mpr (h.trans (by decide))
theorem x_tS_ok {pl sz se : Nat → Int32} (hI : x_CI pl sz se) {t : Nat} (ht : t < x_ct pl 2 255) : 1 ≤ x_tS se t ∧ x_tS se t < 256 ∧ se (2 * 24 + t) = nI (x_tS se t) ∧ x_sz8 (nI (x_tS se t)) 8 = 3 ∧ ¬ pl (x_tS se t) = -1 ∧ x_ct pl 2 (x_tS se t - 1) = t := by
  obtain ⟨q, h1, h2, h3, h4, h5, h6⟩ := hI.set (k := 2) (by decide) ht
  have e : x_tS se t = q := by
    unfold x_tS
    rw [h3]
    exact mm_cl (by omega)
  rw [e]
  exact ⟨h1, h2, h3, x_d3 h2 h4, h5, h6⟩
theorem x_tS_of {pl sz se : Nat → Int32} (hI : x_CI pl sz se) {q : Nat} (h1 : 1 ≤ q) (h2 : q < 256) (h3 : x_sz8 (nI q) 8 = 3) (h4 : ¬ pl q = -1) : x_tS se (x_ct pl 2 (q - 1)) = q := by
  obtain ⟨k, k1, k2, k3, k4⟩ := hI.2.1 q h1 h2 h4
  have e : k = 2 := (nI_eq (by omega) (by omega)).mp (k2.symm.trans (x_3d h2 h3))
  rw [e] at k4
  unfold x_tS
  rw [k4]
  exact mm_cl (by omega)
/-- an edge that is there -/
theorem x_ed {pl sz se : Nat → Int32} (hI : x_CI pl sz se) {e : Nat} (h1 : 1 ≤ e) (h2 : e < 256) (h3 : x_sz8 (nI e) 8 = 2) (h4 : ¬ pl e = -1) : pl e = nI (x_ct pl 1 (e - 1)) ∧ se (1 * 24 + x_ct pl 1 (e - 1)) = nI e ∧ x_ct pl 1 (e - 1) < x_ct pl 1 255 := by
  obtain ⟨k, k1, k2, k3, k4⟩ := hI.2.1 e h1 h2 h4
  have q : k = 1 := (nI_eq (by omega) (by omega)).mp (k2.symm.trans (x_2d h2 h3))
  rw [q] at k3 k4
  exact ⟨k3, k4, x_ct_lt h1 (by omega) h4 (x_2d h2 h3)⟩
/-- the three edges of triangle t -/
theorem x_t3 {pl sz se : Nat → Int32} (hI : x_CI pl sz se) {t : Nat} (ht : t < x_ct pl 2 255) : (pl (t_f (x_tS se t)) = nI (x_tA pl se t) ∧ se (1 * 24 + x_tA pl se t) = nI (t_f (x_tS se t)) ∧ x_tA pl se t < x_ct pl 1 255) ∧ (pl (t_b (x_tS se t)) = nI (x_tB pl se t) ∧ se (1 * 24 + x_tB pl se t) = nI (t_b (x_tS se t)) ∧ x_tB pl se t < x_ct pl 1 255) ∧ (pl (t_l (x_tS se t)) = nI (x_tC pl se t) ∧ se (1 * 24 + x_tC pl se t) = nI (t_l (x_tS se t)) ∧ x_tC pl se t < x_ct pl 1 255) := by
  obtain ⟨h1, h2, h3, h4, h5, h6⟩ := x_tS_ok hI ht
  obtain ⟨-, -, -, ⟨a1, a2, a3, a4⟩, ⟨b1, b2, b3, b4⟩, ⟨c1, c2, c3, c4⟩, -, -, -⟩ := t_p h2 h4
  exact ⟨x_ed hI a1 a2 a4 (hI.2.2.1 _ _ h1 h2 h5 a1 a2 a3), x_ed hI b1 b2 b4 (hI.2.2.1 _ _ h1 h2 h5 b1 b2 b3), x_ed hI c1 c2 c4 (hI.2.2.1 _ _ h1 h2 h5 c1 c2 c3)⟩
theorem x_tE {pl sz se : Nat → Int32} (hI : x_CI pl sz se) {t : Nat} (ht : t < x_ct pl 2 255) : x_tA pl se t < 24 ∧ x_tB pl se t < 24 ∧ x_tC pl se t < 24 := by
  obtain ⟨⟨-, -, a⟩, ⟨-, -, b⟩, ⟨-, -, c⟩⟩ := x_t3 hI ht
  have l := hI.le (k := 1) (by decide)
  exact ⟨by omega, by omega, by omega⟩
theorem f2_x3 {e a b c : Nat} (h1 : a ≠ b) (h2 : a ≠ c) (h3 : b ≠ c) : (e = a ∨ e = b ∨ e = c) ↔ (((2 ^ e).testBit a).xor (((2 ^ e).testBit b).xor ((2 ^ e).testBit c))) = true := by
  rw [Nat.testBit_two_pow, Nat.testBit_two_pow, Nat.testBit_two_pow]
  by_cases q1 : e = a
  · rw [decide_eq_true q1, decide_eq_false (show ¬ e = b by omega), decide_eq_false (show ¬ e = c by omega)]
    exact ⟨fun _ => rfl, fun _ => Or.inl q1⟩
  · by_cases q2 : e = b
    · rw [decide_eq_false q1, decide_eq_true q2, decide_eq_false (show ¬ e = c by omega)]
      exact ⟨fun _ => rfl, fun _ => Or.inr (Or.inl q2)⟩
    · by_cases q3 : e = c
      · rw [decide_eq_false q1, decide_eq_false q2, decide_eq_true q3]
        exact ⟨fun _ => rfl, fun _ => Or.inr (Or.inr q3)⟩
      · rw [decide_eq_false q1, decide_eq_false q2, decide_eq_false q3]
        exact ⟨fun q => (q.elim q1 (fun q => q.elim q2 q3)).elim, fun q => by cases q⟩
theorem x_tc {pl sz se : Nat → Int32} (hI : x_CI pl sz se) {t e : Nat} (ht : t < x_ct pl 2 255) (he : e < x_ct pl 1 255) : (nI (x_tS se t) &&& se (1 * 24 + e) = se (1 * 24 + e)) ↔ (((2 ^ e).testBit (x_tA pl se t)).xor (((2 ^ e).testBit (x_tB pl se t)).xor ((2 ^ e).testBit (x_tC pl se t)))) = true := by
  obtain ⟨h1, h2, h3, h4, h5, h6⟩ := x_tS_ok hI ht
  obtain ⟨-, -, -, ⟨a1, a2, a3, a4⟩, ⟨b1, b2, b3, b4⟩, ⟨c1, c2, c3, c4⟩, n1, n2, n3⟩ := t_p h2 h4
  obtain ⟨⟨-, p1, -⟩, ⟨-, p2, -⟩, ⟨-, p3, -⟩⟩ := x_t3 hI ht
  obtain ⟨q, k1, k2, k3, k4, k5, k6⟩ := hI.set (k := 1) (by decide) he
  have key : ∀ {u n : Nat}, u < 256 → se (1 * 24 + n) = nI u → x_ct pl 1 (u - 1) = n → (q = u ↔ e = n) := fun {u n} hu p r => by
    constructor
    · intro z
      rw [← k6, ← r, z]
    · intro z
      rw [z, p] at k3
      exact ((nI_eq (by omega) (by omega)).mp k3).symm
  have ne : ∀ {u w n m : Nat}, u < 256 → w < 256 → se (1 * 24 + n) = nI u → se (1 * 24 + m) = nI w → u ≠ w → n ≠ m := fun {u w n m} hu hw p r z x => by
    rw [x, r] at p
    exact z ((nI_eq (by omega) (by omega)).mp p).symm
  rw [k3, t_c h2 h4 k2 (x_d2 k2 k4), key a2 p1 rfl, key b2 p2 rfl, key c2 p3 rfl]
  exact f2_x3 (ne a2 b2 p1 p2 n1) (ne a2 c2 p1 p3 n2) (ne b2 c2 p2 p3 n3)
