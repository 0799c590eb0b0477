/-! BOUNDARIES HAVE SMALL MINORS -/
theorem x_inj_le {R r : Nat} {i : Nat → Nat} (h : ∀ a, a < r → i a < R) (hj : dt_inj r i) : r ≤ R := by
  have z := dt_S_inj (m := R) r (fun _ => 1) i (fun _ => by decide) h hj
  have e : ∀ n : Nat, dt_S (fun _ => 1) n = (n : Int) := fun n => by
    induction n with
    | zero => rfl
    | succ n ih =>
      show dt_S (fun _ => 1) n + 1 = ((n + 1 : Nat) : Int)
      rw [ih]
      rfl
  have z : dt_S (fun _ => 1) r ≤ dt_S (fun _ => 1) R := z
  rw [e, e] at z
  omega
theorem x_mb {R C : Nat} {A : Nat → Nat → Int} (hR : R ≤ 24) (h4 : ∀ j, j < C → dt_S (fun i => A i j * A i j) R ≤ 4) (r : Nat) (i k : Nat → Nat) (hi : ∀ a, a < r → i a < R) (hk : ∀ b, b < r → k b < C) : (dt r (fun a b => A (i a) (k b))).natAbs ≤ 2 ^ 24 := by
  by_cases hj : dt_inj r i
  · have hr := x_inj_le hi hj
    have z := hd_had r (fun a b => A (i a) (k b)) (K := 4) (fun b hb => Int.le_trans (dt_S_inj (m := R) r (fun x => A x (k b) * A x (k b)) i (fun x => hd_sq _) hi hj) (h4 (k b) (hk b hb))) (by decide)
    have z2 := Int.le_trans z (x_pow4 (r := r) (by omega))
    generalize dt r (fun a b => A (i a) (k b)) = d at *
    refine Classical.byContradiction (fun q => ?_)
    have h1 : (2 ^ 24 + 1) * (2 ^ 24 + 1) ≤ d.natAbs * d.natAbs := Nat.mul_le_mul (by omega) (by omega)
    have h2 : ((d.natAbs * d.natAbs : Nat) : Int) = d * d := Int.natAbs_mul_self
    have h3 : ((2 ^ 24 + 1) * (2 ^ 24 + 1) : Int) ≤ d * d := by
      rw [← h2]
      exact Int.ofNat_le.mpr h1
    have h4 : ((2 ^ 24 + 1) * (2 ^ 24 + 1) : Int) ≤ 4 ^ 24 := Int.le_trans h3 z2
    exact absurd h4 (by decide)
  · rw [dt_ninj hj A k]
    decide
theorem x_sg3 (a b : Int32) : x_sg a b = 0 ∨ x_sg a b = 1 ∨ x_sg a b = -1 := by
  unfold x_sg
  split
  · split
    · exact Or.inr (Or.inl rfl)
    · exact Or.inr (Or.inr rfl)
  · exact Or.inl rfl
theorem x_sg2 (a b : Int32) : (x_sg a b).toInt * (x_sg a b).toInt = ((x_sg a b).toInt.natAbs : Int) := by
  rcases x_sg3 a b with e | e | e <;> rw [e] <;> decide
/-- a boundary's column, sum of squares -/
theorem x_col4 {pl sz se : Nat → Int32} (hI : x_CI pl sz se) {kk : Nat} (hk : kk + 1 < 4) {j : Nat} (hj : j < x_ct pl (kk + 1) 255) : dt_S (fun r => (x_sf (se (kk * 24 + r)) (se ((kk + 1) * 24 + j))).toInt * (x_sf (se (kk * 24 + r)) (se ((kk + 1) * 24 + j))).toInt) (x_ct pl kk 255) ≤ 4 := by
  obtain ⟨s, b1, b2, b3, b4, b5, b6⟩ := hI.set hk hj
  have hF : ∀ r, ∃ q, r < x_ct pl kk 255 → 1 ≤ q ∧ q < 256 ∧ se (kk * 24 + r) = nI q ∧ x_ct pl kk (q - 1) = r := fun r => by
    by_cases c : r < x_ct pl kk 255
    · obtain ⟨q, a1, a2, a3, -, -, a6⟩ := hI.set (k := kk) (by omega) c
      exact ⟨q, fun _ => ⟨a1, a2, a3, a6⟩⟩
    · exact ⟨0, fun q => absurd q c⟩
  have hF2 := fun r => Classical.choose_spec (hF r)
  have e : dt_S (fun r => (x_sf (se (kk * 24 + r)) (se ((kk + 1) * 24 + j))).toInt * (x_sf (se (kk * 24 + r)) (se ((kk + 1) * 24 + j))).toInt) (x_ct pl kk 255) = dt_S (fun r => (fun q => ((x_sg (nI s) (nI q)).toInt.natAbs : Int)) (Classical.choose (hF r))) (x_ct pl kk 255) := dt_S_congr _ (fun r hr => by
    obtain ⟨q1, q2, q3, -⟩ := hF2 r hr
    have e0 : x_sf (se (kk * 24 + r)) (se ((kk + 1) * 24 + j)) = x_sg (nI s) (nI (Classical.choose (hF r))) := (congr (congrArg x_sf q3) b3).trans (x_sgf b2 (x_sz_dm hI b1 b2 b5) q1 q2).symm
    rw [e0]
    exact x_sg2 _ _)
  rw [e]
  refine Int.le_trans (dt_S_inj (m := 256) _ (fun q => ((x_sg (nI s) (nI q)).toInt.natAbs : Int)) (fun r => Classical.choose (hF r)) (fun x => by show (0 : Int) ≤ ((x_sg (nI s) (nI x)).toInt.natAbs : Int); omega) (fun a ha => ?_) (fun a b ha hb hab => ?_)) (x_l1 b2 (x_sz_dm hI b1 b2 b5))
  · exact (hF2 a ha).2.1
  · have h1 := (hF2 a ha).2.2.2
    have h2 := (hF2 b hb).2.2.2
    rw [show Classical.choose (hF a) = Classical.choose (hF b) from hab, h2] at h1
    exact h1.symm
/-- ranks of a boundary by two primes -/
theorem x_rk_le {pl sz se : Nat → Int32} (hI : x_CI pl sz se) {p q : Int32} (hp : x_GP p) (hq : x_GP q) (hp24 : (2 : Int) ^ 24 < p.toInt) (hq1 : 1 < q.toInt) (k : Int32) : x_rk pl se q k ≤ x_rk pl se p k := by
  unfold x_rk
  refine x_rank_le (A := fun r j => (x_sf (se ((k.toNatClampNeg - 1) * 24 + r)) (se (k.toNatClampNeg * 24 + j))).toInt) (by omega) hq1 hp.2.2.2 hq.2.2.2 (fun r i c hi hc => ?_)
  have hR := x_m_le hI (k - 1)
  have h4 : ∀ j, j < x_m pl k → dt_S (fun r => (x_sf (se ((k.toNatClampNeg - 1) * 24 + r)) (se (k.toNatClampNeg * 24 + j))).toInt * (x_sf (se ((k.toNatClampNeg - 1) * 24 + r)) (se (k.toNatClampNeg * 24 + j))).toInt) (x_m pl (k - 1)) ≤ 4 := fun j hj => by
    rcases Nat.eq_zero_or_pos (x_m pl (k - 1)) with e | e
    · rw [e]
      exact (by decide : (0 : Int) ≤ 4)
    · obtain ⟨a, ha, rfl, em⟩ := x_m_pos hj
      obtain ⟨a', ha', ea, em'⟩ := x_m_pos e
      have e0 : 1 ≤ a := by
        rcases Nat.eq_zero_or_pos a with q | q
        · subst q
          exact absurd (ea.symm.trans (show nI 0 - 1 = -1 from rfl)) (x_nm1 (by omega))
        · exact q
      obtain ⟨kk, rfl⟩ : ∃ kk, a = kk + 1 := ⟨a - 1, by omega⟩
      have e1 : nI (kk + 1) - 1 = nI kk := x_n1 (a := kk + 1) (by omega)
      have e2 : a' = kk := (nI_eq (by omega) (by omega)).mp (ea.symm.trans e1)
      rw [em] at hj
      rw [em', e2, mm_cl (by omega), Nat.add_sub_cancel]
      exact x_col4 hI ha hj
  have z := x_mb (A := fun r j => (x_sf (se ((k.toNatClampNeg - 1) * 24 + r)) (se (k.toNatClampNeg * 24 + j))).toInt) hR h4 r i c hi hc
  omega
