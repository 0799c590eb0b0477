/-! THE REFERENCE'S MATRICES: their columns are small -/
theorem x_l1 {s : Nat} (hs : s < 256) (h4 : x_sz8 (nI s) 8 ≤ 4) : dt_S (fun q => ((x_sg (nI s) (nI q)).toInt.natAbs : Int)) 256 ≤ 4 := by
  have h1 := List.all_eq_true.mp x_l1T s (List.mem_range.mpr hs)
  simp only [Bool.or_eq_true, Bool.not_eq_true', decide_eq_true_eq, decide_eq_false_iff_not] at h1
  exact h1.resolve_left (fun q => q h4)
theorem x_mn_sur (has : Nat → Int32) (n : Nat) (k : Int32) : ∀ (t j : Nat), j < x_mn has n k t → ∃ q, 1 ≤ q ∧ q ≤ t ∧ x_cd has n k q ∧ x_mn has n k (q - 1) = j
  | 0, j, h => absurd h (Nat.not_lt_zero j)
  | t + 1, j, h => by
    by_cases c : x_cd has n k (t + 1)
    · rw [x_mn_y c] at h
      by_cases e : j = x_mn has n k t
      · exact ⟨t + 1, by omega, Nat.le_refl _, c, e.symm⟩
      · obtain ⟨q, h1, h2, h3⟩ := x_mn_sur has n k t j (by omega)
        exact ⟨q, h1, by omega, h3⟩
    · rw [x_mn_n c] at h
      obtain ⟨q, h1, h2, h3⟩ := x_mn_sur has n k t j h
      exact ⟨q, h1, by omega, h3⟩
/-- sets of at most four vertices -/
def x_M4 (has : Nat → Int32) : Prop := ∀ n q, n < 2 → 1 ≤ q → q < 256 → ¬ has (256 * n + q) = 0 → x_sz8 (nI q) 8 ≤ 4
theorem x_i64 (x : Int32) : (x.toInt64).toInt = x.toInt := Int32.toInt_toInt64 x
theorem x_BM_col {has : Nat → Int32} {n : Nat} {k : Int32} {ma : Nat → Int64} (hn : n < 2) (h4 : x_M4 has) (hr : x_mn has n (k - 1) 255 ≤ 48) (hB : x_BM has n k ma) {j : Nat} (hj : j < x_mn has n k 255) : dt_S (fun i => ((ma (48 * i + j)).toInt.natAbs : Int)) (x_mn has n (k - 1) 255) ≤ 4 := by
  obtain ⟨ma0, hz, hB⟩ := hB
  obtain ⟨s, s1, s2, s3, s4⟩ := x_mn_sur has n k 255 j hj
  have hF : ∀ i, ∃ q, i < x_mn has n (k - 1) 255 → 1 ≤ q ∧ q ≤ 255 ∧ x_cd has n (k - 1) q ∧ x_mn has n (k - 1) (q - 1) = i := fun i => by
    by_cases c : i < x_mn has n (k - 1) 255
    · obtain ⟨q, hq⟩ := x_mn_sur has n (k - 1) 255 i c
      exact ⟨q, fun _ => hq⟩
    · exact ⟨0, fun q => absurd q c⟩
  have hF2 := fun i => Classical.choose_spec (hF i)
  have e : dt_S (fun i => ((ma (48 * i + j)).toInt.natAbs : Int)) (x_mn has n (k - 1) 255) = dt_S (fun i => (fun q => ((x_sg (nI s) (nI q)).toInt.natAbs : Int)) (Classical.choose (hF i))) (x_mn has n (k - 1) 255) := dt_S_congr _ (fun i hi => by
    obtain ⟨q1, q2, q3, q4⟩ := hF2 i hi
    have z := hB.1 (Classical.choose (hF i)) s q1 q2 q3 s1 s2 s3
    rw [q4, s4, Nat.zero_add, Nat.zero_add] at z
    rw [z, x_i64])
  rw [e]
  refine Int.le_trans (dt_S_inj (m := 256) _ (fun q => ((x_sg (nI s) (nI q)).toInt.natAbs : Int)) (fun i => Classical.choose (hF i)) (fun x => by show (0 : Int) ≤ ((x_sg (nI s) (nI x)).toInt.natAbs : Int); omega) (fun a ha => ?_) (fun a b ha hb hab => ?_)) (x_l1 (by omega) (h4 n s hn s1 (by omega) s3.1))
  · have := (hF2 a ha).2.1
    show Classical.choose (hF a) < 256
    omega
  · have h1 := (hF2 a ha).2.2.2
    have h2 := (hF2 b hb).2.2.2
    rw [show Classical.choose (hF a) = Classical.choose (hF b) from hab, h2] at h1
    exact h1.symm
theorem x_P4 {s : Nat → Int} : ∀ (r : Nat), (∀ b, b < r → 0 ≤ s b ∧ s b ≤ 4) → 0 ≤ dt_P s r ∧ dt_P s r ≤ 4 ^ r
  | 0, _ => ⟨(by decide : (0 : Int) ≤ 1), (by decide : (1 : Int) ≤ 1)⟩
  | r + 1, h => by
    obtain ⟨h1, h2⟩ := x_P4 r (fun b hb => h b (by omega))
    obtain ⟨h3, h4⟩ := h r (by omega)
    refine ⟨Int.mul_nonneg h1 h3, ?_⟩
    show dt_P s r * s r ≤ 4 ^ (r + 1)
    rw [Int.pow_succ]
    exact Int.mul_le_mul h2 h4 h3 (by exact Int.le_trans h1 h2)
theorem x_pow4 {r : Nat} (h : r ≤ 24) : (4 : Int) ^ r ≤ 4 ^ 24 := by
  have h1 : (4 : Nat) ^ r ≤ 4 ^ 24 := Nat.pow_le_pow_right (by decide) h
  have e : ∀ n : Nat, ((4 ^ n : Nat) : Int) = (4 : Int) ^ n := fun n => by simp
  rw [← e, ← e]
  omega
theorem x_P5 {K : Nat → Int} {f : Nat → Nat} {r C : Nat} (hr : r ≤ 24) (hf : ∀ b, b < r → f b < C + 1) (hj : dt_inj r f) (h4 : ∀ j, j < C → 0 ≤ K j ∧ K j ≤ 4) (hC : 0 ≤ K C ∧ K C ≤ 216) : dt_P (fun b => K (f b)) r < 2 ^ 64 := by
  by_cases c : ∃ b, b < r ∧ f b = C
  · obtain ⟨b0, hb0, e⟩ := c
    obtain ⟨n, rfl⟩ : ∃ n, r = n + 1 := ⟨r - 1, by omega⟩
    rw [← dt_P_skip (fun b => K (f b)) n b0 (by omega)]
    have z := x_P4 (s := fun a => K (f (dt_k b0 a))) n (fun b hb => by
      have l1 : dt_k b0 b < n + 1 := by unfold dt_k; split <;> omega
      have l2 := hf _ l1
      have l3 : f (dt_k b0 b) ≠ C := fun q => dt_k_ne b0 b (hj _ _ l1 hb0 (q.trans e.symm))
      exact h4 _ (by omega))
    have z2 := x_pow4 (r := n) (by omega)
    show dt_P (fun a => K (f (dt_k b0 a))) n * K (f b0) < 2 ^ 64
    rw [e]
    have z3 : dt_P (fun a => K (f (dt_k b0 a))) n * K C ≤ 4 ^ 24 * 216 := Int.mul_le_mul (Int.le_trans z.2 z2) hC.2 hC.1 (by decide)
    exact Int.lt_of_le_of_lt z3 (by decide)
  · have z := x_P4 (s := fun b => K (f b)) r (fun b hb => h4 _ (by
      have := hf b hb
      have : f b ≠ C := fun q => c ⟨b, hb, q⟩
      omega))
    exact Int.lt_of_le_of_lt (Int.le_trans z.2 (x_pow4 hr)) (by decide)
theorem x_KP_of {Rn Cn : Nat} {ma : Nat → Int64} (hR : Rn ≤ 24) (h4 : ∀ j, j < Cn → dt_S (fun i => ((ma (48 * i + j)).toInt.natAbs : Int)) Rn ≤ 4) (hC : dt_S (fun i => ((ma (48 * i + Cn)).toInt.natAbs : Int)) Rn ≤ 216) : x_KP Rn (Cn + 1) ma := by
  have h0 : ∀ j, 0 ≤ dt_S (fun i => ((ma (48 * i + j)).toInt.natAbs : Int)) Rn := fun j => dt_S_nonneg Rn (fun i _ => by
    show (0 : Int) ≤ ((ma (48 * i + j)).toInt.natAbs : Int)
    omega)
  exact ⟨fun j => dt_S (fun i => ((ma (48 * i + j)).toInt.natAbs : Int)) Rn, fun j => Int.le_refl _, h0, fun r f hr hf hj => x_P5 (C := Cn) (by omega) hf hj (fun j hj => ⟨h0 j, h4 j hj⟩) ⟨h0 Cn, hC⟩⟩
theorem x_KP_le {Rn Cn : Nat} {ma : Nat → Int64} (h : x_KP Rn (Cn + 1) ma) : x_KP Rn Cn ma := by
  obtain ⟨K, k1, k2, k3⟩ := h
  exact ⟨K, k1, k2, fun r f hr hf hj => k3 r f hr (fun b hb => Nat.lt_succ_of_lt (hf b hb)) hj⟩
theorem x_KP_b {Rn Cn : Nat} {ma : Nat → Int64} (hR : Rn ≤ 24) (h4 : ∀ j, j < Cn → dt_S (fun i => ((ma (48 * i + j)).toInt.natAbs : Int)) Rn ≤ 4) : x_KP Rn Cn ma := by
  have h0 : ∀ j, 0 ≤ dt_S (fun i => ((ma (48 * i + j)).toInt.natAbs : Int)) Rn := fun j => dt_S_nonneg Rn (fun i _ => by
    show (0 : Int) ≤ ((ma (48 * i + j)).toInt.natAbs : Int)
    omega)
  refine ⟨fun j => dt_S (fun i => ((ma (48 * i + j)).toInt.natAbs : Int)) Rn, fun j => Int.le_refl _, h0, fun r f hr hf hj => ?_⟩
  have z := x_P4 (s := fun b => dt_S (fun i => ((ma (48 * i + f b)).toInt.natAbs : Int)) Rn) r (fun b hb => ⟨h0 _, h4 _ (hf b hb)⟩)
  exact Int.lt_of_le_of_lt (Int.le_trans z.2 (x_pow4 (by omega))) (by decide)
theorem x_s9 {ma : Nat → Int64} {j : Nat} : ∀ (r : Nat), (∀ i, i < r → (ma (48 * i + j)).toInt.natAbs ≤ 9) → dt_S (fun i => ((ma (48 * i + j)).toInt.natAbs : Int)) r ≤ 9 * r
  | 0, _ => (by decide : (0 : Int) ≤ 9 * ((0 : Nat) : Int))
  | r + 1, h => by
    have z := x_s9 r (fun i hi => h i (by omega))
    have z2 := h r (by omega)
    show dt_S _ r + ((ma (48 * r + j)).toInt.natAbs : Int) ≤ 9 * ((r + 1 : Nat) : Int)
    omega
