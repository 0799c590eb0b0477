/-! a matrix that is a diagonal modulo 2 ^ 64, no entry of it 0 there, has a determinant that is not 0 -/
theorem mv_colop {N : Int} {r m c : Nat} {X : Nat → Nat → Int} (h : mv N r m c X) {j0 t0 : Nat} (ht : t0 < c) (q : Int) : mv N r m c (fun a b => if b = j0 then X a j0 + q * X a t0 else X a b) := by
  have key : ∀ (p : Nat), p ≤ r → ∀ i k : Nat → Nat, (∀ a, a < r → i a < m) → (∀ b, b < r → k b < c) → N ∣ dt r (fun a b => if b < p then (if k b = j0 then X (i a) j0 + q * X (i a) t0 else X (i a) (k b)) else X (i a) (k b)) := by
    intro p
    induction p with
    | zero =>
      intro _ i k hi hk
      exact h i k hi hk
    | succ p ih =>
      intro hp i k hi hk
      have z := ih (by omega) i k hi hk
      by_cases c1 : k p = j0
      · have z2 := ih (by omega) i (fun b => if b = p then t0 else k b) hi (fun b hb => by show (if b = p then t0 else k b) < c; split; exact ht; exact hk b hb)
        have e1 : (fun a b => if b < p + 1 then (if k b = j0 then X (i a) j0 + q * X (i a) t0 else X (i a) (k b)) else X (i a) (k b)) = dt_c (fun a b => if b < p then (if k b = j0 then X (i a) j0 + q * X (i a) t0 else X (i a) (k b)) else X (i a) (k b)) p (fun a => X (i a) j0 + q * X (i a) t0) := by
          funext a b
          simp only [dt_c]
          by_cases h1 : b = p
          · subst h1
            rw [if_pos rfl, if_pos (by omega), if_pos c1]
          · rw [if_neg h1]
            by_cases h2 : b < p
            · rw [if_pos h2, if_pos (by omega)]
            · rw [if_neg h2, if_neg (by omega)]
        have e2 : dt_c (fun a b => if b < p then (if k b = j0 then X (i a) j0 + q * X (i a) t0 else X (i a) (k b)) else X (i a) (k b)) p (fun a => X (i a) j0) = (fun a b => if b < p then (if k b = j0 then X (i a) j0 + q * X (i a) t0 else X (i a) (k b)) else X (i a) (k b)) := by
          funext a b
          simp only [dt_c]
          by_cases h1 : b = p
          · subst h1
            rw [if_pos rfl, if_neg (by omega), c1]
          · rw [if_neg h1]
        have e3 : dt_c (fun a b => if b < p then (if k b = j0 then X (i a) j0 + q * X (i a) t0 else X (i a) (k b)) else X (i a) (k b)) p (fun a => X (i a) t0) = (fun a b => if b < p then (if (fun b => if b = p then t0 else k b) b = j0 then X (i a) j0 + q * X (i a) t0 else X (i a) ((fun b => if b = p then t0 else k b) b)) else X (i a) ((fun b => if b = p then t0 else k b) b)) := by
          funext a b
          simp only [dt_c]
          by_cases h1 : b = p
          · subst h1
            rw [if_pos rfl, if_neg (by omega)]
            simp
          · rw [if_neg h1]
            simp only [if_neg h1]
        rw [e1, dt_col_lin r _ p _ _ q (by omega), e2, e3]
        exact Int.dvd_add z (Int.dvd_mul_of_dvd_right z2)
      · have e1 : (fun a b => if b < p + 1 then (if k b = j0 then X (i a) j0 + q * X (i a) t0 else X (i a) (k b)) else X (i a) (k b)) = (fun a b => if b < p then (if k b = j0 then X (i a) j0 + q * X (i a) t0 else X (i a) (k b)) else X (i a) (k b)) := by
          funext a b
          by_cases h1 : b = p
          · subst h1
            simp [c1]
          · by_cases h2 : b < p
            · rw [if_pos h2, if_pos (by omega)]
            · rw [if_neg h2, if_neg (by omega)]
        rw [e1]
        exact z
  intro i k hi hk
  have z := key r (Nat.le_refl r) i k hi hk
  rw [dt_congr r (N := fun a b => if k b = j0 then X (i a) j0 + q * X (i a) t0 else X (i a) (k b)) (fun a b ha hb => by rw [if_pos hb])] at z
  exact z
theorem dt_S_sub_dvd {N : Int} {f g : Nat → Int} : ∀ (n : Nat), (∀ i, i < n → N ∣ f i - g i) → N ∣ dt_S f n - dt_S g n
  | 0, _ => by simp [dt_S]
  | n + 1, h => by
    have z := dt_S_sub_dvd n (fun i hi => h i (by omega))
    have z2 := h n (by omega)
    have e : dt_S f (n + 1) - dt_S g (n + 1) = (dt_S f n - dt_S g n) + (f n - g n) := by
      show dt_S f n + f n - (dt_S g n + g n) = _
      omega
    rw [e]
    exact Int.dvd_add z z2
theorem dt_mod {N : Int} : ∀ (n : Nat) (M K : Nat → Nat → Int), (∀ a b, a < n → b < n → N ∣ M a b - K a b) → N ∣ dt n M - dt n K
  | 0, _, _, _ => by simp [dt]
  | n + 1, M, K, h => by
    refine dt_S_sub_dvd (n + 1) (fun i hi => ?_)
    have z := dt_mod (N := N) n (fun a b => M (dt_k i a) (b + 1)) (fun a b => K (dt_k i a) (b + 1)) (fun a b ha hb => h _ _ (by unfold dt_k; split <;> omega) (by omega))
    generalize dt n (fun a b => M (dt_k i a) (b + 1)) = x at z
    generalize dt n (fun a b => K (dt_k i a) (b + 1)) = y at z
    have h0 := h i 0 hi (by omega)
    have e : dt_s i * M i 0 * x - dt_s i * K i 0 * y = (dt_s i * x) * (M i 0 - K i 0) + (dt_s i * K i 0) * (x - y) := by
      rw [Int.mul_sub, Int.mul_sub, Int.mul_right_comm (dt_s i) x, Int.mul_right_comm (dt_s i) x]
      omega
    rw [e]
    exact Int.dvd_add (Int.dvd_mul_of_dvd_right h0) (Int.dvd_mul_of_dvd_right z)
theorem dt_one : ∀ (n : Nat), dt n (fun a b => if a = b then 1 else 0) = 1
  | 0 => rfl
  | n + 1 => by
    have e0 : dt n (fun a b => if dt_k 0 a = b + 1 then (1 : Int) else 0) = 1 := by
      refine (dt_congr n (N := fun a b => if a = b then (1 : Int) else 0) (fun a b ha hb => ?_)).trans (dt_one n)
      show (if dt_k 0 a = b + 1 then (1 : Int) else 0) = if a = b then 1 else 0
      have : dt_k 0 a = a + 1 := by unfold dt_k; rw [if_neg (by omega)]
      rw [this]
      by_cases c : a = b
      · rw [if_pos c, if_pos (by omega)]
      · rw [if_neg c, if_neg (by omega)]
    have hs : ∀ (m : Nat) (f : Nat → Int), f 0 = 1 → (∀ i, i < m → f (i + 1) = 0) → dt_S f (m + 1) = 1 := by
      intro m f h0
      induction m with
      | zero => intro _; show (0 : Int) + f 0 = 1; rw [h0]; rfl
      | succ m ih => intro hz; show dt_S f (m + 1) + f (m + 1) = 1; rw [ih (fun i hi => hz i (by omega)), hz m (by omega)]; rfl
    refine hs n _ ?_ (fun i hi => ?_)
    · show dt_s 0 * (if 0 = 0 then (1 : Int) else 0) * dt n (fun a b => if dt_k 0 a = b + 1 then (1 : Int) else 0) = 1
      rw [e0]
      rfl
    · show dt_s (i + 1) * (if i + 1 = 0 then (1 : Int) else 0) * _ = 0
      rw [if_neg (by omega), Int.mul_zero, Int.zero_mul]
def dt_P (s : Nat → Int) : Nat → Int
  | 0 => 1
  | n + 1 => dt_P s n * s n
theorem dt_P_congr {s u : Nat → Int} : ∀ (n : Nat), (∀ i, i < n → s i = u i) → dt_P s n = dt_P u n
  | 0, _ => rfl
  | n + 1, h => by
    show dt_P s n * s n = dt_P u n * u n
    rw [dt_P_congr n (fun i hi => h i (by omega)), h n (by omega)]
theorem dt_P_skip (s : Nat → Int) : ∀ (n i : Nat), i ≤ n → dt_P (fun a => s (dt_k i a)) n * s i = dt_P s (n + 1)
  | 0, i, h => by
    have : i = 0 := by omega
    subst this
    rfl
  | n + 1, i, h => by
    show dt_P (fun a => s (dt_k i a)) n * s (dt_k i n) * s i = dt_P s (n + 1) * s (n + 1)
    by_cases c : i = n + 1
    · subst c
      have e : dt_P (fun a => s (dt_k (n + 1) a)) n = dt_P s n := dt_P_congr n (fun a ha => by
        show s (dt_k (n + 1) a) = s a
        rw [show dt_k (n + 1) a = a by unfold dt_k; rw [if_pos (by omega)]])
      rw [e, show dt_k (n + 1) n = n by unfold dt_k; rw [if_pos (by omega)]]
      rfl
    · rw [show dt_k i n = n + 1 by unfold dt_k; rw [if_neg (by omega)], Int.mul_right_comm, dt_P_skip s n i (by omega)]
theorem dt_scale : ∀ (n : Nat) (s : Nat → Int) (C : Nat → Nat → Int), dt n (fun a b => s a * C a b) = dt_P s n * dt n C
  | 0, _, _ => rfl
  | n + 1, s, C => by
    show dt_S _ (n + 1) = dt_P s (n + 1) * dt_S _ (n + 1)
    rw [← dt_S_mul]
    refine dt_S_congr (n + 1) (fun i hi => ?_)
    show dt_s i * (s i * C i 0) * dt n (fun a b => s (dt_k i a) * C (dt_k i a) (b + 1)) = dt_P s (n + 1) * (dt_s i * C i 0 * dt n (fun a b => C (dt_k i a) (b + 1)))
    rw [dt_scale n (fun a => s (dt_k i a)) (fun a b => C (dt_k i a) (b + 1)), ← dt_P_skip s n i (by omega)]
    generalize dt_P (fun a => s (dt_k i a)) n = p
    generalize dt n (fun a b => C (dt_k i a) (b + 1)) = y
    simp only [Int.mul_assoc, Int.mul_left_comm, Int.mul_comm]
theorem dt_P_ne {s : Nat → Int} : ∀ (n : Nat), (∀ i, i < n → s i ≠ 0) → dt_P s n ≠ 0
  | 0, _ => by
    show (1 : Int) ≠ 0
    decide
  | n + 1, h => Int.mul_ne_zero (dt_P_ne n (fun i hi => h i (by omega))) (h n (by omega))
theorem dt_val : ∀ (k : Nat) (d : Int), d ≠ 0 → d.natAbs < 2 ^ k → ∃ (v : Nat) (o : Int), v < k ∧ d = 2 ^ v * o ∧ o % 2 = 1
  | 0, d, h0, h => absurd (Int.natAbs_eq_zero.mp (by omega)) h0
  | k + 1, d, h0, h => by
    by_cases e : d % 2 = 1
    · exact ⟨0, d, by omega, by simp, e⟩
    · have hd : d = 2 * (d / 2) := by omega
      obtain ⟨v, o, h1, h2, h3⟩ := dt_val k (d / 2) (by omega) (by have := Nat.pow_succ (n := 2) (m := k); omega)
      refine ⟨v + 1, o, by omega, ?_, h3⟩
      rw [hd, h2, Int.pow_succ, ← Int.mul_assoc, Int.mul_comm 2]
theorem dt_lead {r k : Nat} {d : Nat → Int} {B : Nat → Nat → Int} (hd : ∀ a, a < r → d a ≠ 0 ∧ (d a).natAbs < 2 ^ k) (hB : ∀ a b, a < r → b < r → (2 : Int) ^ k ∣ B a b - (if a = b then d a else 0)) : dt r B ≠ 0 := by
  have h1 : ∀ a, ∃ (v : Nat) (o : Int), a < r → v < k ∧ d a = 2 ^ v * o ∧ o % 2 = 1 := fun a => by
    by_cases ha : a < r
    · obtain ⟨v, o, q⟩ := dt_val k (d a) (hd a ha).1 (hd a ha).2
      exact ⟨v, o, fun _ => q⟩
    · exact ⟨0, 0, fun q => absurd q ha⟩
  have h2 : ∃ (v : Nat → Nat) (o : Nat → Int), ∀ a, a < r → v a < k ∧ d a = 2 ^ v a * o a ∧ o a % 2 = 1 := ⟨fun a => (h1 a).choose, fun a => (h1 a).choose_spec.choose, fun a ha => (h1 a).choose_spec.choose_spec ha⟩
  obtain ⟨v, o, hv⟩ := h2
  have h3 : ∀ a b, ∃ C : Int, a < r → b < r → B a b = 2 ^ v a * C ∧ (2 : Int) ∣ C - (if a = b then 1 else 0) := fun a b => by
    by_cases ha : a < r ∧ b < r
    · obtain ⟨e, he⟩ := hB a b ha.1 ha.2
      obtain ⟨v1, v2, v3⟩ := hv a ha.1
      have hk : (2 : Int) ^ k = 2 ^ v a * (2 * 2 ^ (k - v a - 1)) := by
        rw [show k = v a + (k - v a - 1 + 1) by omega, Int.pow_add, Int.pow_succ, show v a + (k - v a - 1 + 1) - v a - 1 = k - v a - 1 by omega, Int.mul_comm (2 ^ (k - v a - 1))]
      refine ⟨(if a = b then o a else 0) + 2 * 2 ^ (k - v a - 1) * e, fun _ _ => ⟨?_, ?_⟩⟩
      · rw [hk] at he
        rw [Int.mul_add, ← Int.mul_assoc, ← he]
        by_cases c : a = b
        · rw [if_pos c, if_pos c, ← v2]
          omega
        · rw [if_neg c, if_neg c]
          omega
      · by_cases c : a = b
        · rw [if_pos c, if_pos c, Int.mul_assoc]
          omega
        · rw [if_neg c, if_neg c, Int.mul_assoc]
          omega
    · exact ⟨0, fun q1 q2 => absurd ⟨q1, q2⟩ ha⟩
  have h4 : ∃ C : Nat → Nat → Int, ∀ a b, a < r → b < r → B a b = 2 ^ v a * C a b ∧ (2 : Int) ∣ C a b - (if a = b then 1 else 0) := ⟨fun a b => (h3 a b).choose, fun a b ha hb => (h3 a b).choose_spec ha hb⟩
  obtain ⟨C, hC⟩ := h4
  rw [dt_congr r (N := fun a b => 2 ^ v a * C a b) (fun a b ha hb => (hC a b ha hb).1), dt_scale r (fun a => 2 ^ v a) C]
  refine Int.mul_ne_zero (dt_P_ne r (fun i hi => ?_)) (fun q => ?_)
  · exact Int.pow_ne_zero (by decide)
  · have z := dt_mod (N := 2) r C (fun a b => if a = b then 1 else 0) (fun a b ha hb => (hC a b ha hb).2)
    rw [dt_one, q] at z
    omega
