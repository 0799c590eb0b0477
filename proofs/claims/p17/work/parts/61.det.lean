/-! two equal rows; divisors of all minors stay under steps of elimination -/
theorem dt_S_two {f : Nat → Int} {r : Nat} (h2 : f r + f (r + 1) = 0) : ∀ (n : Nat), r + 1 < n → (∀ i, i < n → ¬ i = r → ¬ i = r + 1 → f i = 0) → dt_S f n = 0
  | 0, h, _ => absurd h (Nat.not_lt_zero _)
  | n + 1, h, h0 => by
    by_cases e : r + 1 = n
    · subst e
      show dt_S f r + f r + f (r + 1) = 0
      rw [dt_S_zero r (fun i hi => h0 i (by omega) (by omega) (by omega))]
      omega
    · show dt_S f n + f n = 0
      rw [dt_S_two h2 n (by omega) (fun i hi => h0 i (by omega)), h0 n (by omega) (by omega) (by omega)]
      rfl
theorem dt_s_succ (r : Nat) : dt_s (r + 1) = - dt_s r := by
  unfold dt_s
  split <;> split <;> omega
theorem dt_adj : ∀ (n : Nat) (M : Nat → Nat → Int) (r : Nat), r + 1 < n → (∀ b, b < n → M r b = M (r + 1) b) → dt n M = 0
  | 0, _, _, h, _ => absurd h (Nat.not_lt_zero _)
  | n + 1, M, r, h, he => by
    refine dt_S_two (r := r) ?_ (n + 1) h (fun i hi h1 h2 => ?_)
    · show dt_s r * M r 0 * dt n _ + dt_s (r + 1) * M (r + 1) 0 * dt n _ = 0
      rw [dt_s_succ, ← he 0 (by omega)]
      have e : dt n (fun a b => M (dt_k r a) (b + 1)) = dt n (fun a b => M (dt_k (r + 1) a) (b + 1)) := by
        refine dt_congr n (fun a b ha hb => ?_)
        show M (dt_k r a) (b + 1) = M (dt_k (r + 1) a) (b + 1)
        by_cases c : a = r
        · subst c
          rw [show dt_k a a = a + 1 by unfold dt_k; rw [if_neg (by omega)], show dt_k (a + 1) a = a by unfold dt_k; rw [if_pos (by omega)]]
          exact (he (b + 1) (by omega)).symm
        · rw [show dt_k r a = dt_k (r + 1) a by unfold dt_k; split <;> split <;> omega]
      rw [e, Int.neg_mul, Int.neg_mul]
      exact Int.add_right_neg _
    · show dt_s i * M i 0 * dt n _ = 0
      rw [dt_adj n _ (dt_u i r) (by unfold dt_u; split <;> omega) (fun b hb => ?_), Int.mul_zero]
      show M (dt_k i (dt_u i r)) (b + 1) = M (dt_k i (dt_u i r + 1)) (b + 1)
      have u1 : dt_u i r + 1 = dt_u i (r + 1) := by unfold dt_u; split <;> split <;> omega
      rw [(dt_k_iff h1).mpr rfl, u1, (dt_k_iff h2).mpr rfl]
      exact he (b + 1) (by omega)
theorem dt_r_self (M : Nat → Nat → Int) (r : Nat) : dt_r M r (M r) = M := by
  funext a b
  unfold dt_r
  split
  · rename_i e
    rw [e]
  · rfl
/-- rows r and r + 1 as given -/
def dt_2 (M : Nat → Nat → Int) (r : Nat) (A B : Nat → Int) : Nat → Nat → Int := dt_r (dt_r M r A) (r + 1) B
theorem dt_2_comm (M : Nat → Nat → Int) (r : Nat) (A B : Nat → Int) : dt_2 M r A B = dt_r (dt_r M (r + 1) B) r A := by
  funext a b
  unfold dt_2 dt_r
  by_cases h1 : a = r + 1
  · subst h1
    rw [if_pos rfl, if_neg (by omega), if_pos rfl]
  · rw [if_neg h1]
    by_cases h2 : a = r
    · rw [if_pos h2, if_pos h2]
    · rw [if_neg h2, if_neg h2, if_neg h1]
theorem dt_2_eq {n : Nat} (M : Nat → Nat → Int) {r : Nat} (A : Nat → Int) (h : r + 1 < n) : dt n (dt_2 M r A A) = 0 := by
  refine dt_adj n _ r h (fun b hb => ?_)
  unfold dt_2 dt_r
  rw [if_neg (by omega), if_pos rfl, if_pos rfl]
theorem dt_swap {n : Nat} (M : Nat → Nat → Int) {r : Nat} (A B : Nat → Int) (h : r + 1 < n) : dt n (dt_2 M r A B) = - dt n (dt_2 M r B A) := by
  have e0 := dt_2_eq (n := n) M (fun b => A b + 1 * B b) h
  have l1 : ∀ X : Nat → Int, dt n (dt_2 M r X (fun b => A b + 1 * B b)) = dt n (dt_2 M r X A) + 1 * dt n (dt_2 M r X B) := fun X => dt_row_lin n (dt_r M r X) (r + 1) A B 1 h
  have l2 : ∀ X : Nat → Int, dt n (dt_2 M r (fun b => A b + 1 * B b) X) = dt n (dt_2 M r A X) + 1 * dt n (dt_2 M r B X) := fun X => by
    rw [dt_2_comm, dt_2_comm, dt_2_comm]
    exact dt_row_lin n _ r A B 1 (by omega)
  rw [l1, l2, l2, dt_2_eq M A h, dt_2_eq M B h] at e0
  omega
theorem dt_eqr {n : Nat} : ∀ (d : Nat) (M : Nat → Nat → Int) (r : Nat), r + 1 + d < n → (∀ b, b < n → M r b = M (r + 1 + d) b) → dt n M = 0
  | 0, M, r, h, he => dt_adj n M r h he
  | d + 1, M, r, h, he => by
    have e1 : dt n M = dt n (dt_2 M (r + 1 + d) (M (r + 1 + d)) (M (r + 1 + d + 1))) := by
      unfold dt_2
      rw [dt_r_self, dt_r_self]
    rw [e1, dt_swap M _ _ (by omega), dt_eqr d (dt_2 M (r + 1 + d) (M (r + 1 + d + 1)) (M (r + 1 + d))) r (by omega) (fun b hb => ?_)]
    · rfl
    · unfold dt_2 dt_r
      rw [if_neg (by omega), if_neg (by omega), if_neg (by omega), if_pos rfl]
      exact he b hb
/-- every minor of size r, out of m rows and c columns, is a multiple of N -/
def mv (N : Int) (r m c : Nat) (X : Nat → Nat → Int) : Prop := ∀ i k : Nat → Nat, (∀ a, a < r → i a < m) → (∀ b, b < r → k b < c) → N ∣ dt r (fun a b => X (i a) (k b))
theorem mv_rows {N : Int} {r m c : Nat} {X : Nat → Nat → Int} (h : mv N r m c X) (f : Nat → Nat) (hf : ∀ a, a < m → f a < m) : mv N r m c (fun a b => X (f a) b) := fun i k hi hk => h (fun a => f (i a)) k (fun a ha => hf _ (hi a ha)) hk
theorem mv_cols {N : Int} {r m c : Nat} {X : Nat → Nat → Int} (h : mv N r m c X) (f : Nat → Nat) (hf : ∀ a, a < c → f a < c) : mv N r m c (fun a b => X a (f b)) := fun i k hi hk => h i (fun b => f (k b)) hi (fun b hb => hf _ (hk b hb))
theorem mv_congr {N : Int} {r m c : Nat} {X Y : Nat → Nat → Int} (h : mv N r m c X) (e : ∀ a b, a < m → b < c → X a b = Y a b) : mv N r m c Y := fun i k hi hk => by
  rw [← dt_congr r (M := fun a b => X (i a) (k b)) (fun a b ha hb => e _ _ (hi a ha) (hk b hb))]
  exact h i k hi hk
theorem mv_mod {N : Int} {r m c : Nat} {X Y : Nat → Nat → Int} (h : mv N r m c X) (e : ∀ a b, a < m → b < c → N ∣ X a b - Y a b) : mv N r m c Y := by
  have key : ∀ (p : Nat), p ≤ r → ∀ i k : Nat → Nat, (∀ a, a < r → i a < m) → (∀ b, b < r → k b < c) → N ∣ dt r (fun a b => if a < p then Y (i a) (k b) else X (i a) (k b)) := by
    intro p
    induction p with
    | zero =>
      intro _ i k hi hk
      exact h i k hi hk
    | succ p ih =>
      intro hp i k hi hk
      have z := ih (by omega) i k hi hk
      have e1 : (fun a b => if a < p + 1 then Y (i a) (k b) else X (i a) (k b)) = dt_r (fun a b => if a < p then Y (i a) (k b) else X (i a) (k b)) p (fun b => X (i p) (k b) + (-1) * (X (i p) (k b) - Y (i p) (k b))) := by
        funext a b
        simp only [dt_r]
        by_cases h1 : a = p
        · subst h1
          rw [if_pos rfl, if_pos (by omega)]
          omega
        · rw [if_neg h1]
          by_cases h2 : a < p
          · rw [if_pos h2, if_pos (by omega)]
          · rw [if_neg h2, if_neg (by omega)]
      have e2 : dt_r (fun a b => if a < p then Y (i a) (k b) else X (i a) (k b)) p (fun b => X (i p) (k b)) = (fun a b => if a < p then Y (i a) (k b) else X (i a) (k b)) := by
        funext a b
        simp only [dt_r]
        by_cases h1 : a = p
        · subst h1
          rw [if_pos rfl, if_neg (by omega)]
        · rw [if_neg h1]
      rw [e1, dt_row_lin r _ p _ _ (-1) (by omega), e2]
      refine Int.dvd_add z (Int.dvd_mul_of_dvd_right ?_)
      exact dt_row_dvd r _ p _ (by omega) (fun b hb => e _ _ (hi p (by omega)) (hk b hb))
  intro i k hi hk
  have z := key r (Nat.le_refl r) i k hi hk
  rw [dt_congr r (N := fun a b => Y (i a) (k b)) (fun a b ha hb => by rw [if_pos ha])] at z
  exact z
where
  dt_row_dvd {N : Int} : ∀ (n : Nat) (M : Nat → Nat → Int) (r : Nat) (K : Nat → Int), r < n → (∀ b, b < n → N ∣ K b) → N ∣ dt n (dt_r M r K)
  | 0, _, _, _, h, _ => absurd h (Nat.not_lt_zero _)
  | n + 1, M, r, K, h, hK => by
    have hS : ∀ (m : Nat) (f : Nat → Int), (∀ i, i < m → N ∣ f i) → N ∣ dt_S f m := by
      intro m f
      induction m with
      | zero => intro _; exact Int.dvd_zero N
      | succ m ih => intro hf; exact Int.dvd_add (ih (fun i hi => hf i (by omega))) (hf m (by omega))
    refine hS (n + 1) _ (fun i hi => ?_)
    by_cases e : i = r
    · subst e
      have z : dt_r M i K i 0 = K 0 := by unfold dt_r; rw [if_pos rfl]
      rw [z, Int.mul_assoc, Int.mul_comm (K 0), ← Int.mul_assoc]
      exact Int.dvd_mul_of_dvd_right (hK 0 (by omega))
    · rw [dt_row_min e]
      exact Int.dvd_mul_of_dvd_right (dt_row_dvd n _ (dt_u i r) _ (by unfold dt_u; split <;> omega) (fun b hb => hK (b + 1) (by omega)))
theorem mv_rowop {N : Int} {r m c : Nat} {X : Nat → Nat → Int} (h : mv N r m c X) {i0 t0 : Nat} (ht : t0 < m) (q : Int) : mv N r m c (fun a b => if a = i0 then X i0 b + q * X t0 b else X a b) := by
  have key : ∀ (p : Nat), p ≤ r → ∀ i k : Nat → Nat, (∀ a, a < r → i a < m) → (∀ b, b < r → k b < c) → N ∣ dt r (fun a b => if a < p then (if i a = i0 then X i0 (k b) + q * X t0 (k b) else X (i a) (k b)) else X (i a) (k b)) := by
    intro p
    induction p with
    | zero =>
      intro _ i k hi hk
      exact h i k hi hk
    | succ p ih =>
      intro hp i k hi hk
      have z := ih (by omega) i k hi hk
      by_cases c1 : i p = i0
      · have z2 := ih (by omega) (fun a => if a = p then t0 else i a) k (fun a ha => by show (if a = p then t0 else i a) < m; split; exact ht; exact hi a ha) hk
        have e1 : (fun a b => if a < p + 1 then (if i a = i0 then X i0 (k b) + q * X t0 (k b) else X (i a) (k b)) else X (i a) (k b)) = dt_r (fun a b => if a < p then (if i a = i0 then X i0 (k b) + q * X t0 (k b) else X (i a) (k b)) else X (i a) (k b)) p (fun b => X i0 (k b) + q * X t0 (k b)) := by
          funext a b
          simp only [dt_r]
          by_cases h1 : a = p
          · subst h1
            rw [if_pos rfl, if_pos (by omega), if_pos c1]
          · rw [if_neg h1]
            by_cases h2 : a < p
            · rw [if_pos h2, if_pos (by omega)]
            · rw [if_neg h2, if_neg (by omega)]
        have e2 : dt_r (fun a b => if a < p then (if i a = i0 then X i0 (k b) + q * X t0 (k b) else X (i a) (k b)) else X (i a) (k b)) p (fun b => X i0 (k b)) = (fun a b => if a < p then (if i a = i0 then X i0 (k b) + q * X t0 (k b) else X (i a) (k b)) else X (i a) (k b)) := by
          funext a b
          simp only [dt_r]
          by_cases h1 : a = p
          · subst h1
            rw [if_pos rfl, if_neg (by omega), c1]
          · rw [if_neg h1]
        have e3 : dt_r (fun a b => if a < p then (if i a = i0 then X i0 (k b) + q * X t0 (k b) else X (i a) (k b)) else X (i a) (k b)) p (fun b => X t0 (k b)) = (fun a b => if a < p then (if (fun a => if a = p then t0 else i a) a = i0 then X i0 (k b) + q * X t0 (k b) else X ((fun a => if a = p then t0 else i a) a) (k b)) else X ((fun a => if a = p then t0 else i a) a) (k b)) := by
          funext a b
          simp only [dt_r]
          by_cases h1 : a = p
          · subst h1
            rw [if_pos rfl, if_neg (by omega)]
            simp
          · rw [if_neg h1]
            simp only [if_neg h1]
        rw [e1, dt_row_lin r _ p _ _ q (by omega), e2, e3]
        exact Int.dvd_add z (Int.dvd_mul_of_dvd_right z2)
      · have e1 : (fun a b => if a < p + 1 then (if i a = i0 then X i0 (k b) + q * X t0 (k b) else X (i a) (k b)) else X (i a) (k b)) = (fun a b => if a < p then (if i a = i0 then X i0 (k b) + q * X t0 (k b) else X (i a) (k b)) else X (i a) (k b)) := by
          funext a b
          by_cases h1 : a = p
          · subst h1
            simp [c1]
          · by_cases h2 : a < p
            · rw [if_pos h2, if_pos (by omega)]
            · rw [if_neg h2, if_neg (by omega)]
        rw [e1]
        exact z
  intro i k hi hk
  have z := key r (Nat.le_refl r) i k hi hk
  rw [dt_congr r (N := fun a b => if i a = i0 then X i0 (k b) + q * X t0 (k b) else X (i a) (k b)) (fun a b ha hb => by rw [if_pos ha])] at z
  exact z
