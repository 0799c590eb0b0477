/-! DETERMINANTS of whole numbers, by the first column: linear in each row and each column, 0 with two equal rows. -/
def dt_S (f : Nat → Int) : Nat → Int
  | 0 => 0
  | n + 1 => dt_S f n + f n
theorem dt_S_congr {f g : Nat → Int} : ∀ (n : Nat), (∀ i, i < n → f i = g i) → dt_S f n = dt_S g n
  | 0, _ => rfl
  | n + 1, h => by
    show dt_S f n + f n = dt_S g n + g n
    rw [dt_S_congr n (fun i hi => h i (by omega)), h n (by omega)]
theorem dt_S_add (f g : Nat → Int) : ∀ (n : Nat), dt_S (fun i => f i + g i) n = dt_S f n + dt_S g n
  | 0 => rfl
  | n + 1 => by
    show dt_S (fun i => f i + g i) n + (f n + g n) = dt_S f n + f n + (dt_S g n + g n)
    rw [dt_S_add f g n]
    omega
theorem dt_S_mul (c : Int) (f : Nat → Int) : ∀ (n : Nat), dt_S (fun i => c * f i) n = c * dt_S f n
  | 0 => by simp [dt_S]
  | n + 1 => by
    show dt_S (fun i => c * f i) n + c * f n = c * (dt_S f n + f n)
    rw [dt_S_mul c f n, Int.mul_add]
theorem dt_S_zero {f : Nat → Int} : ∀ (n : Nat), (∀ i, i < n → f i = 0) → dt_S f n = 0
  | 0, _ => rfl
  | n + 1, h => by
    show dt_S f n + f n = 0
    rw [dt_S_zero n (fun i hi => h i (by omega)), h n (by omega)]
    rfl
def dt_k (i a : Nat) : Nat := if a < i then a else a + 1
def dt_u (i r : Nat) : Nat := if r < i then r else r - 1
def dt_s (i : Nat) : Int := if i % 2 = 0 then 1 else -1
def dt : Nat → (Nat → Nat → Int) → Int
  | 0, _ => 1
  | n + 1, M => dt_S (fun i => dt_s i * M i 0 * dt n (fun a b => M (dt_k i a) (b + 1))) (n + 1)
theorem dt_congr : ∀ (n : Nat) {M N : Nat → Nat → Int}, (∀ a b, a < n → b < n → M a b = N a b) → dt n M = dt n N
  | 0, _, _, _ => rfl
  | n + 1, M, N, h => by
    refine dt_S_congr (n + 1) (fun i hi => ?_)
    show dt_s i * M i 0 * dt n _ = dt_s i * N i 0 * dt n _
    rw [h i 0 hi (by omega), dt_congr n (fun a b ha hb => h (dt_k i a) (b + 1) (by unfold dt_k; split <;> omega) (by omega))]
/-- row r replaced -/
def dt_r (M : Nat → Nat → Int) (r : Nat) (K : Nat → Int) : Nat → Nat → Int := fun a b => if a = r then K b else M a b
/-- column c replaced -/
def dt_c (M : Nat → Nat → Int) (c : Nat) (K : Nat → Int) : Nat → Nat → Int := fun a b => if b = c then K a else M a b
theorem dt_k_ne (i a : Nat) : dt_k i a ≠ i := by
  unfold dt_k
  split <;> omega
theorem dt_k_iff {i r a : Nat} (h : ¬ i = r) : dt_k i a = r ↔ a = dt_u i r := by
  unfold dt_k dt_u
  split <;> split <;> omega
theorem dt_row_min {M : Nat → Nat → Int} {i r : Nat} {K : Nat → Int} (h : ¬ i = r) : (fun a b => dt_r M r K (dt_k i a) (b + 1)) = dt_r (fun a b => M (dt_k i a) (b + 1)) (dt_u i r) (fun b => K (b + 1)) := by
  funext a b
  unfold dt_r
  by_cases e : dt_k i a = r
  · rw [if_pos e, if_pos ((dt_k_iff h).mp e)]
  · rw [if_neg e, if_neg (fun q => e ((dt_k_iff h).mpr q))]
theorem dt_row_lin : ∀ (n : Nat) (M : Nat → Nat → Int) (r : Nat) (A B : Nat → Int) (q : Int), r < n → dt n (dt_r M r (fun b => A b + q * B b)) = dt n (dt_r M r A) + q * dt n (dt_r M r B)
  | 0, _, _, _, _, _, h => absurd h (Nat.not_lt_zero _)
  | n + 1, M, r, A, B, q, h => by
    show dt_S _ (n + 1) = dt_S _ (n + 1) + q * dt_S _ (n + 1)
    rw [← dt_S_mul, ← dt_S_add]
    refine dt_S_congr (n + 1) (fun i hi => ?_)
    by_cases e : i = r
    · subst e
      have m : ∀ K : Nat → Int, (fun a b => dt_r M i K (dt_k i a) (b + 1)) = fun a b => M (dt_k i a) (b + 1) := fun K => by
        funext a b
        unfold dt_r
        rw [if_neg (dt_k_ne i a)]
      rw [m, m, m]
      simp only [dt_r, if_true]
      rw [Int.mul_add, Int.add_mul]
      have e1 : dt_s i * (q * B 0) = q * (dt_s i * B 0) := by rw [← Int.mul_assoc, ← Int.mul_assoc, Int.mul_comm (dt_s i) q]
      rw [e1, Int.mul_assoc q]
    · have hn : dt_u i r < n := by unfold dt_u; split <;> omega
      have c0 : ∀ K : Nat → Int, dt_r M r K i 0 = M i 0 := fun K => by unfold dt_r; rw [if_neg e]
      rw [dt_row_min e, dt_row_min e, dt_row_min e, c0, c0, c0, dt_row_lin n _ (dt_u i r) (fun b => A (b + 1)) (fun b => B (b + 1)) q hn, Int.mul_add]
      congr 1
      rw [← Int.mul_assoc, ← Int.mul_assoc, Int.mul_comm _ q]
theorem dt_col_lin : ∀ (n : Nat) (M : Nat → Nat → Int) (c : Nat) (A B : Nat → Int) (q : Int), c < n → dt n (dt_c M c (fun a => A a + q * B a)) = dt n (dt_c M c A) + q * dt n (dt_c M c B)
  | 0, _, _, _, _, _, h => absurd h (Nat.not_lt_zero _)
  | n + 1, M, 0, A, B, q, h => by
    show dt_S _ (n + 1) = dt_S _ (n + 1) + q * dt_S _ (n + 1)
    rw [← dt_S_mul, ← dt_S_add]
    refine dt_S_congr (n + 1) (fun i hi => ?_)
    have m : ∀ K : Nat → Int, (fun a b => dt_c M 0 K (dt_k i a) (b + 1)) = fun a b => M (dt_k i a) (b + 1) := fun K => by
      funext a b
      unfold dt_c
      rw [if_neg (by omega)]
    rw [m, m, m]
    simp only [dt_c, if_true]
    rw [Int.mul_add, Int.add_mul]
    have e1 : dt_s i * (q * B i) = q * (dt_s i * B i) := by rw [← Int.mul_assoc, ← Int.mul_assoc, Int.mul_comm (dt_s i) q]
    rw [e1, Int.mul_assoc q]
  | n + 1, M, c + 1, A, B, q, h => by
    show dt_S _ (n + 1) = dt_S _ (n + 1) + q * dt_S _ (n + 1)
    rw [← dt_S_mul, ← dt_S_add]
    refine dt_S_congr (n + 1) (fun i hi => ?_)
    have m : ∀ K : Nat → Int, (fun a b => dt_c M (c + 1) K (dt_k i a) (b + 1)) = dt_c (fun a b => M (dt_k i a) (b + 1)) c (fun a => K (dt_k i a)) := fun K => by
      funext a b
      unfold dt_c
      by_cases e : b = c
      · subst e
        rw [if_pos rfl, if_pos rfl]
      · rw [if_neg e, if_neg (by omega)]
    have c0 : ∀ K : Nat → Int, dt_c M (c + 1) K i 0 = M i 0 := fun K => by unfold dt_c; rw [if_neg (by omega)]
    rw [m, m, m, c0, c0, c0, dt_col_lin n _ c (fun a => A (dt_k i a)) (fun a => B (dt_k i a)) q (by omega), Int.mul_add]
    congr 1
    rw [← Int.mul_assoc, ← Int.mul_assoc, Int.mul_comm _ q]
