/-! two equal columns -/
theorem dt_S_anti {g : Nat → Nat → Int} : ∀ (n : Nat), (∀ i l, i < n → l < n → g i l = - g l i) → dt_S (fun i => dt_S (fun l => g i l) n) n = 0
  | 0, _ => rfl
  | n + 1, h => by
    show dt_S (fun i => dt_S (fun l => g i l) n + g i n) n + (dt_S (fun l => g n l) n + g n n) = 0
    rw [dt_S_add, dt_S_anti n (fun i l hi hl => h i l (by omega) (by omega))]
    have e1 : dt_S (fun i => g i n) n = - dt_S (fun l => g n l) n := by
      have : dt_S (fun i => g i n) n = dt_S (fun l => (-1) * g n l) n := dt_S_congr n (fun i hi => by
        show g i n = (-1) * g n i
        rw [h i n (by omega) (by omega)]
        omega)
      rw [this, dt_S_mul]
      exact Int.neg_one_mul _
    have e2 : g n n = 0 := by
      have := h n n (by omega) (by omega)
      omega
    rw [e1, e2]
    omega
theorem dt_S_skip (h : Nat → Int) : ∀ (n i : Nat), i ≤ n → dt_S (fun j => h (dt_k i j)) n + h i = dt_S h (n + 1)
  | 0, i, hi => by
    have : i = 0 := by omega
    subst this
    rfl
  | n + 1, i, hi => by
    show dt_S (fun j => h (dt_k i j)) n + h (dt_k i n) + h i = dt_S h (n + 1) + h (n + 1)
    by_cases e : i = n + 1
    · subst e
      have e1 : dt_S (fun j => h (dt_k (n + 1) j)) n = dt_S h n := dt_S_congr n (fun j hj => by
        show h (dt_k (n + 1) j) = h j
        rw [show dt_k (n + 1) j = j by unfold dt_k; rw [if_pos (by omega)]])
      rw [e1, show dt_k (n + 1) n = n by unfold dt_k; rw [if_pos (by omega)]]
      rfl
    · rw [show dt_k i n = n + 1 by unfold dt_k; rw [if_neg (by omega)]]
      have z := dt_S_skip h n i (by omega)
      omega
theorem dt_k2 {i l : Nat} (h : ¬ i = l) (a : Nat) : dt_k i (dt_k (dt_u i l) a) = dt_k l (dt_k (dt_u l i) a) := by
  unfold dt_k dt_u
  repeat' split
  all_goals omega
theorem dt_s2 {i l : Nat} (h : ¬ i = l) : dt_s i * dt_s (dt_u i l) = - (dt_s l * dt_s (dt_u l i)) := by
  have key : ∀ x y : Nat, x < y → dt_s y * dt_s x = - (dt_s x * dt_s (y - 1)) := fun x y hxy => by
    obtain ⟨z, rfl⟩ : ∃ z, y = z + 1 := ⟨y - 1, by omega⟩
    rw [dt_s_succ, Nat.add_sub_cancel, Int.neg_mul, Int.mul_comm]
  by_cases c : l < i
  · rw [show dt_u i l = l by unfold dt_u; rw [if_pos c], show dt_u l i = i - 1 by unfold dt_u; rw [if_neg (by omega)]]
    exact key l i c
  · rw [show dt_u i l = l - 1 by unfold dt_u; rw [if_neg c], show dt_u l i = i by unfold dt_u; rw [if_pos (by omega)]]
    have := key i l (by omega)
    omega
theorem dt_c01 (n : Nat) (M : Nat → Nat → Int) (he : ∀ a, a < n + 2 → M a 0 = M a 1) : dt (n + 2) M = 0 := by
  let G : Nat → Nat → Int := fun i l => if l = i then 0 else dt_s i * dt_s (dt_u i l) * (M i 0 * M l 0 * dt n (fun a b => M (dt_k i (dt_k (dt_u i l) a)) (b + 1 + 1)))
  have e1 : dt (n + 2) M = dt_S (fun i => dt_S (fun l => G i l) (n + 2)) (n + 2) := by
    refine dt_S_congr (n + 2) (fun i hi => ?_)
    show dt_s i * M i 0 * dt_S (fun j => dt_s j * M (dt_k i j) 1 * dt n (fun a b => M (dt_k i (dt_k j a)) (b + 1 + 1))) (n + 1) = dt_S (fun l => G i l) (n + 2)
    have z := dt_S_skip (fun l => G i l) (n + 1) i (by omega)
    have g0 : G i i = 0 := if_pos rfl
    rw [← z]
    show _ = dt_S (fun j => G i (dt_k i j)) (n + 1) + G i i
    rw [g0, Int.add_zero, ← dt_S_mul]
    refine dt_S_congr (n + 1) (fun j hj => ?_)
    show dt_s i * M i 0 * (dt_s j * M (dt_k i j) 1 * dt n (fun a b => M (dt_k i (dt_k j a)) (b + 1 + 1))) = G i (dt_k i j)
    have hu : dt_u i (dt_k i j) = j := ((dt_k_iff (fun q => dt_k_ne i j q.symm)).mp rfl).symm
    show _ = if dt_k i j = i then 0 else _
    rw [if_neg (dt_k_ne i j), hu, ← he (dt_k i j) (by unfold dt_k; split <;> omega)]
    simp only [Int.mul_assoc, Int.mul_left_comm]
  rw [e1]
  refine dt_S_anti (n + 2) (fun i l hi hl => ?_)
  by_cases e : l = i
  · subst e
    show (if l = l then 0 else _) = - (if l = l then 0 else _)
    rw [if_pos rfl]
    rfl
  · show (if l = i then 0 else _) = - (if i = l then 0 else _)
    rw [if_neg e, if_neg (fun q => e q.symm), dt_s2 (fun q => e q.symm)]
    have e2 : (fun a b => M (dt_k i (dt_k (dt_u i l) a)) (b + 1 + 1)) = (fun a b => M (dt_k l (dt_k (dt_u l i) a)) (b + 1 + 1)) := by
      funext a b
      rw [dt_k2 (fun q => e q.symm)]
    rw [e2, Int.neg_mul, Int.mul_comm (M i 0) (M l 0)]
theorem dt_cadj : ∀ (n : Nat) (M : Nat → Nat → Int) (c : Nat), c + 1 < n → (∀ a, a < n → M a c = M a (c + 1)) → dt n M = 0
  | 0, _, _, h, _ => absurd h (Nat.not_lt_zero _)
  | 1, _, _, h, _ => absurd h (by omega)
  | n + 2, M, 0, h, he => dt_c01 n M he
  | n + 2, M, c + 1, h, he => by
    refine dt_S_zero (n + 2) (fun i hi => ?_)
    show dt_s i * M i 0 * dt (n + 1) _ = 0
    rw [dt_cadj (n + 1) _ c (by omega) (fun a ha => he (dt_k i a) (by unfold dt_k; split <;> omega)), Int.mul_zero]
theorem dt_c_self (M : Nat → Nat → Int) (c : Nat) : dt_c M c (fun a => M a c) = M := by
  funext a b
  unfold dt_c
  split
  · rename_i e
    rw [e]
  · rfl
/-- columns r and r + 1 as given -/
def dt_d (M : Nat → Nat → Int) (r : Nat) (A B : Nat → Int) : Nat → Nat → Int := dt_c (dt_c M r A) (r + 1) B
theorem dt_d_comm (M : Nat → Nat → Int) (r : Nat) (A B : Nat → Int) : dt_d M r A B = dt_c (dt_c M (r + 1) B) r A := by
  funext a b
  unfold dt_d dt_c
  by_cases h1 : b = r + 1
  · subst h1
    rw [if_pos rfl, if_neg (by omega), if_pos rfl]
  · rw [if_neg h1]
    by_cases h2 : b = r
    · rw [if_pos h2, if_pos h2]
    · rw [if_neg h2, if_neg h2, if_neg h1]
theorem dt_d_eq {n : Nat} (M : Nat → Nat → Int) {r : Nat} (A : Nat → Int) (h : r + 1 < n) : dt n (dt_d M r A A) = 0 := by
  refine dt_cadj n _ r h (fun a ha => ?_)
  unfold dt_d dt_c
  rw [if_neg (by omega), if_pos rfl, if_pos rfl]
theorem dt_cswap {n : Nat} (M : Nat → Nat → Int) {r : Nat} (A B : Nat → Int) (h : r + 1 < n) : dt n (dt_d M r A B) = - dt n (dt_d M r B A) := by
  have e0 := dt_d_eq (n := n) M (fun b => A b + 1 * B b) h
  have l1 : ∀ X : Nat → Int, dt n (dt_d M r X (fun b => A b + 1 * B b)) = dt n (dt_d M r X A) + 1 * dt n (dt_d M r X B) := fun X => dt_col_lin n (dt_c M r X) (r + 1) A B 1 h
  have l2 : ∀ X : Nat → Int, dt n (dt_d M r (fun b => A b + 1 * B b) X) = dt n (dt_d M r A X) + 1 * dt n (dt_d M r B X) := fun X => by
    rw [dt_d_comm, dt_d_comm, dt_d_comm]
    exact dt_col_lin n _ r A B 1 (by omega)
  rw [l1, l2, l2, dt_d_eq M A h, dt_d_eq M B h] at e0
  omega
theorem dt_eqc {n : Nat} : ∀ (d : Nat) (M : Nat → Nat → Int) (r : Nat), r + 1 + d < n → (∀ a, a < n → M a r = M a (r + 1 + d)) → dt n M = 0
  | 0, M, r, h, he => dt_cadj n M r h he
  | d + 1, M, r, h, he => by
    have e1 : dt n M = dt n (dt_d M (r + 1 + d) (fun a => M a (r + 1 + d)) (fun a => M a (r + 1 + d + 1))) := by
      unfold dt_d
      rw [dt_c_self, dt_c_self]
    rw [e1, dt_cswap M _ _ (by omega), dt_eqc d (dt_d M (r + 1 + d) (fun a => M a (r + 1 + d + 1)) (fun a => M a (r + 1 + d))) r (by omega) (fun a ha => ?_)]
    · rfl
    · unfold dt_d dt_c
      rw [if_neg (by omega), if_neg (by omega), if_neg (by omega), if_pos rfl]
      exact he a ha
theorem dt_eqc' {n : Nat} {M : Nat → Nat → Int} {a b : Nat} (ha : a < n) (hb : b < n) (hab : a ≠ b) (he : ∀ c, c < n → M c a = M c b) : dt n M = 0 := by
  rcases Nat.lt_or_gt_of_ne hab with h | h
  · have e : a + 1 + (b - a - 1) = b := by omega
    exact dt_eqc (b - a - 1) M a (by omega) (fun c hc => by rw [e]; exact he c hc)
  · have e : b + 1 + (a - b - 1) = a := by omega
    exact dt_eqc (a - b - 1) M b (by omega) (fun c hc => by rw [e]; exact (he c hc).symm)
theorem dt_nincj {r : Nat} {k : Nat → Nat} (h : ¬ dt_inj r k) (X : Nat → Nat → Int) (i : Nat → Nat) : dt r (fun a b => X (i a) (k b)) = 0 := by
  have h1 : ∃ a b, a < r ∧ b < r ∧ k a = k b ∧ a ≠ b := Classical.byContradiction (fun q => h (fun a b ha hb e => Classical.byContradiction (fun ne => q ⟨a, b, ha, hb, e, ne⟩)))
  obtain ⟨a, b, ha, hb, e, ne⟩ := h1
  exact dt_eqc' ha hb ne (fun c _ => by show X (i c) (k a) = X (i c) (k b); rw [e])
/-- THE PRODUCT IS NOT 0, columns chosen once each: A comes by steps that keep divisors of minors, both ways, to B, which is the diagonal d modulo 2 ^ k -/
theorem dt_prod2 {m c r k : Nat} {A B : Nat → Nat → Int} {d : Nat → Int} {K : Nat → Int} (hr : r ≤ m) (hrc : r ≤ c) (h1 : ∀ N, mv N r m c A → mv N r m c B) (h2 : ∀ N, mv N r m c B → mv N r m c A) (hd : ∀ a, a < r → d a ≠ 0 ∧ (d a).natAbs < 2 ^ k) (hB : ∀ a b, a < m → b < c → (2 : Int) ^ k ∣ (if a = b ∧ a < r then d a else 0) - B a b) (hK : ∀ j, dt_S (fun i => ((A i j).natAbs : Int)) m ≤ K j) (hK0 : ∀ j, 0 ≤ K j) (hP : ∀ f : Nat → Nat, (∀ b, b < r → f b < c) → dt_inj r f → dt_P (fun b => K (f b)) r < 2 ^ k) : ¬ (2 : Int) ^ k ∣ dt_P d r := by
  intro hdv
  have hA := h2 _ (mv_mod (mv_diag (m := m) (c := c) hdv) hB)
  have hz : mv 0 r m c A := fun i f hi hf => by
    by_cases hj : dt_inj r i
    · by_cases hfj : dt_inj r f
      rotate_left
      · rw [dt_nincj hfj A i]
        exact Int.dvd_zero 0
      have b1 := (dt_bound hK hK0 r i f hi hj).1
      have b2 := hP f hf hfj
      obtain ⟨e, he⟩ := hA i f hi hf
      have : dt r (fun a b => A (i a) (f b)) = 0 := by
        rcases Classical.em (e = 0) with q | q
        · rw [he, q, Int.mul_zero]
        · exfalso
          have h3 : (dt r (fun a b => A (i a) (f b))).natAbs = 2 ^ k * e.natAbs := by
            rw [he, Int.natAbs_mul, Int.natAbs_pow]
            rfl
          have h4 : 1 ≤ e.natAbs := Nat.pos_of_ne_zero (fun z => q (Int.natAbs_eq_zero.mp z))
          have h5 : 2 ^ k * 1 ≤ 2 ^ k * e.natAbs := Nat.mul_le_mul_left _ h4
          have h6 : ((2 ^ k : Nat) : Int) = (2 : Int) ^ k := by simp
          omega
      rw [this]
      exact Int.dvd_zero 0
    · rw [dt_ninj hj A f]
      exact Int.dvd_zero 0
  have hB0 := h1 0 hz (fun a => a) (fun b => b) (fun a ha => by show a < m; omega) (fun b hb => by show b < c; omega)
  refine dt_lead (r := r) (k := k) (d := d) (B := B) hd (fun a b ha hb => ?_) (Int.zero_dvd.mp hB0)
  have z := hB a b (by omega) (by omega)
  by_cases e : a = b
  · rw [if_pos ⟨e, ha⟩] at z
    rw [if_pos e]
    have := Int.dvd_neg.mpr z
    rwa [Int.neg_sub] at this
  · rw [if_neg (fun q => e q.1)] at z
    rw [if_neg e]
    have := Int.dvd_neg.mpr z
    rwa [Int.neg_sub] at this
