/-! the bound of a minor; the minors of a diagonal; so: the diagonal's product is not 0 modulo 2 ^ k -/
def dt_inj (r : Nat) (i : Nat → Nat) : Prop := ∀ a b, a < r → b < r → i a = i b → a = b
theorem dt_S_upd (f : Nat → Int) (j : Nat) : ∀ (m : Nat), j < m → dt_S (fun i => if i = j then 0 else f i) m = dt_S f m - f j
  | 0, h => absurd h (Nat.not_lt_zero _)
  | m + 1, h => by
    show dt_S (fun i => if i = j then 0 else f i) m + (if m = j then 0 else f m) = dt_S f m + f m - f j
    by_cases c : m = j
    · subst c
      rw [if_pos rfl, dt_S_congr m (g := f) (fun i hi => by rw [if_neg (by omega)])]
      omega
    · rw [if_neg c, dt_S_upd f j m (by omega)]
      omega
theorem dt_S_nonneg {f : Nat → Int} : ∀ (n : Nat), (∀ i, i < n → 0 ≤ f i) → 0 ≤ dt_S f n
  | 0, _ => Int.le_refl 0
  | n + 1, h => by
    have a := dt_S_nonneg n (fun i hi => h i (by omega))
    have b := h n (by omega)
    show 0 ≤ dt_S f n + f n
    omega
theorem dt_S_inj {m : Nat} : ∀ (r : Nat) (f : Nat → Int) (i : Nat → Nat), (∀ x, 0 ≤ f x) → (∀ a, a < r → i a < m) → dt_inj r i → dt_S (fun a => f (i a)) r ≤ dt_S f m
  | 0, f, i, h0, _, _ => dt_S_nonneg m (fun x _ => h0 x)
  | r + 1, f, i, h0, hi, hj => by
    have z := dt_S_inj r (fun x => if x = i r then 0 else f x) i (fun x => by
      show 0 ≤ if x = i r then 0 else f x
      split
      · exact Int.le_refl 0
      · exact h0 x) (fun a ha => hi a (by omega)) (fun a b ha hb => hj a b (by omega) (by omega))
    rw [dt_S_upd f (i r) m (hi r (by omega)), dt_S_congr r (g := fun a => f (i a)) (fun a ha => by
      show (if i a = i r then 0 else f (i a)) = f (i a)
      rw [if_neg (fun q => by have := hj a r (by omega) (by omega) q; omega)])] at z
    show dt_S (fun a => f (i a)) r + f (i r) ≤ dt_S f m
    omega
theorem dt_k_inj {r i0 : Nat} {i : Nat → Nat} (h : dt_inj (r + 1) i) : dt_inj r (fun a => i (dt_k i0 a)) := fun a b ha hb e => by
  have z := h (dt_k i0 a) (dt_k i0 b) (by unfold dt_k; split <;> omega) (by unfold dt_k; split <;> omega) e
  revert z
  unfold dt_k
  split <;> split <;> omega
theorem dt_S_abs {f g : Nat → Int} (c : Int) : ∀ (n : Nat), (∀ i, i < n → (f i).natAbs ≤ (g i * c).toNat ∧ 0 ≤ g i * c) → ((dt_S f n).natAbs : Int) ≤ dt_S g n * c
  | 0, _ => by simp [dt_S]
  | n + 1, h => by
    have z := dt_S_abs c n (fun i hi => h i (by omega))
    obtain ⟨h1, h2⟩ := h n (by omega)
    show ((dt_S f n + f n).natAbs : Int) ≤ (dt_S g n + g n) * c
    rw [Int.add_mul]
    omega
theorem dt_bound {m : Nat} {A : Nat → Nat → Int} {K : Nat → Int} (hK : ∀ j, dt_S (fun i => ((A i j).natAbs : Int)) m ≤ K j) (hK0 : ∀ j, 0 ≤ K j) : ∀ (r : Nat) (i k : Nat → Nat), (∀ a, a < r → i a < m) → dt_inj r i → ((dt r (fun a b => A (i a) (k b))).natAbs : Int) ≤ dt_P (fun b => K (k b)) r ∧ 0 ≤ dt_P (fun b => K (k b)) r
  | 0, _, _, _, _ => ⟨by show ((1 : Int).natAbs : Int) ≤ 1; decide, by show (0 : Int) ≤ 1; decide⟩
  | r + 1, i, k, hi, hj => by
    have ih : ∀ i0, i0 < r + 1 → ((dt r (fun a b => A (i (dt_k i0 a)) (k (b + 1)))).natAbs : Int) ≤ dt_P (fun b => K (k (b + 1))) r ∧ 0 ≤ dt_P (fun b => K (k (b + 1))) r := fun i0 h0 => dt_bound hK hK0 r (fun a => i (dt_k i0 a)) (fun b => k (b + 1)) (fun a ha => hi _ (by unfold dt_k; split <;> omega)) (dt_k_inj hj)
    have eP : ∀ (n : Nat), dt_P (fun b => K (k b)) (n + 1) = K (k 0) * dt_P (fun b => K (k (b + 1))) n := by
      intro n
      induction n with
      | zero => show (1 : Int) * K (k 0) = K (k 0) * 1; omega
      | succ n ihn => show dt_P (fun b => K (k b)) (n + 1) * K (k (n + 1)) = K (k 0) * (dt_P (fun b => K (k (b + 1))) n * K (k (n + 1))); rw [ihn, Int.mul_assoc]
    have hp := (ih 0 (by omega)).2
    have z := dt_S_abs (f := fun i0 => dt_s i0 * A (i i0) (k 0) * dt r (fun a b => A (i (dt_k i0 a)) (k (b + 1)))) (g := fun i0 => ((A (i i0) (k 0)).natAbs : Int)) (dt_P (fun b => K (k (b + 1))) r) (r + 1) (fun i0 h0 => by
      have e1 : (dt_s i0).natAbs = 1 := by unfold dt_s; split <;> rfl
      have h2 : 0 ≤ ((A (i i0) (k 0)).natAbs : Int) * dt_P (fun b => K (k (b + 1))) r := Int.mul_nonneg (by omega) hp
      refine ⟨?_, h2⟩
      show (dt_s i0 * A (i i0) (k 0) * dt r (fun a b => A (i (dt_k i0 a)) (k (b + 1)))).natAbs ≤ (((A (i i0) (k 0)).natAbs : Int) * dt_P (fun b => K (k (b + 1))) r).toNat
      rw [Int.natAbs_mul, Int.natAbs_mul, e1, Nat.one_mul]
      have h3 := Int.mul_le_mul_of_nonneg_left (ih i0 h0).1 (show (0 : Int) ≤ ((A (i i0) (k 0)).natAbs : Int) by omega)
      rw [← Int.natCast_mul] at h3
      omega)
    have y := dt_S_inj (m := m) (r + 1) (fun x => ((A x (k 0)).natAbs : Int)) i (fun x => by omega) hi hj
    have y2 := Int.mul_le_mul_of_nonneg_right (Int.le_trans y (hK (k 0))) hp
    rw [eP]
    exact ⟨Int.le_trans z y2, Int.mul_nonneg (hK0 _) hp⟩
theorem dt_P_perm : ∀ (r : Nat) (d : Nat → Int) (i : Nat → Nat), (∀ a, a < r → i a < r) → dt_inj r i → dt_P (fun a => d (i a)) r = dt_P d r
  | 0, _, _, _, _ => rfl
  | r + 1, d, i, hi, hj => by
    have hne : ∀ a, a < r → ¬ i r = i a := fun a ha q => by
      have := hj r a (by omega) (by omega) q
      omega
    have z := dt_P_perm r (fun x => d (dt_k (i r) x)) (fun a => dt_u (i r) (i a)) (fun a ha => by
      have h1 := hi a (by omega)
      have h2 := hi r (by omega)
      have h3 := hne a ha
      show dt_u (i r) (i a) < r
      unfold dt_u
      split <;> omega) (fun a b ha hb e => by
      refine hj a b (by omega) (by omega) ?_
      have e1 := (dt_k_iff (a := dt_u (i r) (i a)) (hne a ha)).mpr rfl
      have e2 := (dt_k_iff (a := dt_u (i r) (i b)) (hne b hb)).mpr rfl
      have e : dt_u (i r) (i a) = dt_u (i r) (i b) := e
      rw [← e1, ← e2, e])
    rw [dt_P_congr r (u := fun a => d (i a)) (fun a ha => by
      show d (dt_k (i r) (dt_u (i r) (i a))) = d (i a)
      rw [(dt_k_iff (hne a ha)).mpr rfl])] at z
    show dt_P (fun a => d (i a)) r * d (i r) = dt_P d (r + 1)
    rw [z]
    exact dt_P_skip d r (i r) (by have := hi r (by omega); omega)
theorem dt_P_zero {s : Nat → Int} : ∀ (n i : Nat), i < n → s i = 0 → dt_P s n = 0
  | 0, _, h, _ => absurd h (Nat.not_lt_zero _)
  | n + 1, i, h, h0 => by
    show dt_P s n * s n = 0
    by_cases c : i = n
    · subst c
      rw [h0, Int.mul_zero]
    · rw [dt_P_zero n i (by omega) h0, Int.zero_mul]
theorem dt_eqr' {n : Nat} {M : Nat → Nat → Int} {a b : Nat} (ha : a < n) (hb : b < n) (hab : a ≠ b) (he : ∀ c, c < n → M a c = M b c) : dt n M = 0 := by
  rcases Nat.lt_or_gt_of_ne hab with h | h
  · have e : a + 1 + (b - a - 1) = b := by omega
    exact dt_eqr (b - a - 1) M a (by omega) (fun c hc => by rw [e]; exact he c hc)
  · have e : b + 1 + (a - b - 1) = a := by omega
    exact dt_eqr (a - b - 1) M b (by omega) (fun c hc => by rw [e]; exact (he c hc).symm)
theorem dt_ninj {r : Nat} {i : Nat → Nat} (h : ¬ dt_inj r i) (X : Nat → Nat → Int) (k : Nat → Nat) : dt r (fun a b => X (i a) (k b)) = 0 := by
  have h1 : ∃ a b, a < r ∧ b < r ∧ i a = i b ∧ a ≠ b := Classical.byContradiction (fun q => h (fun a b ha hb e => Classical.byContradiction (fun ne => q ⟨a, b, ha, hb, e, ne⟩)))
  obtain ⟨a, b, ha, hb, e, ne⟩ := h1
  exact dt_eqr' ha hb ne (fun c _ => by show X (i a) (k c) = X (i b) (k c); rw [e])
/-- every minor of a diagonal of r is a multiple of its product -/
theorem mv_diag {N : Int} {r m c : Nat} {d : Nat → Int} (h : N ∣ dt_P d r) : mv N r m c (fun a b => if a = b ∧ a < r then d a else 0) := fun i k hi hk => by
  by_cases hj : dt_inj r i
  · have e : dt r (fun a b => if i a = k b ∧ i a < r then d (i a) else 0) = dt_P (fun a => if i a < r then d (i a) else 0) r * dt r (fun a b => if i a = k b then 1 else 0) := by
      rw [← dt_scale]
      refine dt_congr r (fun a b ha hb => ?_)
      by_cases c1 : i a < r
      · by_cases c2 : i a = k b
        · simp [c1, c2]
        · simp [c2]
      · simp [c1]
    rw [e]
    by_cases hall : ∀ a, a < r → i a < r
    · rw [dt_P_congr r (u := fun a => d (i a)) (fun a ha => by rw [if_pos (hall a ha)]), dt_P_perm r d i hall hj]
      exact Int.dvd_mul_of_dvd_left h
    · have h2 : ∃ a, a < r ∧ ¬ i a < r := Classical.byContradiction (fun q => hall (fun a ha => Classical.byContradiction (fun z => q ⟨a, ha, z⟩)))
      obtain ⟨a, ha, hz⟩ := h2
      rw [dt_P_zero r a ha (by rw [if_neg hz]), Int.zero_mul]
      exact Int.dvd_zero N
  · rw [dt_ninj hj (fun a b => if a = b ∧ a < r then d a else 0) k]
    exact Int.dvd_zero N
/-- THE PRODUCT IS NOT 0: A comes by steps that keep divisors of minors, both ways, to B, which is the diagonal d modulo 2 ^ k -/
theorem dt_prod {m c r k : Nat} {A B : Nat → Nat → Int} {d : Nat → Int} {K : Nat → Int} (hr : r ≤ m) (hrc : r ≤ c) (h1 : ∀ N, mv N r m c A → mv N r m c B) (h2 : ∀ N, mv N r m c B → mv N r m c A) (hd : ∀ a, a < r → d a ≠ 0 ∧ (d a).natAbs < 2 ^ k) (hB : ∀ a b, a < m → b < c → (2 : Int) ^ k ∣ (if a = b ∧ a < r then d a else 0) - B a b) (hK : ∀ j, dt_S (fun i => ((A i j).natAbs : Int)) m ≤ K j) (hK0 : ∀ j, 0 ≤ K j) (hP : ∀ f : Nat → Nat, (∀ b, b < r → f b < c) → dt_P (fun b => K (f b)) r < 2 ^ k) : ¬ (2 : Int) ^ k ∣ dt_P d r := by
  intro hdv
  have hA := h2 _ (mv_mod (mv_diag (m := m) (c := c) hdv) hB)
  have hz : mv 0 r m c A := fun i f hi hf => by
    by_cases hj : dt_inj r i
    · have b1 := (dt_bound hK hK0 r i f hi hj).1
      have b2 := hP f hf
      obtain ⟨e, he⟩ := hA i f hi hf
      have : dt r (fun a b => A (i a) (f b)) = 0 := by
        rcases Classical.em (e = 0) with q | q
        · rw [he, q, Int.mul_zero]
        · exfalso
          have h3 : (dt r (fun a b => A (i a) (f b))).natAbs = 2 ^ k * e.natAbs := by
            rw [he, Int.natAbs_mul, Int.natAbs_pow]
            rfl
          have h4 : 1 ≤ e.natAbs := Nat.pos_of_ne_zero (fun z => q (Int.natAbs_eq_zero.mp z))
          have h5 : 2 ^ k * 1 ≤ 2 ^ k * e.natAbs := Nat.mul_le_mul_left _ h4
          have h6 : ((2 ^ k : Nat) : Int) = (2 : Int) ^ k := by simp
          omega
      rw [this]
      exact Int.dvd_zero 0
    · rw [dt_ninj hj A f]
      exact Int.dvd_zero 0
  have hB0 := h1 0 hz (fun a => a) (fun b => b) (fun a ha => by show a < m; omega) (fun b hb => by show b < c; omega)
  refine dt_lead (r := r) (k := k) (d := d) (B := B) hd (fun a b ha hb => ?_) (Int.zero_dvd.mp hB0)
  have z := hB a b (by omega) (by omega)
  by_cases e : a = b
  · rw [if_pos ⟨e, ha⟩] at z
    rw [if_pos e]
    have := Int.dvd_neg.mpr z
    rwa [Int.neg_sub] at this
  · rw [if_neg (fun q => e q.1)] at z
    rw [if_neg e]
    have := Int.dvd_neg.mpr z
    rwa [Int.neg_sub] at this
