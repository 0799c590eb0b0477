/-! RANKS: how many pivots an elimination finds, in words of minors -/
theorem mv_up {N : Int} {r m c : Nat} {X : Nat → Nat → Int} (h : mv N r m c X) : mv N (r + 1) m c X := fun i k hi hk => by
  have key : ∀ n, n ≤ r + 1 → N ∣ dt_S (fun a => dt_s a * X (i a) (k 0) * dt r (fun a' b => X (i (dt_k a a')) (k (b + 1)))) n := fun n => by
    induction n with
    | zero => exact fun _ => Int.dvd_zero N
    | succ n ih =>
      intro hn
      refine Int.dvd_add (ih (by omega)) (Int.dvd_mul_of_dvd_right ?_)
      exact h (fun a' => i (dt_k n a')) (fun b => k (b + 1)) (fun a' ha => hi _ (by unfold dt_k; split <;> omega)) (fun b hb => hk _ (by omega))
  exact key (r + 1) (Nat.le_refl _)
theorem mv_up2 {N : Int} {r m c : Nat} {X : Nat → Nat → Int} (h : mv N r m c X) : ∀ d, mv N (r + d) m c X
  | 0 => h
  | d + 1 => mv_up (mv_up2 h d)
theorem dt_row0 {n : Nat} {M : Nat → Nat → Int} {a0 : Nat} (ha : a0 < n) (h : ∀ b, b < n → M a0 b = 0) : dt n M = 0 := by
  have e : dt n M = dt n (fun a b => (if a = a0 then (0 : Int) else 1) * M a b) := dt_congr n (fun a b _ hb => by
    by_cases q : a = a0
    · rw [if_pos q, q, h b hb, Int.zero_mul]
    · rw [if_neg q, Int.one_mul])
  rw [e, dt_scale n (fun a => if a = a0 then (0 : Int) else 1) M, dt_P_zero n a0 ha (if_pos rfl), Int.zero_mul]
theorem x_php {t : Nat} {i : Nat → Nat} (h : ∀ a, a < t + 1 → i a < t) : ¬ dt_inj (t + 1) i := fun q => by
  have z := dt_S_inj (m := t) (t + 1) (fun _ => 1) i (fun _ => by decide) h q
  have e : ∀ n : Nat, dt_S (fun _ => 1) n = (n : Int) := fun n => by
    induction n with
    | zero => rfl
    | succ n ih =>
      show dt_S (fun _ => 1) n + 1 = ((n + 1 : Nat) : Int)
      rw [ih]
      rfl
  have z : dt_S (fun _ => 1) (t + 1) ≤ dt_S (fun _ => 1) t := z
  rw [e, e] at z
  omega
theorem dt_tri : ∀ (n : Nat) (M : Nat → Nat → Int), (∀ a b, a < n → b < a → M a b = 0) → dt n M = dt_P (fun a => M a a) n
  | 0, _, _ => rfl
  | n + 1, M, h => by
    show dt_S (fun i => dt_s i * M i 0 * dt n (fun a b => M (dt_k i a) (b + 1))) (n + 1) = _
    rw [hd_S_1, dt_S_zero n (fun i hi => by
      show dt_s (i + 1) * M (i + 1) 0 * _ = 0
      rw [h (i + 1) 0 (by omega) (by omega), Int.mul_zero, Int.zero_mul]), Int.add_zero]
    have e : (fun a b => M (dt_k 0 a) (b + 1)) = (fun a b => M (a + 1) (b + 1)) := by
      funext a b
      rw [show dt_k 0 a = a + 1 by unfold dt_k; rw [if_neg (Nat.not_lt_zero a)]]
    rw [e, dt_tri n (fun a b => M (a + 1) (b + 1)) (fun a b ha hb => h (a + 1) (b + 1) (by omega) (by omega)), show dt_s 0 = 1 from rfl, Int.one_mul]
    have z := dt_P_skip (fun a => M a a) n 0 (Nat.zero_le _)
    rw [← z, Int.mul_comm]
    congr 1
/-- one column's step keeps the divisors of minors -/
theorem mv_el {p : Int} {r R C : Nat} {iv : Int → Int} {E : Nat → Nat → Int} {t j : Nat} (ht : t < R) : mv p r R C E ↔ mv p r R C (x_el p iv E t j) := by
  have key : ∀ n, n ≤ R → (mv p r R C E ↔ mv p r R C (fun a b => if t < a ∧ a < n then E a b + -(E a j * iv (E t j) % p) * E t b else E a b)) := fun n => by
    induction n with
    | zero =>
      intro _
      have e : (fun a b => if t < a ∧ a < 0 then E a b + -(E a j * iv (E t j) % p) * E t b else E a b) = E := by
        funext a b
        rw [if_neg (by omega)]
      rw [e]
    | succ n ih =>
      intro hn
      refine (ih (by omega)).trans ?_
      by_cases c : t < n
      · constructor
        · intro m
          refine mv_congr (mv_rowop (i0 := n) (t0 := t) m ht (-(E n j * iv (E t j) % p))) (fun a b ha hb => ?_)
          show (if a = n then (if t < n ∧ n < n then _ else E n b) + _ * (if t < t ∧ t < n then _ else E t b) else (if t < a ∧ a < n then _ else _)) = (if t < a ∧ a < n + 1 then _ else _)
          by_cases e : a = n
          · rw [if_pos e, if_neg (by omega), if_neg (by omega), if_pos (by omega), e]
          · rw [if_neg e]
            by_cases e2 : t < a ∧ a < n
            · rw [if_pos e2, if_pos ⟨e2.1, by omega⟩]
            · rw [if_neg e2, if_neg (by omega)]
        · intro m
          refine mv_congr (mv_rowop (i0 := n) (t0 := t) m ht (E n j * iv (E t j) % p)) (fun a b ha hb => ?_)
          show (if a = n then (if t < n ∧ n < n + 1 then E n b + -(E n j * iv (E t j) % p) * E t b else E n b) + _ * (if t < t ∧ t < n + 1 then _ else E t b) else (if t < a ∧ a < n + 1 then _ else _)) = (if t < a ∧ a < n then _ else _)
          by_cases e : a = n
          · rw [if_pos e, if_pos ⟨c, by omega⟩, if_neg (by omega), if_neg (by omega), e, Int.neg_mul]
            omega
          · rw [if_neg e]
            by_cases e2 : t < a ∧ a < n
            · rw [if_pos e2, if_pos ⟨e2.1, by omega⟩]
            · rw [if_neg e2, if_neg (by omega)]
      · have e : (fun a b => if t < a ∧ a < n + 1 then E a b + -(E a j * iv (E t j) % p) * E t b else E a b) = (fun a b => if t < a ∧ a < n then E a b + -(E a j * iv (E t j) % p) * E t b else E a b) := by
          funext a b
          by_cases q : t < a ∧ a < n
          · rw [if_pos q, if_pos ⟨q.1, by omega⟩]
          · rw [if_neg q, if_neg (by omega)]
        rw [e]
  refine (key R (Nat.le_refl _)).trans ?_
  have hm : ∀ x : Int, p ∣ x - x % p := fun x => ⟨x / p, by have := Int.emod_add_mul_ediv x p; omega⟩
  constructor
  · intro m
    refine mv_mod m (fun a b ha hb => ?_)
    unfold x_el
    by_cases e : t < a
    · rw [if_pos ⟨e, ha⟩, if_pos e, Int.neg_mul, ← Int.sub_eq_add_neg]
      exact hm _
    · rw [if_neg (fun q => e q.1), if_neg e, Int.sub_self]
      exact Int.dvd_zero p
  · intro m
    refine mv_mod m (fun a b ha hb => ?_)
    unfold x_el
    by_cases e : t < a
    · rw [if_pos e, if_pos ⟨e, ha⟩, Int.neg_mul, ← Int.sub_eq_add_neg, ← Int.neg_sub]
      exact Int.dvd_neg.mpr (hm _)
    · rw [if_neg e, if_neg (fun q => e q.1), Int.sub_self]
      exact Int.dvd_zero p
/-- pivots so far -/
def x_PV (C : Nat) (j : Nat) (s : (Nat → Nat → Int) × Nat) : Prop := ∃ jp : Nat → Nat, (∀ a, a < s.2 → jp a < j) ∧ (∀ a, a < s.2 → 0 < s.1 a (jp a)) ∧ (∀ a b, a < s.2 → b < jp a → s.1 a b = 0) ∧ ∀ a b, a < b → b < s.2 → jp a < jp b
theorem x_st_mv {R C : Nat} {p : Int} {iv : Int → Int} {E : Nat → Nat → Int} (hp : 0 < p) (hE : ∀ a b, a < R → b < C → 0 ≤ E a b ∧ E a b < p) (hiv : ∀ x, 0 < x → x < p → iv x * x % p = 1 % p) : ∀ j, j ≤ C → (∀ r, mv p r R C E ↔ mv p r R C (x_st R p iv E j).1) ∧ x_PV C j (x_st R p iv E j)
  | 0, _ => ⟨fun r => Iff.rfl, fun a => a, fun a h => absurd h (Nat.not_lt_zero a), fun a h => absurd h (Nat.not_lt_zero a), fun a b h => absurd h (Nat.not_lt_zero a), fun a b _ h => absurd h (Nat.not_lt_zero b)⟩
  | j + 1, hj => by
    obtain ⟨i1, jp, i2, i3, i4, i5⟩ := x_st_mv hp hE hiv j (by omega)
    obtain ⟨s1, s2, s3⟩ := x_SI_all hp hE hiv j (by omega)
    have hr := x_pv_R (x_st R p iv E j) s1 j
    show (∀ r, mv p r R C E ↔ mv p r R C (x_s1 R p iv j (x_st R p iv E j)).1) ∧ x_PV C (j + 1) (x_s1 R p iv j (x_st R p iv E j))
    unfold x_s1
    by_cases c : x_pv (x_st R p iv E j).1 j (R - (x_st R p iv E j).2) (x_st R p iv E j).2 < R
    · rw [if_pos c]
      have hnz := x_pv_nz (x_st R p iv E j).1 j (R - (x_st R p iv E j).2) (x_st R p iv E j).2 (by omega)
      generalize x_pv (x_st R p iv E j).1 j (R - (x_st R p iv E j).2) (x_st R p iv E j).2 = q at *
      generalize x_st R p iv E j = s at *
      refine ⟨fun r => ((i1 r).trans ⟨fun m => mv_rows m (x_tw s.2 q) (fun a ha => x_tw_lt (by omega) c ha), fun m => mv_congr (mv_rows m (x_tw s.2 q) (fun a ha => x_tw_lt (by omega) c ha)) (fun a b _ _ => by
        show s.1 (x_tw s.2 q (x_tw s.2 q a)) b = s.1 a b
        rw [x_tw_v])⟩).trans (mv_el (by omega)), fun a => if a < s.2 then jp a else j, fun a ha => ?_, fun a ha => ?_, fun a b ha hb => ?_, fun a b hab hb => ?_⟩
      · show (if a < s.2 then jp a else j) < j + 1
        split
        · have := i2 a (by assumption)
          omega
        · omega
      · have ha : a < s.2 + 1 := ha
        show 0 < x_el p iv (fun a b => s.1 (x_tw s.2 q a) b) s.2 j a (if a < s.2 then jp a else j)
        unfold x_el
        rw [if_neg (by omega)]
        show 0 < s.1 (x_tw s.2 q a) (if a < s.2 then jp a else j)
        by_cases e : a < s.2
        · rw [if_pos e, x_tw_n (by omega) (by omega)]
          exact i3 a e
        · rw [if_neg e, show a = s.2 by omega, x_tw_l]
          have := s2 q j c (by omega)
          omega
      · have ha : a < s.2 + 1 := ha
        have hb : b < (if a < s.2 then jp a else j) := hb
        show x_el p iv (fun a b => s.1 (x_tw s.2 q a) b) s.2 j a b = 0
        unfold x_el
        rw [if_neg (by omega)]
        show s.1 (x_tw s.2 q a) b = 0
        by_cases e : a < s.2
        · rw [if_pos e] at hb
          rw [x_tw_n (by omega) (by omega)]
          exact i4 a b e hb
        · rw [if_neg e] at hb
          rw [show a = s.2 by omega, x_tw_l]
          exact s3 q b hr.1 c hb (by omega)
      · have hb : b < s.2 + 1 := hb
        show (if a < s.2 then jp a else j) < (if b < s.2 then jp b else j)
        rw [if_pos (by omega)]
        by_cases e : b < s.2
        · rw [if_pos e]
          exact i5 a b hab e
        · rw [if_neg e]
          exact i2 a (by omega)
    · rw [if_neg c]
      exact ⟨i1, jp, fun a ha => Nat.lt_succ_of_lt (i2 a ha), i3, i4, i5⟩
/-- THE RANK: all minors beyond it are multiples of p, not all of its own size -/
theorem x_st_rank {R C : Nat} {p : Int} {iv : Int → Int} {E : Nat → Nat → Int} (hp : 1 < p) (hE : ∀ a b, a < R → b < C → 0 ≤ E a b ∧ E a b < p) (hiv : ∀ x, 0 < x → x < p → iv x * x % p = 1 % p) : mv p ((x_st R p iv E C).2 + 1) R C E ∧ ¬ mv p (x_st R p iv E C).2 R C E := by
  obtain ⟨i1, jp, i2, i3, i4, i5⟩ := x_st_mv (by omega) hE hiv C (Nat.le_refl _)
  obtain ⟨s1, s2, s3⟩ := x_SI_all (by omega) hE hiv C (Nat.le_refl _)
  generalize x_st R p iv E C = s at *
  constructor
  · refine (i1 _).mpr (fun i k hi hk => ?_)
    by_cases c : ∃ a, a < s.2 + 1 ∧ s.2 ≤ i a
    · obtain ⟨a, ha, hs⟩ := c
      rw [dt_row0 ha (fun b hb => s3 (i a) (k b) hs (hi a ha) (hk b hb) (hk b hb))]
      exact Int.dvd_zero p
    · rw [dt_ninj (x_php (fun a ha => Classical.byContradiction (fun q => c ⟨a, ha, by omega⟩))) s.1 k]
      exact Int.dvd_zero p
  · intro hm
    have h1 := (i1 _).mp hm (fun a => a) jp (fun a ha => by show a < R; omega) i2
    rw [dt_tri s.2 (fun a b => s.1 a (jp b)) (fun a b ha hb => i4 a (jp b) ha (i5 b a hb ha))] at h1
    have key : ∀ n, n ≤ s.2 → ∃ u : Int, dt_P (fun a => s.1 a (jp a)) n * u % p = 1 % p := fun n => by
      induction n with
      | zero => exact fun _ => ⟨1, by rw [Int.mul_one]; rfl⟩
      | succ n ih =>
        intro hn
        obtain ⟨u, hu⟩ := ih (by omega)
        have hx := hiv (s.1 n (jp n)) (i3 n (by omega)) (s2 n (jp n) (by omega) (i2 n (by omega))).2
        refine ⟨u * iv (s.1 n (jp n)), ?_⟩
        show dt_P (fun a => s.1 a (jp a)) n * s.1 n (jp n) * (u * iv (s.1 n (jp n))) % p = 1 % p
        have e : dt_P (fun a => s.1 a (jp a)) n * s.1 n (jp n) * (u * iv (s.1 n (jp n))) = (dt_P (fun a => s.1 a (jp a)) n * u) * (iv (s.1 n (jp n)) * s.1 n (jp n)) := by
          generalize dt_P (fun a => s.1 a (jp a)) n = X
          generalize iv (s.1 n (jp n)) = V
          generalize s.1 n (jp n) = W
          rw [Int.mul_assoc, Int.mul_assoc, Int.mul_left_comm W u V, Int.mul_comm W V]
        rw [e, Int.mul_emod, hu, hx, ← Int.mul_emod]
        rfl
    obtain ⟨u, hu⟩ := key s.2 (Nat.le_refl _)
    have h2 : p ∣ dt_P (fun a => s.1 a (jp a)) s.2 * u := Int.dvd_mul_of_dvd_left h1
    rw [Int.emod_eq_zero_of_dvd h2, Int.emod_eq_of_lt (by decide) hp] at hu
    exact absurd hu (by decide)
/-- ranks by two numbers: if minors are small, the one is no less than the other -/
theorem x_rank_le {R C : Nat} {P Q : Int} {ivP ivQ : Int → Int} {A : Nat → Nat → Int} (hP : 1 < P) (hQ : 1 < Q) (hivP : ∀ x, 0 < x → x < P → ivP x * x % P = 1 % P) (hivQ : ∀ x, 0 < x → x < Q → ivQ x * x % Q = 1 % Q) (hb : ∀ (r : Nat) (i k : Nat → Nat), (∀ a, a < r → i a < R) → (∀ b, b < r → k b < C) → ((dt r (fun a b => A (i a) (k b))).natAbs : Int) < P) : (x_st R Q ivQ (fun a b => A a b % Q) C).2 ≤ (x_st R P ivP (fun a b => A a b % P) C).2 := by
  have hmod : ∀ (N : Int) (hN : 1 < N) (r : Nat), mv N r R C (fun a b => A a b % N) ↔ mv N r R C A := fun N hN r => by
    have hm : ∀ x : Int, N ∣ x - x % N := fun x => ⟨x / N, by have := Int.emod_add_mul_ediv x N; omega⟩
    constructor
    · intro m
      refine mv_mod m (fun a b _ _ => ?_)
      have := Int.dvd_neg.mpr (hm (A a b))
      rwa [Int.neg_sub] at this
    · intro m
      exact mv_mod m (fun a b _ _ => hm (A a b))
  have rP := x_st_rank (R := R) (C := C) (E := fun a b => A a b % P) hP (fun a b _ _ => ⟨Int.emod_nonneg _ (by omega), Int.emod_lt_of_pos _ (by omega)⟩) hivP
  have rQ := x_st_rank (R := R) (C := C) (E := fun a b => A a b % Q) hQ (fun a b _ _ => ⟨Int.emod_nonneg _ (by omega), Int.emod_lt_of_pos _ (by omega)⟩) hivQ
  refine Classical.byContradiction (fun hlt => rQ.2 ((hmod Q hQ _).mpr (fun i k hi hk => ?_)))
  have h1 := mv_up2 ((hmod P hP _).mp rP.1) ((x_st R Q ivQ (fun a b => A a b % Q) C).2 - ((x_st R P ivP (fun a b => A a b % P) C).2 + 1))
  rw [show (x_st R P ivP (fun a b => A a b % P) C).2 + 1 + ((x_st R Q ivQ (fun a b => A a b % Q) C).2 - ((x_st R P ivP (fun a b => A a b % P) C).2 + 1)) = (x_st R Q ivQ (fun a b => A a b % Q) C).2 by omega] at h1
  have h2 := h1 i k hi hk
  have h3 := hb _ i k hi hk
  have h4 : dt (x_st R Q ivQ (fun a b => A a b % Q) C).2 (fun a b => A (i a) (k b)) = 0 := by
    refine Classical.byContradiction (fun q => ?_)
    have h5 := Nat.le_of_dvd (Nat.pos_of_ne_zero (fun z => q (Int.natAbs_eq_zero.mp z))) (Int.natAbs_dvd_natAbs.mpr h2)
    omega
  rw [h4]
  exact Int.dvd_zero Q
