/-! ELIMINATION MODULO A NUMBER, as both sides do it -/
theorem x_tw_ge {i t a u : Nat} (h1 : u ≤ i) (h2 : u ≤ t) (h3 : u ≤ a) : u ≤ x_tw i t a := by
  unfold x_tw
  repeat' split
  all_goals omega
def x_pv (E : Nat → Nat → Int) (col : Nat) : Nat → Nat → Nat
  | 0, t => t
  | d + 1, t => if E t col = 0 then x_pv E col d (t + 1) else t
def x_el (p : Int) (iv : Int → Int) (E : Nat → Nat → Int) (t j a b : Nat) : Int := if t < a then (E a b - E a j * iv (E t j) % p * E t b) % p else E a b
def x_s1 (R : Nat) (p : Int) (iv : Int → Int) (j : Nat) (s : (Nat → Nat → Int) × Nat) : (Nat → Nat → Int) × Nat := if x_pv s.1 j (R - s.2) s.2 < R then (x_el p iv (fun a b => s.1 (x_tw s.2 (x_pv s.1 j (R - s.2) s.2) a) b) s.2 j, s.2 + 1) else s
def x_st (R : Nat) (p : Int) (iv : Int → Int) (E : Nat → Nat → Int) : Nat → (Nat → Nat → Int) × Nat
  | 0 => (E, 0)
  | j + 1 => x_s1 R p iv j (x_st R p iv E j)
theorem x_pv_ge (E : Nat → Nat → Int) (col : Nat) : ∀ d t, t ≤ x_pv E col d t ∧ x_pv E col d t ≤ t + d
  | 0, t => ⟨Nat.le_refl _, Nat.le_refl _⟩
  | d + 1, t => by
    have z := x_pv_ge E col d (t + 1)
    show t ≤ (if E t col = 0 then x_pv E col d (t + 1) else t) ∧ (if E t col = 0 then x_pv E col d (t + 1) else t) ≤ t + (d + 1)
    split <;> omega
theorem x_pv_nz (E : Nat → Nat → Int) (col : Nat) : ∀ d t, x_pv E col d t < t + d → E (x_pv E col d t) col ≠ 0
  | 0, t, h => absurd h (Nat.lt_irrefl _)
  | d + 1, t, h => by
    by_cases c : E t col = 0
    · rw [show x_pv E col (d + 1) t = x_pv E col d (t + 1) from if_pos c] at h ⊢
      exact x_pv_nz E col d (t + 1) (by omega)
    · rw [show x_pv E col (d + 1) t = t from if_neg c]
      exact c
theorem x_pv_z (E : Nat → Nat → Int) (col : Nat) : ∀ d t a, t ≤ a → a < x_pv E col d t → E a col = 0
  | 0, t, a, h1, h2 => absurd (Nat.lt_of_le_of_lt h1 h2) (Nat.lt_irrefl _)
  | d + 1, t, a, h1, h2 => by
    by_cases c : E t col = 0
    · rw [show x_pv E col (d + 1) t = x_pv E col d (t + 1) from if_pos c] at h2
      by_cases e : a = t
      · rw [e]
        exact c
      · exact x_pv_z E col d (t + 1) a (by omega) h2
    · rw [show x_pv E col (d + 1) t = t from if_neg c] at h2
      omega
/-- what holds behind j columns: entries in range, nothing left below the pivots -/
def x_SI (R C : Nat) (p : Int) (j : Nat) (s : (Nat → Nat → Int) × Nat) : Prop := s.2 ≤ R ∧ (∀ a b, a < R → b < C → 0 ≤ s.1 a b ∧ s.1 a b < p) ∧ ∀ a b, s.2 ≤ a → a < R → b < j → b < C → s.1 a b = 0
theorem x_pv_R (s : (Nat → Nat → Int) × Nat) {R : Nat} (h : s.2 ≤ R) (j : Nat) : s.2 ≤ x_pv s.1 j (R - s.2) s.2 ∧ x_pv s.1 j (R - s.2) s.2 ≤ R := by
  have z := x_pv_ge s.1 j (R - s.2) s.2
  omega
theorem x_SI.step {R C : Nat} {p : Int} {iv : Int → Int} {j : Nat} {s : (Nat → Nat → Int) × Nat} (h : x_SI R C p j s) (hp : 0 < p) (hj : j < C) (hiv : ∀ x, 0 < x → x < p → iv x * x % p = 1 % p) : x_SI R C p (j + 1) (x_s1 R p iv j s) := by
  obtain ⟨h1, h2, h3⟩ := h
  have hr := x_pv_R s h1 j
  unfold x_s1
  by_cases c : x_pv s.1 j (R - s.2) s.2 < R
  · rw [if_pos c]
    have hnz := x_pv_nz s.1 j (R - s.2) s.2 (by omega)
    generalize x_pv s.1 j (R - s.2) s.2 = r at *
    have hE : ∀ a b, a < R → b < C → 0 ≤ s.1 (x_tw s.2 r a) b ∧ s.1 (x_tw s.2 r a) b < p := fun a b ha hb => h2 _ b (x_tw_lt (by omega) c ha) hb
    have hz : ∀ a b, s.2 ≤ a → a < R → b < j → b < C → s.1 (x_tw s.2 r a) b = 0 := fun a b g1 g2 g3 g4 => h3 _ b (x_tw_ge (Nat.le_refl _) hr.1 g1) (x_tw_lt (by omega) c g2) g3 g4
    refine ⟨by show s.2 + 1 ≤ R; omega, fun a b ha hb => ?_, fun a b g1 g2 g3 g4 => ?_⟩
    · show 0 ≤ (if s.2 < a then _ else _) ∧ (if s.2 < a then _ else _) < p
      split
      · exact ⟨Int.emod_nonneg _ (by omega), Int.emod_lt_of_pos _ hp⟩
      · exact hE a b ha hb
    · have g1 : s.2 + 1 ≤ a := g1
      show (if s.2 < a then _ else _) = (0 : Int)
      rw [if_pos (by omega)]
      show (s.1 (x_tw s.2 r a) b - s.1 (x_tw s.2 r a) j * iv (s.1 (x_tw s.2 r s.2) j) % p * s.1 (x_tw s.2 r s.2) b) % p = 0
      by_cases e : b = j
      · subst e
        have e1 : s.1 (x_tw s.2 r s.2) b = s.1 r b := by rw [x_tw_l]
        rw [e1]
        have r1 := h2 r b c g4
        have hi := hiv (s.1 r b) (by omega) r1.2
        have e2 : (s.1 (x_tw s.2 r a) b - s.1 (x_tw s.2 r a) b * iv (s.1 r b) % p * s.1 r b) % p = 0 := by
          rw [Int.sub_emod, Int.mul_emod, Int.emod_emod_of_dvd _ (Int.dvd_refl p), ← Int.mul_emod, Int.mul_assoc, Int.mul_emod, hi, ← Int.mul_emod, Int.mul_one, Int.sub_self]
          exact Int.zero_emod p
        exact e2
      · rw [hz a b (by omega) g2 (by omega) g4, hz s.2 b (Nat.le_refl _) (by omega) (by omega) g4, Int.mul_zero, Int.sub_self]
        exact Int.zero_emod p
  · rw [if_neg c]
    refine ⟨h1, h2, fun a b g1 g2 g3 g4 => ?_⟩
    by_cases e : b = j
    · rw [e]
      exact x_pv_z s.1 j (R - s.2) s.2 a g1 (by omega)
    · exact h3 a b g1 g2 (by omega) g4
theorem x_SI_all {R C : Nat} {p : Int} {iv : Int → Int} {E : Nat → Nat → Int} (hp : 0 < p) (hE : ∀ a b, a < R → b < C → 0 ≤ E a b ∧ E a b < p) (hiv : ∀ x, 0 < x → x < p → iv x * x % p = 1 % p) : ∀ j, j ≤ C → x_SI R C p j (x_st R p iv E j)
  | 0, _ => ⟨Nat.zero_le _, hE, fun a b _ _ h _ => absurd h (Nat.not_lt_zero b)⟩
  | j + 1, h => (x_SI_all hp hE hiv j (by omega)).step hp (by omega) hiv
/-- with all rows used up nothing more happens -/
theorem x_st_full {R : Nat} {p : Int} {iv : Int → Int} {E : Nat → Nat → Int} {j : Nat} (h : (x_st R p iv E j).2 = R) : ∀ d, (x_st R p iv E (j + d)).2 = R
  | 0 => h
  | d + 1 => by
    have z := x_st_full h d
    show (x_s1 R p iv (j + d) (x_st R p iv E (j + d))).2 = R
    have e : x_pv (x_st R p iv E (j + d)).1 (j + d) (R - (x_st R p iv E (j + d)).2) (x_st R p iv E (j + d)).2 = R := by
      rw [z, Nat.sub_self]
      rfl
    unfold x_s1
    rw [e, if_neg (Nat.lt_irrefl R)]
    exact z
