/-! THE REFERENCE'S DIAGONAL: what its steps keep -/
/-- the same divisors of minors as A, modulo 2 ^ 64 -/
def x_Rl (R C : Nat) (A : Nat → Nat → Int) (wo : Nat → Int64) : Prop := ∃ B : Nat → Nat → Int, (∀ N r, mv N r R C A ↔ mv N r R C B) ∧ ∀ a b, a < R → b < C → (2 : Int) ^ 64 ∣ (wo (48 * a + b)).toInt - B a b
/-- nothing beside the diagonal in the first t rows and columns -/
def x_Zr (R C t : Nat) (wo : Nat → Int64) : Prop := ∀ a b, a < R → b < C → (a < t ∨ b < t) → a ≠ b → wo (48 * a + b) = 0
theorem x_smd (x q y : Int64) : (2 : Int) ^ 64 ∣ (x - q * y).toInt - (x.toInt + (-q.toInt) * y.toInt) := by
  rw [Int64.toInt_sub, Int64.toInt_mul]
  have h1 : ((2 ^ 64 : Nat) : Int) ∣ Int.bmod (q.toInt * y.toInt) (2 ^ 64) - q.toInt * y.toInt := Int.dvd_bmod_sub_self
  have h2 : ((2 ^ 64 : Nat) : Int) ∣ Int.bmod (x.toInt - Int.bmod (q.toInt * y.toInt) (2 ^ 64)) (2 ^ 64) - (x.toInt - Int.bmod (q.toInt * y.toInt) (2 ^ 64)) := Int.dvd_bmod_sub_self
  have h3 := Int.dvd_sub h2 h1
  have e : (2 : Int) ^ 64 = ((2 ^ 64 : Nat) : Int) := by decide
  rw [e, Int.neg_mul]
  have e2 : Int.bmod (x.toInt - Int.bmod (q.toInt * y.toInt) (2 ^ 64)) (2 ^ 64) - (x.toInt - Int.bmod (q.toInt * y.toInt) (2 ^ 64)) - (Int.bmod (q.toInt * y.toInt) (2 ^ 64) - q.toInt * y.toInt) = Int.bmod (x.toInt - Int.bmod (q.toInt * y.toInt) (2 ^ 64)) (2 ^ 64) - (x.toInt + -(q.toInt * y.toInt)) := by omega
  rw [e2] at h3
  exact h3
theorem x_sm2 {x q y : Int64} {bi bt : Int} (h1 : (2 : Int) ^ 64 ∣ x.toInt - bi) (h2 : (2 : Int) ^ 64 ∣ y.toInt - bt) : (2 : Int) ^ 64 ∣ (x - q * y).toInt - (bi + (-q.toInt) * bt) := by
  have h3 : (2 : Int) ^ 64 ∣ (-q.toInt) * (y.toInt - bt) := Int.dvd_mul_of_dvd_right h2
  have h4 := Int.dvd_add (Int.dvd_add (x_smd x q y) h1) h3
  have e : (x - q * y).toInt - (x.toInt + (-q.toInt) * y.toInt) + (x.toInt - bi) + (-q.toInt) * (y.toInt - bt) = (x - q * y).toInt - (bi + (-q.toInt) * bt) := by
    rw [Int.mul_sub]
    omega
  rw [e] at h4
  exact h4
theorem x_Rl.rows {R C : Nat} {A : Nat → Nat → Int} {wo wo1 : Nat → Int64} (h : x_Rl R C A wo) {σ : Nat → Nat} (hs : ∀ a, a < R → σ a < R) (hv : ∀ a, a < R → σ (σ a) = a) (hw : ∀ a b, a < R → b < C → wo1 (48 * a + b) = wo (48 * σ a + b)) : x_Rl R C A wo1 := by
  obtain ⟨B, h1, h2⟩ := h
  refine ⟨fun a b => B (σ a) b, fun N r => (h1 N r).trans ⟨fun m => mv_rows m σ hs, fun m => mv_congr (mv_rows m σ hs) (fun a b ha hb => ?_)⟩, fun a b ha hb => ?_⟩
  · show B (σ (σ a)) b = B a b
    rw [hv a ha]
  · rw [hw a b ha hb]
    exact h2 (σ a) b (hs a ha) hb
theorem x_Rl.cols {R C : Nat} {A : Nat → Nat → Int} {wo wo1 : Nat → Int64} (h : x_Rl R C A wo) {σ : Nat → Nat} (hs : ∀ a, a < C → σ a < C) (hv : ∀ a, a < C → σ (σ a) = a) (hw : ∀ a b, a < R → b < C → wo1 (48 * a + b) = wo (48 * a + σ b)) : x_Rl R C A wo1 := by
  obtain ⟨B, h1, h2⟩ := h
  refine ⟨fun a b => B a (σ b), fun N r => (h1 N r).trans ⟨fun m => mv_cols m σ hs, fun m => mv_congr (mv_cols m σ hs) (fun a b ha hb => ?_)⟩, fun a b ha hb => ?_⟩
  · show B a (σ (σ b)) = B a b
    rw [hv b hb]
  · rw [hw a b ha hb]
    exact h2 a (σ b) ha (hs b hb)
theorem x_Rl.rop {R C : Nat} {A : Nat → Nat → Int} {wo wo1 : Nat → Int64} (h : x_Rl R C A wo) {i t : Nat} (hi : i < R) (ht : t < R) (hne : t ≠ i) (q : Int64) (hw : ∀ a b, a < R → b < C → wo1 (48 * a + b) = if a = i then wo (48 * i + b) - q * wo (48 * t + b) else wo (48 * a + b)) : x_Rl R C A wo1 := by
  obtain ⟨B, h1, h2⟩ := h
  refine ⟨fun a b => if a = i then B i b + (-q.toInt) * B t b else B a b, fun N r => (h1 N r).trans ⟨fun m => mv_rowop m ht _, fun m => mv_congr (mv_rowop (i0 := i) (t0 := t) m ht q.toInt) (fun a b ha hb => ?_)⟩, fun a b ha hb => ?_⟩
  · show (if a = i then (if i = i then B i b + (-q.toInt) * B t b else B i b) + q.toInt * (if t = i then B i b + (-q.toInt) * B t b else B t b) else (if a = i then B i b + (-q.toInt) * B t b else B a b)) = B a b
    rw [if_neg hne]
    by_cases e : a = i
    · rw [if_pos e, if_pos rfl, e, Int.neg_mul]
      omega
    · rw [if_neg e, if_neg e]
  · rw [hw a b ha hb]
    by_cases e : a = i
    · rw [if_pos e]
      show (2 : Int) ^ 64 ∣ _ - (if a = i then _ else _)
      rw [if_pos e]
      exact x_sm2 (h2 i b hi hb) (h2 t b ht hb)
    · rw [if_neg e]
      show (2 : Int) ^ 64 ∣ _ - (if a = i then _ else _)
      rw [if_neg e]
      exact h2 a b ha hb
theorem x_Rl.cop {R C : Nat} {A : Nat → Nat → Int} {wo wo1 : Nat → Int64} (h : x_Rl R C A wo) {j t : Nat} (hj : j < C) (ht : t < C) (hne : t ≠ j) (q : Int64) (hw : ∀ a b, a < R → b < C → wo1 (48 * a + b) = if b = j then wo (48 * a + j) - q * wo (48 * a + t) else wo (48 * a + b)) : x_Rl R C A wo1 := by
  obtain ⟨B, h1, h2⟩ := h
  refine ⟨fun a b => if b = j then B a j + (-q.toInt) * B a t else B a b, fun N r => (h1 N r).trans ⟨fun m => mv_colop m ht _, fun m => mv_congr (mv_colop (j0 := j) (t0 := t) m ht q.toInt) (fun a b ha hb => ?_)⟩, fun a b ha hb => ?_⟩
  · show (if b = j then (if j = j then B a j + (-q.toInt) * B a t else B a j) + q.toInt * (if t = j then B a j + (-q.toInt) * B a t else B a t) else (if b = j then B a j + (-q.toInt) * B a t else B a b)) = B a b
    rw [if_neg hne]
    by_cases e : b = j
    · rw [if_pos e, if_pos rfl, e, Int.neg_mul]
      omega
    · rw [if_neg e, if_neg e]
  · rw [hw a b ha hb]
    by_cases e : b = j
    · rw [if_pos e]
      show (2 : Int) ^ 64 ∣ _ - (if b = j then _ else _)
      rw [if_pos e]
      exact x_sm2 (h2 a j ha hj) (h2 a t ha ht)
    · rw [if_neg e]
      show (2 : Int) ^ 64 ∣ _ - (if b = j then _ else _)
      rw [if_neg e]
      exact h2 a b ha hb
theorem x_t0 {z : Int64} (h : ¬ z = 0) : z.toInt ≠ 0 := fun q => h (Int64.toInt_inj.mp (by rw [q]; rfl))
theorem x_rem_lt (x : Int64) {y : Int64} (hy : ¬ y = 0) : (x - x / y * y).toInt.natAbs < y.toInt.natAbs := by
  rw [x_lrem, Int.natAbs_tmod]
  exact Nat.mod_lt _ (by have := x_t0 hy; omega)
theorem x_s00 (q : Int64) : (0 : Int64) - q * 0 = 0 := by rw [Int64.mul_zero, Int64.sub_zero]
/-- two numbers exchanged -/
def x_tw (i t a : Nat) : Nat := if a = i then t else if a = t then i else a
theorem x_tw_v (i t a : Nat) : x_tw i t (x_tw i t a) = a := by
  unfold x_tw
  repeat' split
  all_goals omega
theorem x_tw_lt {i t a R : Nat} (hi : i < R) (ht : t < R) (ha : a < R) : x_tw i t a < R := by
  unfold x_tw
  repeat' split
  all_goals omega
theorem x_tw_n {i t a : Nat} (h1 : a ≠ i) (h2 : a ≠ t) : x_tw i t a = a := by
  unfold x_tw
  rw [if_neg h1, if_neg h2]
theorem x_tw_l (i t : Nat) : x_tw i t i = t := if_pos rfl
theorem x_tw_r (i t : Nat) : x_tw i t t = i := by
  unfold x_tw
  split
  · omega
  · rw [if_pos rfl]
/-- the state while row and column t are cleared -/
def x_DS (R C t : Nat) (A : Nat → Nat → Int) (wo0 wo : Nat → Int64) : Prop := x_Rl R C A wo ∧ x_Zr R C t wo ∧ ¬ wo (48 * t + t) = 0 ∧ (wo (48 * t + t)).toInt.natAbs ≤ (wo0 (48 * t + t)).toInt.natAbs ∧ ∀ a, a < t → wo (48 * a + a) = wo0 (48 * a + a)
theorem x_DS.rop {R C t : Nat} {A : Nat → Nat → Int} {wo0 wo wo1 : Nat → Int64} (h : x_DS R C t A wo0 wo) (hR : R ≤ 48) (hC : C ≤ 48) {i : Nat} (hi : i < R) (hti : t < i) (htc : t < C) (q : Int64) (hw : ∀ a b, a < 48 → b < 48 → wo1 (48 * a + b) = if a = i ∧ t ≤ b ∧ b < C then wo (48 * i + b) - q * wo (48 * t + b) else wo (48 * a + b)) : x_DS R C t A wo0 wo1 := by
  obtain ⟨h1, h2, h3, h4, h5⟩ := h
  have hp : wo1 (48 * t + t) = wo (48 * t + t) := by rw [hw t t (by omega) (by omega), if_neg (by omega)]
  refine ⟨h1.rop hi (t := t) (by omega) (by omega) q (fun a b ha hb => ?_), fun a b ha hb hab hne => ?_, by rw [hp]; exact h3, by rw [hp]; exact h4, fun a ha => ?_⟩
  · rw [hw a b (by omega) (by omega)]
    by_cases e : a = i
    · rw [if_pos e]
      by_cases c : t ≤ b
      · rw [if_pos ⟨e, c, hb⟩]
      · rw [if_neg (fun z => c z.2.1), h2 a b ha hb (by omega) (by omega), h2 i b hi hb (by omega) (by omega), h2 t b (by omega) hb (by omega) (by omega), x_s00]
    · rw [if_neg e, if_neg (fun z => e z.1)]
  · rw [hw a b (by omega) (by omega)]
    by_cases e : a = i ∧ t ≤ b ∧ b < C
    · exfalso
      omega
    · rw [if_neg e]
      exact h2 a b ha hb hab hne
  · rw [hw a a (by omega) (by omega), if_neg (by omega)]
    exact h5 a ha
theorem x_DS.swp {R C t : Nat} {A : Nat → Nat → Int} {wo0 wo wo1 : Nat → Int64} (h : x_DS R C t A wo0 wo) (hR : R ≤ 48) (hC : C ≤ 48) {i : Nat} (hi : i < R) (hti : t < i) (htc : t < C) (hn : ¬ wo (48 * i + t) = 0) (hl : (wo (48 * i + t)).toInt.natAbs ≤ (wo (48 * t + t)).toInt.natAbs) (hw : ∀ a b, a < 48 → b < 48 → wo1 (48 * a + b) = wo (48 * x_tw i t a + b)) : x_DS R C t A wo0 wo1 := by
  obtain ⟨h1, h2, h3, h4, h5⟩ := h
  have hp : wo1 (48 * t + t) = wo (48 * i + t) := by rw [hw t t (by omega) (by omega), x_tw_r]
  refine ⟨h1.rows (σ := x_tw i t) (fun a ha => x_tw_lt hi (by omega) ha) (fun a _ => x_tw_v i t a) (fun a b ha hb => hw a b (by omega) (by omega)), fun a b ha hb hab hne => ?_, by rw [hp]; exact hn, by rw [hp]; omega, fun a ha => ?_⟩
  · rw [hw a b (by omega) (by omega)]
    by_cases e1 : a = i
    · rw [e1, x_tw_l]
      exact h2 t b (by omega) hb (by omega) (by omega)
    · by_cases e2 : a = t
      · rw [e2, x_tw_r]
        exact h2 i b hi hb (by omega) (by omega)
      · rw [x_tw_n e1 e2]
        exact h2 a b ha hb hab hne
  · rw [hw a a (by omega) (by omega), x_tw_n (by omega) (by omega)]
    exact h5 a ha
theorem x_DS.cop {R C t : Nat} {A : Nat → Nat → Int} {wo0 wo wo1 : Nat → Int64} (h : x_DS R C t A wo0 wo) (hR : R ≤ 48) (hC : C ≤ 48) {j : Nat} (hj : j < C) (htj : t < j) (htr : t < R) (q : Int64) (hw : ∀ a b, a < 48 → b < 48 → wo1 (48 * a + b) = if t ≤ a ∧ a < R ∧ b = j then wo (48 * a + j) - q * wo (48 * a + t) else wo (48 * a + b)) : x_DS R C t A wo0 wo1 := by
  obtain ⟨h1, h2, h3, h4, h5⟩ := h
  have hp : wo1 (48 * t + t) = wo (48 * t + t) := by rw [hw t t (by omega) (by omega), if_neg (by omega)]
  refine ⟨h1.cop hj (t := t) (by omega) (by omega) q (fun a b ha hb => ?_), fun a b ha hb hab hne => ?_, by rw [hp]; exact h3, by rw [hp]; exact h4, fun a ha => ?_⟩
  · rw [hw a b (by omega) (by omega)]
    by_cases e : b = j
    · rw [if_pos e]
      by_cases c : t ≤ a
      · rw [if_pos ⟨c, ha, e⟩]
      · rw [if_neg (fun z => c z.1), h2 a b ha hb (by omega) (by omega), h2 a j ha hj (by omega) (by omega), h2 a t ha (by omega) (by omega) (by omega), x_s00]
    · rw [if_neg e, if_neg (fun z => e z.2.2)]
  · rw [hw a b (by omega) (by omega)]
    by_cases e : t ≤ a ∧ a < R ∧ b = j
    · exfalso
      omega
    · rw [if_neg e]
      exact h2 a b ha hb hab hne
  · rw [hw a a (by omega) (by omega), if_neg (by omega)]
    exact h5 a ha
/-- columns j and t exchanged, below row t -/
theorem x_DS.csw {R C t : Nat} {A : Nat → Nat → Int} {wo0 wo wo1 : Nat → Int64} (h : x_DS R C t A wo0 wo) (hR : R ≤ 48) (hC : C ≤ 48) {j : Nat} (hj : j < C) (htj : t < j) (htr : t < R) (hn : ¬ wo (48 * t + j) = 0) (hl : (wo (48 * t + j)).toInt.natAbs ≤ (wo (48 * t + t)).toInt.natAbs) (hw : ∀ a b, a < 48 → b < 48 → wo1 (48 * a + b) = if t ≤ a ∧ a < R then wo (48 * a + x_tw j t b) else wo (48 * a + b)) : x_DS R C t A wo0 wo1 := by
  obtain ⟨h1, h2, h3, h4, h5⟩ := h
  have hp : wo1 (48 * t + t) = wo (48 * t + j) := by rw [hw t t (by omega) (by omega), if_pos ⟨Nat.le_refl _, htr⟩, x_tw_r]
  have hall : ∀ a b, a < R → b < C → wo1 (48 * a + b) = wo (48 * a + x_tw j t b) := fun a b ha hb => by
    rw [hw a b (by omega) (by omega)]
    by_cases c : t ≤ a
    · rw [if_pos ⟨c, ha⟩]
    · rw [if_neg (fun z => c z.1)]
      by_cases e1 : b = j
      · rw [e1, x_tw_l, h2 a j ha hj (by omega) (by omega), h2 a t ha (by omega) (by omega) (by omega)]
      · by_cases e2 : b = t
        · rw [e2, x_tw_r, h2 a j ha hj (by omega) (by omega), h2 a t ha (by omega) (by omega) (by omega)]
        · rw [x_tw_n e1 e2]
  refine ⟨h1.cols (σ := x_tw j t) (fun a ha => x_tw_lt hj (by omega) ha) (fun a _ => x_tw_v j t a) hall, fun a b ha hb hab hne => ?_, by rw [hp]; exact hn, by rw [hp]; omega, fun a ha => ?_⟩
  · rw [hall a b ha hb]
    by_cases e1 : b = j
    · rw [e1, x_tw_l]
      exact h2 a t ha (by omega) (by omega) (by omega)
    · by_cases e2 : b = t
      · rw [e2, x_tw_r]
        exact h2 a j ha hj (by omega) (by omega)
      · rw [x_tw_n e1 e2]
        exact h2 a b ha hb hab hne
  · rw [hall a a (by omega) (by omega), x_tw_n (by omega) (by omega)]
    exact h5 a ha
