/-! BITS AND SPANS: rows by their lowest bit, rows by their highest bit -/
def f2_b (f : Nat → Bool) : Nat → Nat
  | 0 => 0
  | t + 1 => f2_b f t ||| (if f t then 2 ^ t else 0)
theorem f2_b_t (f : Nat → Bool) (i : Nat) : ∀ T, (f2_b f T).testBit i = (decide (i < T) && f i)
  | 0 => by
    show (0 : Nat).testBit i = _
    rw [Nat.zero_testBit, decide_eq_false (Nat.not_lt_zero i)]
    rfl
  | T + 1 => by
    show (f2_b f T ||| (if f T then 2 ^ T else 0)).testBit i = _
    rw [Nat.testBit_or, f2_b_t f i T]
    by_cases e : i = T
    · subst e
      rw [decide_eq_false (Nat.lt_irrefl i), decide_eq_true (Nat.lt_succ_self i), Bool.false_and, Bool.false_or, Bool.true_and]
      cases h : f i
      · rw [if_neg (by decide), Nat.zero_testBit]
      · rw [if_pos rfl, Nat.testBit_two_pow_self]
    · have e2 : (if f T then 2 ^ T else 0).testBit i = false := by
        cases h : f T
        · rw [if_neg (by decide), Nat.zero_testBit]
        · rw [if_pos rfl, Nat.testBit_two_pow_of_ne (fun q => e q.symm)]
      rw [e2, Bool.or_false]
      congr 1
      by_cases l : i < T
      · rw [decide_eq_true l, decide_eq_true (show i < T + 1 by omega)]
      · rw [decide_eq_false l, decide_eq_false (show ¬ i < T + 1 by omega)]
theorem f2_b_lt (f : Nat → Bool) (T : Nat) : f2_b f T < 2 ^ T := Nat.lt_pow_two_of_testBit _ (fun i hi => by
  rw [f2_b_t, decide_eq_false (by omega)]
  rfl)
/-- coboundaries and products of sets of edges -/
def f2_d (A B C : Nat → Nat) (T z : Nat) : Nat := f2_b (fun t => (z.testBit (A t)).xor ((z.testBit (B t)).xor (z.testBit (C t)))) T
def f2_p (A B : Nat → Nat) (T x y : Nat) : Nat := f2_b (fun t => x.testBit (A t) && y.testBit (B t)) T
theorem f2_d_x (A B C : Nat → Nat) (T z w : Nat) : f2_d A B C T (z ^^^ w) = f2_d A B C T z ^^^ f2_d A B C T w := Nat.eq_of_testBit_eq (fun i => by
  unfold f2_d
  rw [Nat.testBit_xor, f2_b_t, f2_b_t, f2_b_t, Nat.testBit_xor, Nat.testBit_xor, Nat.testBit_xor]
  cases decide (i < T) <;> cases z.testBit (A i) <;> cases z.testBit (B i) <;> cases z.testBit (C i) <;> cases w.testBit (A i) <;> cases w.testBit (B i) <;> cases w.testBit (C i) <;> rfl)
theorem f2_d_0 (A B C : Nat → Nat) (T : Nat) : f2_d A B C T 0 = 0 := by
  have z := f2_d_x A B C T 0 0
  rw [Nat.xor_self, Nat.xor_self] at z
  exact z
theorem f2_p_l (A B : Nat → Nat) (T x x' y : Nat) : f2_p A B T (x ^^^ x') y = f2_p A B T x y ^^^ f2_p A B T x' y := Nat.eq_of_testBit_eq (fun i => by
  unfold f2_p
  rw [Nat.testBit_xor, f2_b_t, f2_b_t, f2_b_t, Nat.testBit_xor]
  cases decide (i < T) <;> cases x.testBit (A i) <;> cases x'.testBit (A i) <;> cases y.testBit (B i) <;> rfl)
theorem f2_p_r (A B : Nat → Nat) (T x y y' : Nat) : f2_p A B T x (y ^^^ y') = f2_p A B T x y ^^^ f2_p A B T x y' := Nat.eq_of_testBit_eq (fun i => by
  unfold f2_p
  rw [Nat.testBit_xor, f2_b_t, f2_b_t, f2_b_t, Nat.testBit_xor]
  cases decide (i < T) <;> cases x.testBit (A i) <;> cases y.testBit (B i) <;> cases y'.testBit (B i) <;> rfl)
theorem f2_p_0l (A B : Nat → Nat) (T y : Nat) : f2_p A B T 0 y = 0 := by
  have z := f2_p_l A B T 0 0 y
  rw [Nat.xor_self, Nat.xor_self] at z
  exact z
theorem f2_p_0r (A B : Nat → Nat) (T x : Nat) : f2_p A B T x 0 = 0 := by
  have z := f2_p_r A B T x 0 0
  rw [Nat.xor_self, Nat.xor_self] at z
  exact z
/-- products of what is spanned -/
theorem f2_pp (A B : Nat → Nat) (T : Nat) {Z W : List Nat} (h : ∀ x y, x ∈ Z → y ∈ Z → f2_s W (f2_p A B T x y)) : ∀ x y, f2_s Z x → f2_s Z y → f2_s W (f2_p A B T x y) := by
  have key1 : ∀ (l : List Nat) (x : Nat), x ∈ Z → (∀ y, y ∈ l → y ∈ Z) → ∀ y, f2_s l y → f2_s W (f2_p A B T x y) := fun l => by
    induction l with
    | nil =>
      intro x _ _ y hy
      rw [show y = 0 from hy, f2_p_0r]
      exact f2_0 W
    | cons a l ih =>
      intro x hx hl y hy
      rcases hy with hy | hy
      · exact ih x hx (fun y hy => hl y (List.mem_cons_of_mem a hy)) y hy
      · have z := f2_add W _ _ (ih x hx (fun y hy => hl y (List.mem_cons_of_mem a hy)) _ hy) (h x a hx (hl a List.mem_cons_self))
        rwa [← f2_p_r, f2_xx] at z
  have key2 : ∀ (l : List Nat), (∀ y, y ∈ l → y ∈ Z) → ∀ x y, f2_s l x → f2_s Z y → f2_s W (f2_p A B T x y) := fun l => by
    induction l with
    | nil =>
      intro _ x y hx _
      rw [show x = 0 from hx, f2_p_0l]
      exact f2_0 W
    | cons a l ih =>
      intro hl x y hx hy
      rcases hx with hx | hx
      · exact ih (fun y hy => hl y (List.mem_cons_of_mem a hy)) x y hx hy
      · have z := f2_add W _ _ (ih (fun y hy => hl y (List.mem_cons_of_mem a hy)) _ y hx hy) (key1 Z a (hl a List.mem_cons_self) (fun y hy => hy) y hy)
        rwa [← f2_p_l, f2_xx] at z
  exact fun x y hx hy => key2 Z (fun y hy => hy) x y hx hy
/-- rows by number -/
def f2_L (l : Nat → Nat) : Nat → Nat → List Nat
  | 0, _ => []
  | d + 1, b => if l b = 0 then f2_L l d (b + 1) else l b :: f2_L l d (b + 1)
theorem f2_L_m (l : Nat → Nat) (a : Nat) : ∀ d b, a ∈ f2_L l d b ↔ ∃ c, b ≤ c ∧ c < b + d ∧ l c = a ∧ a ≠ 0
  | 0, b => ⟨fun h => absurd h (List.not_mem_nil), fun ⟨c, h1, h2, _⟩ => by omega⟩
  | d + 1, b => by
    have ih := f2_L_m l a d (b + 1)
    by_cases c : l b = 0
    · rw [show f2_L l (d + 1) b = f2_L l d (b + 1) from if_pos c, ih]
      constructor
      · rintro ⟨e, h1, h2, h3⟩
        exact ⟨e, by omega, by omega, h3⟩
      · rintro ⟨e, h1, h2, h3, h4⟩
        have : e ≠ b := fun q => h4 (by rw [← h3, q]; exact c)
        exact ⟨e, by omega, by omega, h3, h4⟩
    · rw [show f2_L l (d + 1) b = l b :: f2_L l d (b + 1) from if_neg c, List.mem_cons, ih]
      constructor
      · rintro (h | ⟨e, h1, h2, h3⟩)
        · exact ⟨b, Nat.le_refl _, by omega, h.symm, by rw [h]; exact c⟩
        · exact ⟨e, by omega, by omega, h3⟩
      · rintro ⟨e, h1, h2, h3, h4⟩
        by_cases q : e = b
        · exact Or.inl (by rw [← h3, q])
        · exact Or.inr ⟨e, by omega, by omega, h3, h4⟩
/-- a row put where none was -/
theorem f2_L_u (l : Nat → Nat) {b0 y : Nat} (h0 : l b0 = 0) (hy : y ≠ 0) : ∀ d b, (f2_L (fun c => if c = b0 then y else l c) d b).length = (f2_L l d b).length + (if b ≤ b0 ∧ b0 < b + d then 1 else 0)
  | 0, b => by
    rw [if_neg (by omega)]
    rfl
  | d + 1, b => by
    have ih := f2_L_u l h0 hy d (b + 1)
    by_cases e : b = b0
    · subst e
      rw [if_neg (by omega)] at ih
      have e1 : f2_L (fun c => if c = b then y else l c) (d + 1) b = y :: f2_L (fun c => if c = b then y else l c) d (b + 1) := by
        show (if (if b = b then y else l b) = 0 then _ else (if b = b then y else l b) :: _) = _
        rw [if_pos rfl, if_neg hy]
      rw [e1, show f2_L l (d + 1) b = f2_L l d (b + 1) from if_pos h0, List.length_cons, ih, if_pos (by omega)]
    · have e1 : f2_L (fun c => if c = b0 then y else l c) (d + 1) b = if l b = 0 then f2_L (fun c => if c = b0 then y else l c) d (b + 1) else l b :: f2_L (fun c => if c = b0 then y else l c) d (b + 1) := by
        show (if (if b = b0 then y else l b) = 0 then _ else (if b = b0 then y else l b) :: _) = _
        rw [if_neg e]
      have e2 : (if b + 1 ≤ b0 ∧ b0 < b + 1 + d then 1 else 0) = (if b ≤ b0 ∧ b0 < b + (d + 1) then 1 else 0) := by
        by_cases q : b ≤ b0 ∧ b0 < b + (d + 1)
        · rw [if_pos q, if_pos (by omega)]
        · rw [if_neg q, if_neg (by omega)]
      rw [e2] at ih
      rw [e1]
      by_cases c : l b = 0
      · rw [if_pos c, show f2_L l (d + 1) b = f2_L l d (b + 1) from if_pos c]
        exact ih
      · rw [if_neg c, show f2_L l (d + 1) b = l b :: f2_L l d (b + 1) from if_neg c, List.length_cons, List.length_cons, ih]
        omega
theorem f2_L_s (l : Nat → Nat) {b0 y : Nat} (h0 : l b0 = 0) (hy : y ≠ 0) (hb : b0 < 24) (x : Nat) : f2_s (f2_L (fun c => if c = b0 then y else l c) 24 0) x ↔ f2_s (y :: f2_L l 24 0) x := by
  constructor
  · refine f2_sub _ _ (fun a ha => f2_mem _ a ?_) x
    obtain ⟨c, h1, h2, h3, h4⟩ := (f2_L_m _ a 24 0).mp ha
    by_cases e : c = b0
    · have h3 : (if c = b0 then y else l c) = a := h3
      rw [if_pos e] at h3
      rw [h3]
      exact List.mem_cons_self
    · have h3 : (if c = b0 then y else l c) = a := h3
      rw [if_neg e] at h3
      exact List.mem_cons_of_mem y ((f2_L_m l a 24 0).mpr ⟨c, h1, h2, h3, h4⟩)
  · refine f2_sub _ _ (fun a ha => f2_mem _ a ?_) x
    rcases List.mem_cons.mp ha with e | e
    · exact (f2_L_m _ a 24 0).mpr ⟨b0, Nat.zero_le _, by omega, by show (if b0 = b0 then y else l b0) = a; rw [if_pos rfl, e], by rw [e]; exact hy⟩
    · obtain ⟨c, h1, h2, h3, h4⟩ := (f2_L_m l a 24 0).mp e
      have : c ≠ b0 := fun q => h4 (by rw [← h3, q]; exact h0)
      exact (f2_L_m _ a 24 0).mpr ⟨c, h1, h2, by show (if c = b0 then y else l c) = a; rw [if_neg this]; exact h3, h4⟩
theorem f2_bit0 {b : Nat} : ∀ (l : List Nat), (∀ a, a ∈ l → a.testBit b = false) → ∀ x, f2_s l x → x.testBit b = false
  | [], _, x, hx => by
    rw [show x = 0 from hx, Nat.zero_testBit]
  | a :: l, h, x, hx => by
    rcases hx with hx | hx
    · exact f2_bit0 l (fun c hc => h c (List.mem_cons_of_mem a hc)) x hx
    · have z := f2_bit0 l (fun c hc => h c (List.mem_cons_of_mem a hc)) _ hx
      rw [Nat.testBit_xor, h a List.mem_cons_self, Bool.xor_false] at z
      exact z
/-- lowest bits: each row has its own -/
def f2_lo (l : Nat → Nat) : Prop := ∀ b, b < 24 → l b = 0 ∨ (l b).testBit b = true ∧ ∀ c, c < b → (l b).testBit c = false
theorem f2_lo_i {l : Nat → Nat} (h : f2_lo l) : ∀ d b, b + d ≤ 24 → f2_i (f2_L l d b)
  | 0, _, _ => trivial
  | d + 1, b, hb => by
    have ih := f2_lo_i h d (b + 1) (by omega)
    by_cases c : l b = 0
    · rw [show f2_L l (d + 1) b = f2_L l d (b + 1) from if_pos c]
      exact ih
    · rw [show f2_L l (d + 1) b = l b :: f2_L l d (b + 1) from if_neg c]
      refine ⟨fun q => ?_, ih⟩
      have z := f2_bit0 (b := b) _ (fun a ha => by
        obtain ⟨e, h1, h2, h3, h4⟩ := (f2_L_m l a d (b + 1)).mp ha
        rcases h e (by omega) with q | q
        · exact absurd (h3.symm.trans q) h4
        · rw [← h3]
          exact q.2 b (by omega)) _ q
      rcases h b (by omega) with q2 | q2
      · exact c q2
      · rw [q2.1] at z
        cases z
def f2_hi (l : Nat → Nat) : Prop := ∀ b, b < 24 → l b = 0 ∨ (l b).testBit b = true ∧ l b < 2 ^ (b + 1)
def f2_H (l : Nat → Nat) : Nat → List Nat
  | 0 => []
  | b + 1 => if l b = 0 then f2_H l b else l b :: f2_H l b
theorem f2_H_m (l : Nat → Nat) (a : Nat) : ∀ b, a ∈ f2_H l b ↔ ∃ c, c < b ∧ l c = a ∧ a ≠ 0
  | 0 => ⟨fun h => absurd h (List.not_mem_nil), fun ⟨c, h1, _⟩ => by omega⟩
  | b + 1 => by
    have ih := f2_H_m l a b
    by_cases c : l b = 0
    · rw [show f2_H l (b + 1) = f2_H l b from if_pos c, ih]
      constructor
      · rintro ⟨e, h1, h3⟩
        exact ⟨e, by omega, h3⟩
      · rintro ⟨e, h1, h3, h4⟩
        have : e ≠ b := fun q => h4 (by rw [← h3, q]; exact c)
        exact ⟨e, by omega, h3, h4⟩
    · rw [show f2_H l (b + 1) = l b :: f2_H l b from if_neg c, List.mem_cons, ih]
      constructor
      · rintro (h | ⟨e, h1, h3⟩)
        · exact ⟨b, by omega, h.symm, by rw [h]; exact c⟩
        · exact ⟨e, by omega, h3⟩
      · rintro ⟨e, h1, h3, h4⟩
        by_cases q : e = b
        · exact Or.inl (by rw [← h3, q])
        · exact Or.inr ⟨e, by omega, h3, h4⟩
theorem f2_hi_i {l : Nat → Nat} (h : f2_hi l) : ∀ b, b ≤ 24 → f2_i (f2_H l b)
  | 0, _ => trivial
  | b + 1, hb => by
    have ih := f2_hi_i h b (by omega)
    by_cases c : l b = 0
    · rw [show f2_H l (b + 1) = f2_H l b from if_pos c]
      exact ih
    · rw [show f2_H l (b + 1) = l b :: f2_H l b from if_neg c]
      refine ⟨fun q => ?_, ih⟩
      have z := f2_bit0 (b := b) _ (fun a ha => by
        obtain ⟨e, h1, h3, h4⟩ := (f2_H_m l a b).mp ha
        rcases h e (by omega) with q | q
        · exact absurd (h3.symm.trans q) h4
        · rw [← h3]
          refine Nat.testBit_lt_two_pow (Nat.lt_of_lt_of_le q.2 ?_)
          exact Nat.pow_le_pow_right (by decide) (by omega)) _ q
      rcases h b (by omega) with q2 | q2
      · exact c q2
      · rw [q2.1] at z
        cases z
theorem f2_H_u (l : Nat → Nat) {b0 y : Nat} (h0 : l b0 = 0) (hy : y ≠ 0) : ∀ b, (f2_H (fun c => if c = b0 then y else l c) b).length = (f2_H l b).length + (if b0 < b then 1 else 0)
  | 0 => by
    rw [if_neg (by omega)]
    rfl
  | b + 1 => by
    have ih := f2_H_u l h0 hy b
    by_cases e : b = b0
    · subst e
      rw [if_neg (by omega)] at ih
      have e1 : f2_H (fun c => if c = b then y else l c) (b + 1) = y :: f2_H (fun c => if c = b then y else l c) b := by
        show (if (if b = b then y else l b) = 0 then _ else (if b = b then y else l b) :: _) = _
        rw [if_pos rfl, if_neg hy]
      rw [e1, show f2_H l (b + 1) = f2_H l b from if_pos h0, List.length_cons, ih, if_pos (by omega)]
    · have e1 : f2_H (fun c => if c = b0 then y else l c) (b + 1) = if l b = 0 then f2_H (fun c => if c = b0 then y else l c) b else l b :: f2_H (fun c => if c = b0 then y else l c) b := by
        show (if (if b = b0 then y else l b) = 0 then _ else (if b = b0 then y else l b) :: _) = _
        rw [if_neg e]
      have e2 : (if b0 < b then 1 else 0) = (if b0 < b + 1 then 1 else 0) := by
        by_cases q : b0 < b + 1
        · rw [if_pos q, if_pos (by omega)]
        · rw [if_neg q, if_neg (by omega)]
      rw [e2] at ih
      rw [e1]
      by_cases c : l b = 0
      · rw [if_pos c, show f2_H l (b + 1) = f2_H l b from if_pos c]
        exact ih
      · rw [if_neg c, show f2_H l (b + 1) = l b :: f2_H l b from if_neg c, List.length_cons, List.length_cons, ih]
        omega
theorem f2_H_s (l : Nat → Nat) {b0 y : Nat} (h0 : l b0 = 0) (hy : y ≠ 0) (hb : b0 < 24) (x : Nat) : f2_s (f2_H (fun c => if c = b0 then y else l c) 24) x ↔ f2_s (y :: f2_H l 24) x := by
  constructor
  · refine f2_sub _ _ (fun a ha => f2_mem _ a ?_) x
    obtain ⟨c, h1, h3, h4⟩ := (f2_H_m _ a 24).mp ha
    have h3 : (if c = b0 then y else l c) = a := h3
    by_cases e : c = b0
    · rw [if_pos e] at h3
      rw [h3]
      exact List.mem_cons_self
    · rw [if_neg e] at h3
      exact List.mem_cons_of_mem y ((f2_H_m l a 24).mpr ⟨c, h1, h3, h4⟩)
  · refine f2_sub _ _ (fun a ha => f2_mem _ a ?_) x
    rcases List.mem_cons.mp ha with e | e
    · exact (f2_H_m _ a 24).mpr ⟨b0, hb, by show (if b0 = b0 then y else l b0) = a; rw [if_pos rfl, e], by rw [e]; exact hy⟩
    · obtain ⟨c, h1, h3, h4⟩ := (f2_H_m l a 24).mp e
      have : c ≠ b0 := fun q => h4 (by rw [← h3, q]; exact h0)
      exact (f2_H_m _ a 24).mpr ⟨c, h1, by show (if c = b0 then y else l c) = a; rw [if_neg this]; exact h3, h4⟩
/-- the reference's extension -/
def f2_x (l : Nat → Nat) : Nat → Nat → (Nat → Nat) × Nat
  | 0, _ => (l, 0)
  | b + 1, x => if x.testBit b then (if l b = 0 then (fun c => if c = b then x else l c, 1) else f2_x l b (x ^^^ l b)) else f2_x l b x
theorem f2_x_ok {l : Nat → Nat} (h : f2_hi l) : ∀ b x, b ≤ 24 → x < 2 ^ b → f2_hi (f2_x l b x).1 ∧ (f2_H (f2_x l b x).1 24).length = (f2_H l 24).length + (f2_x l b x).2 ∧ (∀ y, f2_s (f2_H (f2_x l b x).1 24) y ↔ f2_s (x :: f2_H l 24) y)
  | 0, x, _, hx => by
    have : x = 0 := by
      rw [Nat.pow_zero] at hx
      omega
    subst this
    refine ⟨h, rfl, fun y => ⟨Or.inl, fun q => q.elim id (fun z => ?_)⟩⟩
    rwa [Nat.xor_zero] at z
  | b + 1, x, hb, hx => by
    by_cases c : x.testBit b = true
    · have hx0 : x ≠ 0 := fun q => by
        rw [q, Nat.zero_testBit] at c
        cases c
      by_cases z : l b = 0
      · rw [show f2_x l (b + 1) x = (fun c => if c = b then x else l c, 1) from (if_pos c).trans (if_pos z)]
        refine ⟨fun e he => ?_, ?_, f2_H_s l z hx0 (by omega)⟩
        · show (if e = b then x else l e) = 0 ∨ (if e = b then x else l e).testBit e = true ∧ (if e = b then x else l e) < 2 ^ (e + 1)
          by_cases q : e = b
          · rw [if_pos q, q]
            exact Or.inr ⟨c, hx⟩
          · rw [if_neg q]
            exact h e he
        · show (f2_H (fun c => if c = b then x else l c) 24).length = _ + 1
          rw [f2_H_u l z hx0, if_pos (by omega)]
      · rw [show f2_x l (b + 1) x = f2_x l b (x ^^^ l b) from (if_pos c).trans (if_neg z)]
        obtain ⟨hb1, hb2⟩ := (h b (by omega)).resolve_left z
        have hlt : x ^^^ l b < 2 ^ b := Nat.lt_pow_two_of_testBit _ (fun i hi => by
          rw [Nat.testBit_xor]
          by_cases e : i = b
          · rw [e, c, hb1]
            rfl
          · rw [Nat.testBit_lt_two_pow (Nat.lt_of_lt_of_le hx (Nat.pow_le_pow_right (by decide) (show b + 1 ≤ i by omega))), Nat.testBit_lt_two_pow (Nat.lt_of_lt_of_le hb2 (Nat.pow_le_pow_right (by decide) (show b + 1 ≤ i by omega)))]
            rfl)
        obtain ⟨i1, i2, i3⟩ := f2_x_ok h b (x ^^^ l b) (by omega) hlt
        refine ⟨i1, i2, fun y => (i3 y).trans ?_⟩
        have hm : f2_s (f2_H l 24) (l b) := f2_mem _ _ ((f2_H_m l _ 24).mpr ⟨b, by omega, rfl, z⟩)
        constructor
        · rintro (q | q)
          · exact Or.inl q
          · refine Or.inr ?_
            have w := f2_add _ _ _ q hm
            rwa [← Nat.xor_assoc, f2_xx] at w
        · rintro (q | q)
          · exact Or.inl q
          · refine Or.inr ?_
            have w := f2_add _ _ _ q hm
            rwa [Nat.xor_assoc] at w
    · have e : f2_x l (b + 1) x = f2_x l b x := if_neg c
      rw [e]
      refine f2_x_ok h b x (by omega) (Nat.lt_pow_two_of_testBit _ (fun i hi => ?_))
      by_cases q : i = b
      · rw [q]
        exact Bool.eq_false_iff.mpr c
      · exact Nat.testBit_lt_two_pow (Nat.lt_of_lt_of_le hx (Nat.pow_le_pow_right (by decide) (show b + 1 ≤ i by omega)))
/-- the counter's reduction -/
def f2_r (r : Nat → Nat) : Nat → Nat → Nat → Nat
  | 0, _, x => x
  | d + 1, b, x => f2_r r d (b + 1) (if x.testBit b then x ^^^ r b else x)
theorem f2_r_ok {r : Nat → Nat} (h : f2_lo r) : ∀ d b x, b + d = 24 → (∀ c, c < b → x.testBit c = true → r c = 0) → (∀ c, c < 24 → (f2_r r d b x).testBit c = true → r c = 0) ∧ f2_s (f2_L r 24 0) (x ^^^ f2_r r d b x)
  | 0, b, x, hb, hx => ⟨fun c hc => hx c (by omega), by
      show f2_s _ (x ^^^ x)
      rw [Nat.xor_self]
      exact f2_0 _⟩
  | d + 1, b, x, hb, hx => by
    show (∀ c, c < 24 → (f2_r r d (b + 1) (if x.testBit b then x ^^^ r b else x)).testBit c = true → r c = 0) ∧ f2_s _ (x ^^^ f2_r r d (b + 1) (if x.testBit b then x ^^^ r b else x))
    by_cases c : x.testBit b = true
    · rw [if_pos c]
      have hn : ∀ e, e < b + 1 → (x ^^^ r b).testBit e = true → r e = 0 := fun e he ht => by
        rcases h b (by omega) with z | z
        · rw [z, Nat.xor_zero] at ht
          by_cases q : e = b
          · rw [q]
            exact z
          · exact hx e (by omega) ht
        · rw [Nat.testBit_xor] at ht
          by_cases q : e = b
          · rw [q, c, z.1] at ht
            cases ht
          · rw [z.2 e (by omega), Bool.xor_false] at ht
            exact hx e (by omega) ht
      obtain ⟨i1, i2⟩ := f2_r_ok h d (b + 1) (x ^^^ r b) (by omega) hn
      refine ⟨i1, ?_⟩
      by_cases z : r b = 0
      · rw [z, Nat.xor_zero] at i2 ⊢
        exact i2
      · have w := f2_add _ _ _ i2 (f2_mem _ _ ((f2_L_m r _ 24 0).mpr ⟨b, Nat.zero_le _, by omega, rfl, z⟩))
        have e : x ^^^ r b ^^^ f2_r r d (b + 1) (x ^^^ r b) ^^^ r b = x ^^^ f2_r r d (b + 1) (x ^^^ r b) := by
          rw [Nat.xor_assoc x, Nat.xor_comm (r b), Nat.xor_assoc x, f2_xx]
        rwa [e] at w
    · rw [if_neg c]
      exact f2_r_ok h d (b + 1) x (by omega) (fun e he ht => by
        by_cases q : e = b
        · rw [q] at ht
          exact absurd ht c
        · exact hx e (by omega) ht)
